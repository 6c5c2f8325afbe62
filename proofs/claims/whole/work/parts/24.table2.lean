theorem dg_next {n k m : Nat} (hn : 0 < n) (hm : m + 1 ≤ n * n) (hP : (k + 1) % n ^ (n * n - (m + 1)) = 0) (hlt : dg n k m < n - 1) :
    (∀ j, j < m → dg n (k + 1) j = dg n k j) ∧ dg n (k + 1) m = dg n k m + 1 ∧ ∀ j, m < j → j < n * n → dg n (k + 1) j = 0 := by
  obtain ⟨P, hPd⟩ : ∃ P, P = n ^ (n * n - (m + 1)) := ⟨_, rfl⟩
  rw [← hPd] at hP
  have hP0 : 0 < P := by rw [hPd]; exact Nat.pow_pos hn
  obtain ⟨q, hq⟩ : ∃ q, k + 1 = P * (q + 1) := by
    obtain ⟨c, hc⟩ := Nat.dvd_of_mod_eq_zero hP
    cases c with
    | zero => omega
    | succ c => exact ⟨c, hc⟩
  have hk : k / P = q := by
    have : k = P * q + (P - 1) := by rw [Nat.mul_succ] at hq; omega
    rw [this, Nat.mul_add_div hP0, Nat.div_eq_of_lt (by omega), Nat.add_zero]
  have hk1 : (k + 1) / P = q + 1 := by rw [hq, Nat.mul_div_cancel_left _ hP0]
  have hm0 : dg n k m = q % n := by unfold dg; rw [show n * n - 1 - m = n * n - (m + 1) by omega, ← hPd, hk]
  rw [hm0] at hlt
  refine ⟨fun j hj => ?_, ?_, fun j h1 h2 => ?_⟩
  · unfold dg
    rw [show n * n - 1 - j = (n * n - (m + 1)) + (1 + (m - 1 - j)) by omega, Nat.pow_add, ← hPd, ← Nat.div_div_eq_div_mul, ← Nat.div_div_eq_div_mul, hk, hk1, Nat.pow_add, Nat.pow_one, ← Nat.div_div_eq_div_mul, ← Nat.div_div_eq_div_mul]
    have : (q + 1) / n = q / n := by
      have h3 : q + 1 = n * (q / n) + (q % n + 1) := by rw [← Nat.add_assoc, Nat.div_add_mod]
      rw [h3, Nat.mul_add_div hn, Nat.div_eq_of_lt (show q % n + 1 < n by omega), Nat.add_zero]
    rw [this]
  · rw [hm0]
    unfold dg
    rw [show n * n - 1 - m = n * n - (m + 1) by omega, ← hPd, hk1, Nat.add_mod]
    rcases Nat.lt_or_ge 1 n with h | h
    · rw [Nat.mod_eq_of_lt h, Nat.mod_eq_of_lt (by omega)]
    · omega
  · unfold dg
    rw [hq, hPd, show n * n - (m + 1) = (n * n - 1 - j) + ((j - m - 1) + 1) by omega, Nat.pow_add, Nat.mul_assoc, Nat.mul_div_cancel_left _ (Nat.pow_pos hn), Nat.pow_succ, Nat.mul_assoc, Nat.mul_comm, Nat.mul_assoc, Nat.mul_mod_right]
theorem sp_Table_advance (M : zMem) (n k : Nat) (hn : okn n) (ht : tbl M n k) : zSp zd_Table_advance 0 [zr 3] M (fun _ M' => zfr [15] M M' ∧ (k + 1 < n ^ (n * n) → tbl M' n (k + 1))) := by
  refine zSp_in 1 [some (zr 3), none] rfl rfl (by decide +kernel) rfl ?_
  refine z_withR (fun hR => ?_)
  have hn3 := hn.le
  have hn0 := hn.pos
  have hq := sq_le hn
  have hsz := ht.1
  have loop : ∀ (m : Nat) (M1 : zMem), m ≤ n * n → zfr [15] M M1 → (k + 1) % n ^ (n * n - m) = 0 → (∀ j, j < m → M1 15 j = dg n k j) → (∀ j, m ≤ j → j < n * n → M1 15 j = 0) → zV zd_Table_advance 0 12 [some (zr 3), some (zi ((m : Int) - 1))] [] M1 (fun _ M' => zfr [15] M M' ∧ (k + 1 < n ^ (n * n) → tbl M' n (k + 1))) := by
    intro m
    induction m with
    | zero =>
      intro M1 hm hf hP hc h0
      refine z_withR (fun hR => ?_)
      refine ziload_2_1 dX6_advance_12 ?_
      refine z_if_lt (tgt := 55) (by first | omega | exact hR.1 _ _ (by decide) | exact zrng_toInt _) dX6_advance_13 (by decide) (fun h13 => ?_) (fun h13 => ?_)
      · refine z_vret rfl ?_ dX6_advance_55
        refine ⟨hf, fun h => ?_⟩
        rw [Nat.sub_zero, Nat.mod_eq_of_lt h] at hP
        omega
      · omega
    | succ m ih =>
      intro M1 hm hf hP hc h0
      refine z_withR (fun hR => ?_)
      have hs1 : M1 3 2 = n := by rw [hf 3 (by decide)]; exact hsz
      have hcm := hc m (by omega)
      have hd := dg_lt (n := n) (k := k) (j := m) hn0
      rw [show ((m + 1 : Nat) : Int) - 1 = (m : Int) by omega]
      refine ziload_2_1 dX6_advance_12 ?_
      refine z_if_lt (tgt := 55) (by first | omega | exact hR.1 _ _ (by decide) | exact zrng_toInt _) dX6_advance_13 (by decide) (fun h13 => ?_) (fun h13 => ?_)
      · omega
      · refine zaload_2_0 dX6_advance_16 ?_
        refine zg_Table_9 rfl dX6_advance_17 ?_
        refine ziload_2_1 dX6_advance_20 ?_
        refine z_iald (m) rfl (by decide) (by decide) (by omega) (by omega) dX6_advance_21 ?_
        refine z_top hcm ?_
        refine zaload_2_0 dX6_advance_22 ?_
        refine zg_Table_20 rfl dX6_advance_23 ?_
        refine z_top hs1 ?_
        refine z_iconst dX6_advance_26 ?_
        refine z_isub dX6_advance_27 ?_
        refine z_icmp_ge (tgt := 42) (by first | omega | exact hR.1 _ _ (by decide) | exact zrng_toInt _) (by first | omega | exact hR.1 _ _ (by decide) | exact zrng_toInt _) dX6_advance_28 (by decide) (fun h28 => ?_) (fun h28 => ?_)
        · refine zaload_2_0 dX6_advance_42 ?_
          refine zg_Table_9 rfl dX6_advance_43 ?_
          refine ziload_2_1 dX6_advance_46 ?_
          refine z_iconst dX6_advance_47 ?_
          refine z_iast (m) (by decide) rfl (by decide) (by decide) (by omega) (by omega) (by first | omega | exact hR.1 _ _ (by decide) | exact zrng_toInt _) dX6_advance_48 ?_
          refine z_withR (fun hR => ?_)
          refine ziinc_2_1 dX6_advance_49 ?_
          refine z_goto (tgt := 12) dX6_advance_52 (by decide) ?_
          have hdm : dg n k m = n - 1 := by omega
          refine ih _ (by omega) (hf.mu (by decide)) ?_ (fun j hj => ?_) (fun j h1 h2 => ?_)
          · have e3 : n ^ (n * n - m) = n ^ (n * n - (m + 1)) * n := by rw [← Nat.pow_succ, show (n * n - (m + 1)).succ = n * n - m by omega]
            obtain ⟨c, hc2⟩ := Nat.dvd_of_mod_eq_zero hP
            obtain ⟨P, hPd⟩ : ∃ P, P = n ^ (n * n - (m + 1)) := ⟨_, rfl⟩
            have hP0 : 0 < P := by rw [hPd]; exact Nat.pow_pos hn0
            rw [e3]
            rw [← hPd] at hc2 ⊢
            have hkd : k / P % n = n - 1 := by rw [← hdm]; unfold dg; rw [show n * n - 1 - m = n * n - (m + 1) by omega, ← hPd]
            cases c with
            | zero => omega
            | succ c =>
              have hk : k / P = c := by
                have : k = P * c + (P - 1) := by rw [Nat.mul_succ] at hc2; omega
                rw [this, Nat.mul_add_div hP0, Nat.div_eq_of_lt (by omega), Nat.add_zero]
              rw [hk] at hkd
              have h5 : c + 1 = n * (c / n + 1) := by rw [Nat.mul_succ]; have := Nat.div_add_mod c n; omega
              rw [hc2, h5, ← Nat.mul_assoc, Nat.mul_mod_right]
          · rw [zmu_ne _ _ _ _ (by omega)]; exact hc j (by omega)
          · rcases Nat.lt_or_ge m j with q | q
            · rw [zmu_ne _ _ _ _ (by omega)]; exact h0 j (by omega) h2
            · rw [show j = m by omega, zmu_same]
        · refine zaload_2_0 dX6_advance_31 ?_
          refine zg_Table_9 rfl dX6_advance_32 ?_
          refine ziload_2_1 dX6_advance_35 ?_
          refine z_dup2 (fun _ => rfl) (fun _ => rfl) dX6_advance_36 ?_
          refine z_iald (m) rfl (by decide) (by decide) (by omega) (by omega) dX6_advance_37 ?_
          refine z_top hcm ?_
          refine z_iconst dX6_advance_38 ?_
          refine z_iadd dX6_advance_39 ?_
          refine z_iast (m) (by decide) rfl (by decide) (by decide) (by omega) (by omega) (by first | omega | exact hR.1 _ _ (by decide) | exact zrng_toInt _) dX6_advance_40 ?_
          refine z_withR (fun hR => ?_)
          refine z_vret rfl ?_ dX6_advance_41
          refine ⟨hf.mu (by decide), fun h => ⟨hs1, fun j hj => ?_⟩⟩
          obtain ⟨g1, g2, g3⟩ := dg_next hn0 hm hP (by omega)
          rcases Nat.lt_trichotomy j m with q | q | q
          · rw [zmu_ne _ _ _ _ (by omega), g1 j q]; exact hc j (by omega)
          · rw [q, zmu_same, g2]; omega
          · rw [zmu_ne _ _ _ _ (by omega), g3 j q hj]; exact h0 j (by omega) hj
  refine zaload_2_0 dX6_advance_0 ?_
  refine zg_Table_20 rfl dX6_advance_1 ?_
  refine z_top hsz ?_
  refine zaload_2_0 dX6_advance_4 ?_
  refine zg_Table_20 rfl dX6_advance_5 ?_
  refine z_top hsz ?_
  refine z_imul dX6_advance_8 ?_
  refine z_iconst dX6_advance_9 ?_
  refine z_isub dX6_advance_10 ?_
  refine zistore_2_1 dX6_advance_11 ?_
  have := loop (n * n) M (Nat.le_refl _) zfr.rf (by rw [Nat.sub_self, Nat.pow_zero, Nat.mod_one]) ht.2 (fun j h1 h2 => by omega)
  rw [show ((n * n : Nat) : Int) = (n : Int) * n from by omega] at this
  exact this
theorem zro_NW : ∀ r, r < 6 → ∀ v, v < 3 → zro 71 (3 * r + v) = NW r v ∧ zro 72 (3 * r + v) = OD r v := by decide
theorem RN_le {n : Nat} (hn : okn n) : RN n ≤ 6 := by rcases hn with rfl | rfl | rfl <;> decide
theorem zro_RN {n : Nat} (hn : okn n) : zro 73 n = RN n := by rcases hn with rfl | rfl | rfl <;> rfl
theorem sp_Table_renamedCell (M : zMem) (n k r x y : Nat) (hn : okn n) (ht : tbl M n k) (hr : r < RN n) (hx : x < n) (hy : y < n) : zSp zd_Table_renamedCell 0 [zr 3, zi r, zi x, zi y] M (fun v M' => M' = M ∧ v = rhoF n r k (x * n + y)) := by
  refine zSp_in 1 [some (zr 3), some (zi r), some (zi x), some (zi y), none] rfl rfl (by decide +kernel) rfl ?_
  refine z_withR (fun hR => ?_)
  have hn3 := hn.le
  have hn0 := hn.pos
  have hr6 := RN_le hn
  obtain ⟨hs, hc⟩ := ht
  obtain ⟨-, ox, -, -⟩ := NW_ok hn hr hx
  obtain ⟨-, oy, -, -⟩ := NW_ok hn hr hy
  have ex := (zro_NW r (by omega) x (by omega)).2
  have ey := (zro_NW r (by omega) y (by omega)).2
  have hp := pair_lt ox oy
  have hcc := hc _ hp
  have hd := dg_lt (n := n) (k := k) (j := OD r x * n + OD r y) hn0
  have hq := sq_le hn
  have en := (zro_NW r (by omega) (dg n k (OD r x * n + OD r y)) (by omega)).1
  generalize hOx : OD r x = Ox at ox hp hcc hd en ex
  generalize hOy : OD r y = Oy at oy hp hcc hd en ey
  generalize hdd : dg n k (Ox * n + Oy) = D at hcc hd en
  refine ziload_5_1 dX6_renamedCell_0 ?_
  refine z_iconst dX6_renamedCell_1 ?_
  refine z_imul dX6_renamedCell_2 ?_
  refine zistore_5_4 dX6_renamedCell_3 ?_
  refine zg_Table_28 rfl dX6_renamedCell_5 ?_
  refine ziload_5_4 dX6_renamedCell_8 ?_
  refine zaload_5_0 dX6_renamedCell_10 ?_
  refine zg_Table_9 rfl dX6_renamedCell_11 ?_
  refine zg_Table_31 rfl dX6_renamedCell_14 ?_
  refine ziload_5_4 dX6_renamedCell_17 ?_
  refine ziload_5_2 dX6_renamedCell_19 ?_
  refine z_iadd dX6_renamedCell_20 ?_
  refine z_tald72 (3 * r + x) (by omega) (by omega) dX6_renamedCell_21 ?_
  refine z_top ex ?_
  refine zaload_5_0 dX6_renamedCell_22 ?_
  refine zg_Table_20 rfl dX6_renamedCell_23 ?_
  refine z_top hs ?_
  refine z_imul dX6_renamedCell_26 ?_
  refine zg_Table_31 rfl dX6_renamedCell_27 ?_
  refine ziload_5_4 dX6_renamedCell_30 ?_
  refine ziload_5_3 dX6_renamedCell_32 ?_
  refine z_iadd dX6_renamedCell_33 ?_
  refine z_tald72 (3 * r + y) (by omega) (by omega) dX6_renamedCell_34 ?_
  refine z_top ey ?_
  refine z_iadd dX6_renamedCell_35 ?_
  refine z_iald (Ox * n + Oy) rfl (by decide) (by decide) (by omega) (by omega) dX6_renamedCell_36 ?_
  refine z_top hcc ?_
  refine z_iadd dX6_renamedCell_37 ?_
  refine z_tald71 (3 * r + D) (by omega) (by omega) dX6_renamedCell_38 ?_
  refine z_top en ?_
  refine z_iret rfl ?_ dX6_renamedCell_39
  refine ⟨rfl, ?_⟩
  unfold rhoF
  rw [pair_div hy, pair_mod hy, hOx, hOy, hdd]
theorem sp_Table_renamedNumber (M : zMem) (n k r : Nat) (hn : okn n) (ht : tbl M n k) (hr : r < RN n) : zSp zd_Table_renamedNumber 1 [zr 3, zi r] M (fun v M' => M' = M ∧ v = rho n r k) := by
  refine zSp_in 3 [some (zr 3), some (zi r), none, none, none] rfl rfl (by decide +kernel) rfl ?_
  refine z_withR (fun hR => ?_)
  have hn3 := hn.le
  have hn0 := hn.pos
  have hq := sq_le hn
  have hs := ht.1
  have bnd : ∀ j, j ≤ n * n → encF n (rhoF n r k) j < 19684 := by
    intro j hj
    have h1 := encF_lt (f := rhoF n r k) hn0 j (fun _ _ => rhoF_lt hn hr)
    have h2 : n ^ j ≤ 3 ^ 9 := Nat.le_trans (Nat.pow_le_pow_left hn3 j) (Nat.pow_le_pow_right (by decide) (by omega))
    omega
  have inner : ∀ (m x : Nat), x < n → ∀ y, y + m = n → (∀ (v : Int), v = encF n (rhoF n r k) (x * n + n) → zV zd_Table_renamedNumber 1 46 [some (zr 3), some (zi r), some (zi v), some (zi x), some (zi n)] [] M (fun v M' => M' = M ∧ v = rho n r k)) → zV zd_Table_renamedNumber 1 15 [some (zr 3), some (zi r), some (zi (encF n (rhoF n r k) (x * n + y))), some (zi x), some (zi y)] [] M (fun v M' => M' = M ∧ v = rho n r k) := by
    intro m
    induction m with
    | zero =>
      intro x hx y hy kk
      refine ziload_5_4 dX6_renamedNumber_15 ?_
      refine zaload_5_0 dX6_renamedNumber_17 ?_
      refine zg_Table_20 rfl dX6_renamedNumber_18 ?_
      refine z_top hs ?_
      refine z_icmp_ge (tgt := 46) (by first | omega | exact hR.1 _ _ (by decide) | exact zrng_toInt _) (by first | omega | exact hR.1 _ _ (by decide) | exact zrng_toInt _) dX6_renamedNumber_21 (by decide) (fun h21 => ?_) (fun h21 => ?_)
      · rw [show y = n by omega]
        exact kk _ rfl
      · omega
    | succ m ih =>
      intro x hx y hy kk
      have hp := pair_lt hx (show y < n by omega)
      have hb := bnd (x * n + y) (by omega)
      have hl := rhoF_lt (k := k) (j := x * n + y) hn hr
      have e1 : encF n (rhoF n r k) (x * n + (y + 1)) = encF n (rhoF n r k) (x * n + y) * n + rhoF n r k (x * n + y) := rfl
      refine ziload_5_4 dX6_renamedNumber_15 ?_
      refine zaload_5_0 dX6_renamedNumber_17 ?_
      refine zg_Table_20 rfl dX6_renamedNumber_18 ?_
      refine z_top hs ?_
      refine z_icmp_ge (tgt := 46) (by first | omega | exact hR.1 _ _ (by decide) | exact zrng_toInt _) (by first | omega | exact hR.1 _ _ (by decide) | exact zrng_toInt _) dX6_renamedNumber_21 (by decide) (fun h21 => ?_) (fun h21 => ?_)
      · omega
      · refine ziload_5_2 dX6_renamedNumber_24 ?_
        refine zaload_5_0 dX6_renamedNumber_25 ?_
        refine zg_Table_20 rfl dX6_renamedNumber_26 ?_
        refine z_top hs ?_
        refine z_imul dX6_renamedNumber_29 ?_
        refine zaload_5_0 dX6_renamedNumber_30 ?_
        refine ziload_5_1 dX6_renamedNumber_31 ?_
        refine ziload_5_3 dX6_renamedNumber_32 ?_
        refine ziload_5_4 dX6_renamedNumber_33 ?_
        refine zc_Table_34 rfl dX6_renamedNumber_35 (by decide) (Nat.le_of_ble_eq_true rfl) (sp_Table_renamedCell M n k r x y hn ht hr hx (by omega)) (fun r35 M35 hq35 => ?_)
        refine z_withR (fun hR => ?_)
        obtain ⟨rfl, rfl⟩ := hq35
        refine z_iadd dX6_renamedNumber_38 ?_
        refine zistore_5_2 dX6_renamedNumber_39 ?_
        refine ziinc_5_4 dX6_renamedNumber_40 ?_
        refine z_goto (tgt := 15) dX6_renamedNumber_43 (by decide) ?_
        have := ih x hx (y + 1) (by omega) kk
        rw [e1] at this
        exact this
  have outer : ∀ (m x : Nat) (g : Option zAV), x + m = n → zV zd_Table_renamedNumber 1 4 [some (zr 3), some (zi r), some (zi (encF n (rhoF n r k) (x * n))), some (zi x), g] [] M (fun v M' => M' = M ∧ v = rho n r k) := by
    intro m
    induction m with
    | zero =>
      intro x g hx
      refine ziload_5_3 dX6_renamedNumber_4 ?_
      refine zaload_5_0 dX6_renamedNumber_5 ?_
      refine zg_Table_20 rfl dX6_renamedNumber_6 ?_
      refine z_top hs ?_
      refine z_icmp_ge (tgt := 52) (by first | omega | exact hR.1 _ _ (by decide) | exact zrng_toInt _) (by first | omega | exact hR.1 _ _ (by decide) | exact zrng_toInt _) dX6_renamedNumber_9 (by decide) (fun h9 => ?_) (fun h9 => ?_)
      · refine ziload_5_2 dX6_renamedNumber_52 ?_
        refine z_iret rfl ?_ dX6_renamedNumber_53
        exact ⟨rfl, by rw [show x = n by omega]; rfl⟩
      · omega
    | succ m ih =>
      intro x g hx
      have k46 : ∀ (v : Int), v = encF n (rhoF n r k) (x * n + n) → zV zd_Table_renamedNumber 1 46 [some (zr 3), some (zi r), some (zi v), some (zi x), some (zi n)] [] M (fun v M' => M' = M ∧ v = rho n r k) := by
        intro v hv
        subst hv
        refine ziinc_5_3 dX6_renamedNumber_46 ?_
        refine z_goto (tgt := 4) dX6_renamedNumber_49 (by decide) ?_
        have := ih (x + 1) (some (zi n)) (by omega)
        rw [Nat.succ_mul] at this
        exact this
      refine ziload_5_3 dX6_renamedNumber_4 ?_
      refine zaload_5_0 dX6_renamedNumber_5 ?_
      refine zg_Table_20 rfl dX6_renamedNumber_6 ?_
      refine z_top hs ?_
      refine z_icmp_ge (tgt := 52) (by first | omega | exact hR.1 _ _ (by decide) | exact zrng_toInt _) (by first | omega | exact hR.1 _ _ (by decide) | exact zrng_toInt _) dX6_renamedNumber_9 (by decide) (fun h9 => ?_) (fun h9 => ?_)
      · omega
      · refine z_iconst dX6_renamedNumber_12 ?_
        refine zistore_5_4 dX6_renamedNumber_13 ?_
        exact inner n x (by omega) 0 (by omega) k46
  refine z_iconst dX6_renamedNumber_0 ?_
  refine zistore_5_2 dX6_renamedNumber_1 ?_
  refine z_iconst dX6_renamedNumber_2 ?_
  refine zistore_5_3 dX6_renamedNumber_3 ?_
  have := outer n 0 none (by omega)
  rw [Nat.zero_mul] at this
  exact this
theorem rho_lt' {n r k : Nat} (hn : okn n) (hr : r < RN n) : rho n r k < 19684 := by
  have h1 := rho_lt (k := k) hn hr
  have h2 : n ^ (n * n) ≤ 19683 := by rcases hn with rfl | rfl | rfl <;> decide
  omega
theorem sp_Table_leastNumber (M : zMem) (n k : Nat) (hn : okn n) (ht : tbl M n k) : zSp zd_Table_leastNumber 2 [zr 3] M (fun v M' => M' = M ∧ v = lst n k) := by
  refine zSp_in 2 [some (zr 3), none, none] rfl rfl (by decide +kernel) rfl ?_
  refine z_withR (fun hR => ?_)
  have hs := ht.1
  have hn3 := hn.le
  have hr6 := RN_le hn
  have hr0 := RN_pos hn
  have hrn := zro_RN hn
  have bnd : ∀ m, m < RN n → lstF n k m < 19684 := by
    intro m hm
    obtain ⟨r, h1, h2⟩ := lstF_is (n := n) (k := k) m
    rw [h2]; exact rho_lt' hn (by omega)
  have loop : ∀ (m r : Nat), r + 1 + m = RN n → zV zd_Table_leastNumber 2 8 [some (zr 3), some (zi (lstF n k r)), some (zi ((r + 1 : Nat) : Int))] [] M (fun v M' => M' = M ∧ v = lst n k) := by
    intro m
    induction m with
    | zero =>
      intro r hr
      refine ziload_3_2 dX6_leastNumber_8 ?_
      refine zg_Table_42 rfl dX6_leastNumber_9 ?_
      refine zaload_3_0 dX6_leastNumber_12 ?_
      refine zg_Table_20 rfl dX6_leastNumber_13 ?_
      refine z_top hs ?_
      refine z_tald73 _ rfl (by omega) dX6_leastNumber_16 ?_
      refine z_top hrn ?_
      refine z_icmp_ge (tgt := 36) (by first | omega | exact hR.1 _ _ (by decide) | exact zrng_toInt _) (by first | omega | exact hR.1 _ _ (by decide) | exact zrng_toInt _) dX6_leastNumber_17 (by decide) (fun h17 => ?_) (fun h17 => ?_)
      · refine ziload_3_1 dX6_leastNumber_36 ?_
        refine z_iret rfl ?_ dX6_leastNumber_37
        exact ⟨rfl, by rw [lst, show RN n - 1 = r by omega]⟩
      · omega
    | succ m ih =>
      intro r hr
      have b1 := bnd r (by omega)
      have b2 := rho_lt' (k := k) hn (show r + 1 < RN n by omega)
      refine ziload_3_2 dX6_leastNumber_8 ?_
      refine zg_Table_42 rfl dX6_leastNumber_9 ?_
      refine zaload_3_0 dX6_leastNumber_12 ?_
      refine zg_Table_20 rfl dX6_leastNumber_13 ?_
      refine z_top hs ?_
      refine z_tald73 _ rfl (by omega) dX6_leastNumber_16 ?_
      refine z_top hrn ?_
      refine z_icmp_ge (tgt := 36) (by first | omega | exact hR.1 _ _ (by decide) | exact zrng_toInt _) (by first | omega | exact hR.1 _ _ (by decide) | exact zrng_toInt _) dX6_leastNumber_17 (by decide) (fun h17 => ?_) (fun h17 => ?_)
      · omega
      · refine ziload_3_1 dX6_leastNumber_20 ?_
        refine zaload_3_0 dX6_leastNumber_21 ?_
        refine ziload_3_2 dX6_leastNumber_22 ?_
        refine zc_Table_38 rfl dX6_leastNumber_23 (by decide) (Nat.le_of_ble_eq_true rfl) (sp_Table_renamedNumber M n k (r + 1) hn ht (by omega)) (fun r23 M23 hq23 => ?_)
        refine z_withR (fun hR => ?_)
        obtain ⟨rfl, rfl⟩ := hq23
        refine zc_Table_45 rfl dX6_leastNumber_26 (by decide) (Nat.le_of_ble_eq_true rfl) (by first | omega | exact hR.1 _ _ (by decide) | exact zrng_toInt _) (by first | omega | exact hR.1 _ _ (by decide) | exact zrng_toInt _) ?_
        refine z_top (y := ((lstF n k (r + 1) : Nat) : Int)) (by rw [lstF, Nat.min_def]; split <;> split <;> omega) ?_
        refine zistore_3_1 dX6_leastNumber_29 ?_
        refine ziinc_3_2 dX6_leastNumber_30 ?_
        refine z_goto (tgt := 8) dX6_leastNumber_33 (by decide) ?_
        exact ih (r + 1) (by omega)
  refine zaload_3_0 dX6_leastNumber_0 ?_
  refine z_iconst dX6_leastNumber_1 ?_
  refine zc_Table_38 rfl dX6_leastNumber_2 (by decide) (Nat.le_of_ble_eq_true rfl) (sp_Table_renamedNumber M n k 0 hn ht hr0) (fun r2 M2 hq2 => ?_)
  refine z_withR (fun hR => ?_)
  obtain ⟨rfl, rfl⟩ := hq2
  refine zistore_3_1 dX6_leastNumber_5 ?_
  refine z_iconst dX6_leastNumber_6 ?_
  refine zistore_3_2 dX6_leastNumber_7 ?_
  exact loop (RN n - 1) 0 (by omega)
theorem sp_Table_compareRenamed (M : zMem) (n k r : Nat) (hn : okn n) (ht : tbl M n k) (hr : r < RN n) (hk : k < n ^ (n * n)) : zSp zd_Table_compareRenamed 1 [zr 3, zi r] M (fun v M' => M' = M ∧ zrng v ∧ ((v < 0 ∧ rho n r k < k) ∨ (v = 0 ∧ rho n r k = k) ∨ (0 < v ∧ k < rho n r k))) := by
  refine zSp_in 3 [some (zr 3), some (zi r), none, none, none] rfl rfl (by decide +kernel) rfl ?_
  refine z_withR (fun hR => ?_)
  have hn3 := hn.le
  have hn0 := hn.pos
  have hq := sq_le hn
  have hs := ht.1
  have hek := enc_dg hn0 hk
  have inner : ∀ (m x : Nat), x < n → ∀ (y : Nat) (g : Option zAV), y + m = n → (∀ j, j < x * n + y → rhoF n r k j = dg n k j) → (∀ g : Option zAV, (∀ j, j < x * n + n → rhoF n r k j = dg n k j) → zV zd_Table_compareRenamed 1 57 [some (zr 3), some (zi r), some (zi x), some (zi n), g] [] M (fun v M' => M' = M ∧ zrng v ∧ ((v < 0 ∧ rho n r k < k) ∨ (v = 0 ∧ rho n r k = k) ∨ (0 < v ∧ k < rho n r k)))) → zV zd_Table_compareRenamed 1 12 [some (zr 3), some (zi r), some (zi x), some (zi y), g] [] M (fun v M' => M' = M ∧ zrng v ∧ ((v < 0 ∧ rho n r k < k) ∨ (v = 0 ∧ rho n r k = k) ∨ (0 < v ∧ k < rho n r k))) := by
    intro m
    induction m with
    | zero =>
      intro x hx y g hy he kk
      refine ziload_5_3 dX6_compareRenamed_12 ?_
      refine zaload_5_0 dX6_compareRenamed_13 ?_
      refine zg_Table_20 rfl dX6_compareRenamed_14 ?_
      refine z_top hs ?_
      refine z_icmp_ge (tgt := 57) (by first | omega | exact hR.1 _ _ (by decide) | exact zrng_toInt _) (by first | omega | exact hR.1 _ _ (by decide) | exact zrng_toInt _) dX6_compareRenamed_17 (by decide) (fun h17 => ?_) (fun h17 => ?_)
      · rw [show y = n by omega] at he ⊢
        exact kk _ he
      · omega
    | succ m ih =>
      intro x hx y g hy he kk
      have hp := pair_lt hx (show y < n by omega)
      have hl := rhoF_lt (k := k) (j := x * n + y) hn hr
      have hd := dg_lt (n := n) (k := k) (j := x * n + y) hn0
      have hc := ht.2 _ hp
      have lx : rhoF n r k (x * n + y) < dg n k (x * n + y) → rho n r k < k := fun h => by
        have := enc_lex hp (fun i _ => rhoF_lt hn hr) he h
        rwa [hek] at this
      have lx2 : dg n k (x * n + y) < rhoF n r k (x * n + y) → k < rho n r k := fun h => by
        have := enc_lex hp (fun i _ => dg_lt hn0) (fun i hi => (he i hi).symm) h
        rwa [hek] at this
      generalize hcell : rhoF n r k (x * n + y) = C at hl lx lx2
      generalize hdig : dg n k (x * n + y) = G at hd hc lx lx2
      refine ziload_5_3 dX6_compareRenamed_12 ?_
      refine zaload_5_0 dX6_compareRenamed_13 ?_
      refine zg_Table_20 rfl dX6_compareRenamed_14 ?_
      refine z_top hs ?_
      refine z_icmp_ge (tgt := 57) (by first | omega | exact hR.1 _ _ (by decide) | exact zrng_toInt _) (by first | omega | exact hR.1 _ _ (by decide) | exact zrng_toInt _) dX6_compareRenamed_17 (by decide) (fun h17 => ?_) (fun h17 => ?_)
      · omega
      · refine zaload_5_0 dX6_compareRenamed_20 ?_
        refine ziload_5_1 dX6_compareRenamed_21 ?_
        refine ziload_5_2 dX6_compareRenamed_22 ?_
        refine ziload_5_3 dX6_compareRenamed_23 ?_
        refine zc_Table_34 rfl dX6_compareRenamed_24 (by decide) (Nat.le_of_ble_eq_true rfl) (sp_Table_renamedCell M n k r x y hn ht hr hx (by omega)) (fun r24 M24 hq24 => ?_)
        refine z_withR (fun hR => ?_)
        obtain ⟨rfl, rfl⟩ := hq24
        rw [hcell]
        refine zaload_5_0 dX6_compareRenamed_27 ?_
        refine zg_Table_9 rfl dX6_compareRenamed_28 ?_
        refine ziload_5_2 dX6_compareRenamed_31 ?_
        refine zaload_5_0 dX6_compareRenamed_32 ?_
        refine zg_Table_20 rfl dX6_compareRenamed_33 ?_
        refine z_top hs ?_
        refine z_imul dX6_compareRenamed_36 ?_
        refine ziload_5_3 dX6_compareRenamed_37 ?_
        refine z_iadd dX6_compareRenamed_38 ?_
        refine z_iald (x * n + y) rfl (by decide) (by decide) (by omega) (by omega) dX6_compareRenamed_39 ?_
        refine z_top hc ?_
        refine z_isub dX6_compareRenamed_40 ?_
        refine zistore_5_4 dX6_compareRenamed_41 ?_
        refine ziload_5_4 dX6_compareRenamed_43 ?_
        refine z_if_eq (tgt := 51) (by first | omega | exact hR.1 _ _ (by decide) | exact zrng_toInt _) dX6_compareRenamed_45 (by decide) (fun h45 => ?_) (fun h45 => ?_)
        · refine ziinc_5_3 dX6_compareRenamed_51 ?_
          refine z_goto (tgt := 12) dX6_compareRenamed_54 (by decide) ?_
          refine ih x hx (y + 1) _ (by omega) (fun j hj => ?_) kk
          rcases Nat.lt_or_ge j (x * n + y) with q | q
          · exact he j q
          · rw [show j = x * n + y by omega, hcell, hdig]; omega
        · refine ziload_5_4 dX6_compareRenamed_48 ?_
          refine z_iret rfl ?_ dX6_compareRenamed_50
          refine ⟨rfl, by omega, ?_⟩
          rcases Nat.lt_trichotomy C G with q | q | q
          · exact Or.inl ⟨by omega, lx q⟩
          · omega
          · exact Or.inr (Or.inr ⟨by omega, lx2 q⟩)
  have outer : ∀ (m x : Nat) (g g2 : Option zAV), x + m = n → (∀ j, j < x * n → rhoF n r k j = dg n k j) → zV zd_Table_compareRenamed 1 2 [some (zr 3), some (zi r), some (zi x), g, g2] [] M (fun v M' => M' = M ∧ zrng v ∧ ((v < 0 ∧ rho n r k < k) ∨ (v = 0 ∧ rho n r k = k) ∨ (0 < v ∧ k < rho n r k))) := by
    intro m
    induction m with
    | zero =>
      intro x g g2 hx he
      refine ziload_5_2 dX6_compareRenamed_2 ?_
      refine zaload_5_0 dX6_compareRenamed_3 ?_
      refine zg_Table_20 rfl dX6_compareRenamed_4 ?_
      refine z_top hs ?_
      refine z_icmp_ge (tgt := 63) (by first | omega | exact hR.1 _ _ (by decide) | exact zrng_toInt _) (by first | omega | exact hR.1 _ _ (by decide) | exact zrng_toInt _) dX6_compareRenamed_7 (by decide) (fun h7 => ?_) (fun h7 => ?_)
      · refine z_iconst dX6_compareRenamed_63 ?_
        refine z_iret rfl ?_ dX6_compareRenamed_64
        refine ⟨rfl, by omega, Or.inr (Or.inl ⟨rfl, ?_⟩)⟩
        have := enc_congr (n := n) (f := rhoF n r k) (g := dg n k) (by rw [show x = n by omega] at he; exact he)
        rw [hek] at this
        exact this
      · omega
    | succ m ih =>
      intro x g g2 hx he
      have k57 : ∀ g : Option zAV, (∀ j, j < x * n + n → rhoF n r k j = dg n k j) → zV zd_Table_compareRenamed 1 57 [some (zr 3), some (zi r), some (zi x), some (zi n), g] [] M (fun v M' => M' = M ∧ zrng v ∧ ((v < 0 ∧ rho n r k < k) ∨ (v = 0 ∧ rho n r k = k) ∨ (0 < v ∧ k < rho n r k))) := by
        intro g3 he3
        refine ziinc_5_2 dX6_compareRenamed_57 ?_
        refine z_goto (tgt := 2) dX6_compareRenamed_60 (by decide) ?_
        exact ih (x + 1) _ _ (by omega) (by rw [Nat.succ_mul]; exact he3)
      refine ziload_5_2 dX6_compareRenamed_2 ?_
      refine zaload_5_0 dX6_compareRenamed_3 ?_
      refine zg_Table_20 rfl dX6_compareRenamed_4 ?_
      refine z_top hs ?_
      refine z_icmp_ge (tgt := 63) (by first | omega | exact hR.1 _ _ (by decide) | exact zrng_toInt _) (by first | omega | exact hR.1 _ _ (by decide) | exact zrng_toInt _) dX6_compareRenamed_7 (by decide) (fun h7 => ?_) (fun h7 => ?_)
      · omega
      · refine z_iconst dX6_compareRenamed_10 ?_
        refine zistore_5_3 dX6_compareRenamed_11 ?_
        exact inner n x (by omega) 0 _ (by omega) he k57
  refine z_iconst dX6_compareRenamed_0 ?_
  refine zistore_5_2 dX6_compareRenamed_1 ?_
  exact outer n 0 _ _ (by omega) (fun j hj => by omega)
/-- how many renamings leave the world as it is -/
def stb (n k : Nat) : Nat := fb_ct (fun r => rho n r k == k) (RN n)
def likes (n k : Nat) : Nat := if lst n k = k then RN n / stb n k else 0
theorem sp_Table_likesIfLeast (M : zMem) (n k : Nat) (hn : okn n) (ht : tbl M n k) (hk : k < n ^ (n * n)) : zSp zd_Table_likesIfLeast 2 [zr 3] M (fun v M' => M' = M ∧ v = likes n k) := by
  refine zSp_in 3 [some (zr 3), none, none, none] rfl rfl (by decide +kernel) rfl ?_
  refine z_withR (fun hR => ?_)
  have hs := ht.1
  have hn3 := hn.le
  have hr6 := RN_le hn
  have hr0 := RN_pos hn
  have hrn := zro_RN hn
  have h01 : fb_ct (fun r => rho n r k == k) 1 = 1 := by simp [fb_ct, rho_0 hn hk]
  have loop : ∀ (m r : Nat) (g : Option zAV), 1 ≤ r → r + m = RN n → (∀ s, s < r → k ≤ rho n s k) → zV zd_Table_likesIfLeast 2 4 [some (zr 3), some (zi (fb_ct (fun r => rho n r k == k) r)), some (zi r), g] [] M (fun v M' => M' = M ∧ v = likes n k) := by
    intro m
    induction m with
    | zero =>
      intro r g h1 hr hl
      have e : r = RN n := by omega
      subst e
      have hst : 1 ≤ stb n k := by
        have := fb_ct_mono (fun r => rho n r k == k) h1
        rw [h01] at this; exact this
      have hst2 : stb n k ≤ RN n := fb_ct_le _ _
      have hle : lst n k = k := Nat.le_antisymm (lst_self hn hk) (by obtain ⟨s, h3, h4⟩ := lst_is (k := k) hn; rw [h4]; exact hl s h3)
      change zV _ _ _ [_, some (zi (stb n k)), _, _] _ _ _
      refine ziload_4_2 dX6_likesIfLeast_4 ?_
      refine zg_Table_42 rfl dX6_likesIfLeast_5 ?_
      refine zaload_4_0 dX6_likesIfLeast_8 ?_
      refine zg_Table_20 rfl dX6_likesIfLeast_9 ?_
      refine z_top hs ?_
      refine z_tald73 _ rfl (by omega) dX6_likesIfLeast_12 ?_
      refine z_top hrn ?_
      refine z_icmp_ge (tgt := 41) (by first | omega | exact hR.1 _ _ (by decide) | exact zrng_toInt _) (by first | omega | exact hR.1 _ _ (by decide) | exact zrng_toInt _) dX6_likesIfLeast_13 (by decide) (fun h13 => ?_) (fun h13 => ?_)
      · refine zg_Table_42 rfl dX6_likesIfLeast_41 ?_
        refine zaload_4_0 dX6_likesIfLeast_44 ?_
        refine zg_Table_20 rfl dX6_likesIfLeast_45 ?_
        refine z_top hs ?_
        refine z_tald73 _ rfl (by omega) dX6_likesIfLeast_48 ?_
        refine z_top hrn ?_
        refine ziload_4_1 dX6_likesIfLeast_49 ?_
        refine z_idiv (by omega) (by omega) dX6_likesIfLeast_50 ?_
        refine z_iret rfl ?_ dX6_likesIfLeast_51
        exact ⟨rfl, by rw [likes, if_pos hle]; rfl⟩
      · omega
    | succ m ih =>
      intro r g h1 hr hl
      have hc := fb_ct_le (fun r => rho n r k == k) r
      have hcs := fb_ct_succ (fun r => rho n r k == k) r
      refine ziload_4_2 dX6_likesIfLeast_4 ?_
      refine zg_Table_42 rfl dX6_likesIfLeast_5 ?_
      refine zaload_4_0 dX6_likesIfLeast_8 ?_
      refine zg_Table_20 rfl dX6_likesIfLeast_9 ?_
      refine z_top hs ?_
      refine z_tald73 _ rfl (by omega) dX6_likesIfLeast_12 ?_
      refine z_top hrn ?_
      refine z_icmp_ge (tgt := 41) (by first | omega | exact hR.1 _ _ (by decide) | exact zrng_toInt _) (by first | omega | exact hR.1 _ _ (by decide) | exact zrng_toInt _) dX6_likesIfLeast_13 (by decide) (fun h13 => ?_) (fun h13 => ?_)
      · omega
      · refine zaload_4_0 dX6_likesIfLeast_16 ?_
        refine ziload_4_2 dX6_likesIfLeast_17 ?_
        refine zc_Table_51 rfl dX6_likesIfLeast_18 (by decide) (Nat.le_of_ble_eq_true rfl) (sp_Table_compareRenamed M n k r hn ht (by omega) hk) (fun r18 M18 hq18 => ?_)
        refine z_withR (fun hR => ?_)
        obtain ⟨rfl, hv, hcmp⟩ := hq18
        refine zistore_4_3 dX6_likesIfLeast_21 ?_
        refine ziload_4_3 dX6_likesIfLeast_22 ?_
        refine z_if_ge (tgt := 28) (by first | omega | exact hR.1 _ _ (by decide) | exact zrng_toInt _) dX6_likesIfLeast_23 (by decide) (fun h23 => ?_) (fun h23 => ?_)
        · refine ziload_4_3 dX6_likesIfLeast_28 ?_
          refine z_if_ne (tgt := 35) (by first | omega | exact hR.1 _ _ (by decide) | exact zrng_toInt _) dX6_likesIfLeast_29 (by decide) (fun h29 => ?_) (fun h29 => ?_)
          · have h7 : k < rho n r k := by omega
            have h8 : fb_ct (fun r => rho n r k == k) (r + 1) = fb_ct (fun r => rho n r k == k) r := by rw [hcs, show (rho n r k == k) = false by simp; omega]; rfl
            rw [← h8]
            refine ziinc_4_2 dX6_likesIfLeast_35 ?_
            refine z_goto (tgt := 4) dX6_likesIfLeast_38 (by decide) ?_
            refine ih (r + 1) _ (by omega) (by omega) (fun s h9 => ?_)
            rcases Nat.lt_or_ge s r with q | q
            · exact hl s q
            · rw [show s = r by omega]; omega
          · have h7 : rho n r k = k := by omega
            have h8 : fb_ct (fun r => rho n r k == k) (r + 1) = fb_ct (fun r => rho n r k == k) r + 1 := by rw [hcs, show (rho n r k == k) = true by simp; omega]; rfl
            refine ziinc_4_1 dX6_likesIfLeast_32 ?_
            rw [show ((fb_ct (fun r => rho n r k == k) r : Nat) : Int) + 1 = ((fb_ct (fun r => rho n r k == k) (r + 1) : Nat) : Int) by rw [h8]; omega]
            refine ziinc_4_2 dX6_likesIfLeast_35 ?_
            refine z_goto (tgt := 4) dX6_likesIfLeast_38 (by decide) ?_
            refine ih (r + 1) _ (by omega) (by omega) (fun s h9 => ?_)
            rcases Nat.lt_or_ge s r with q | q
            · exact hl s q
            · rw [show s = r by omega]; omega
        · refine z_iconst dX6_likesIfLeast_26 ?_
          refine z_iret rfl ?_ dX6_likesIfLeast_27
          have h5 : rho n r k < k := by omega
          have h6 := lst_le (n := n) (k := k) (show r < RN n by omega)
          exact ⟨rfl, by rw [likes, if_neg (by omega)]; rfl⟩
  refine z_iconst dX6_likesIfLeast_0 ?_
  refine zistore_4_1 dX6_likesIfLeast_1 ?_
  refine z_iconst dX6_likesIfLeast_2 ?_
  refine zistore_4_2 dX6_likesIfLeast_3 ?_
  have := loop (RN n - 1) 1 none (Nat.le_refl 1) (by omega) (fun s h => by rw [show s = 0 by omega, rho_0 hn hk]; exact Nat.le_refl _)
  rw [h01] at this
  exact this
