/-- the rows of the notions below m over the world that lies there -/
def hrR (M : zMem) (S : Nat → Nat → Bool) (n m : Nat) : Prop := ∀ i, i < m → ∀ j, j < n * n → M 52 (9 * i + j) = b01 (S i j)
theorem sp_Model_layHere (M : zMem) (B : Nat → Nat → Nat) (n k i : Nat) (hn : okn n) (ht : tbR M n k) (hT : tmR M (B 1) (B 2) (B 0 0)) (hN : ntR M B) (hi : i < B 6 0) (hh : hrR M (so (B 1) (B 2) (B 7) (B 8) (B 9) n k) n i) : zSp zd_Model_layHere 2 [zr 9, zi i] M (fun _ M' => zfr [41, 42, 52] M M' ∧ hrR M' (so (B 1) (B 2) (B 7) (B 8) (B 9) n k) n (i + 1)) := by
  refine zSp_in 1 [some (zr 9), some (zi i), none] rfl rfl (by decide +kernel) rfl ?_
  refine z_withR (fun hR => ?_)
  obtain ⟨n1, n12, nw, n4⟩ := id hN
  have hn0 := hn.pos
  have hn3 := hn.le
  have hsq := sq_le hn
  have t20 := hT.2.2.1
  obtain ⟨w1, w2, w3, w4⟩ := n4 i hi
  obtain ⟨v1, v2, v3⟩ := nw i hi
  obtain ⟨S, hS⟩ : ∃ S, S = so (B 1) (B 2) (B 7) (B 8) (B 9) n k := ⟨_, rfl⟩
  rw [← hS] at hh ⊢
  obtain ⟨post, hpost⟩ : ∃ post : Int → zMem → Prop, post = (fun (_ : Int) M' => zfr [41, 42, 52] M M' ∧ hrR M' S n (i + 1)) := ⟨_, rfl⟩
  rw [← hpost]
  have loop : ∀ (c j : Nat) (M1 : zMem), j + c = n * n → zfr [41, 42, 52] M M1 → (B 7 i = 0 → wnR M1 (B 1) (B 2) (B 0 0) (B 8 i) (B 9 i)) → hrR M1 S n i → (∀ j', j' < j → M1 52 (9 * i + j') = b01 (S i j')) → zV zd_Model_layHere 2 27 [some (zr 9), some (zi i), some (zi j)] [] M1 post := by
    intro c
    induction c with
    | zero =>
      intro j M1 hj hf hwn hr hd
      have hs : M1 9 8 = n := by rw [hf 9 (by decide)]; exact ht.1
      refine z_withR (fun hR => ?_)
      refine ziload_3_2 dX9_layHere_27 ?_
      refine zaload_3_0 dX9_layHere_28 ?_
      refine zg_Model_124 rfl dX9_layHere_29 ?_
      refine z_top hs ?_
      refine zaload_3_0 dX9_layHere_32 ?_
      refine zg_Model_124 rfl dX9_layHere_33 ?_
      refine z_top hs ?_
      refine z_imul dX9_layHere_36 ?_
      rw [← Int.natCast_mul]
      refine z_icmp_ge (tgt := 74) (by first | omega | exact hR.1 _ _ (by decide) | exact zrng_toInt _) (by first | omega | exact hR.1 _ _ (by decide) | exact zrng_toInt _) dX9_layHere_37 (by decide) (fun h37 => ?_) (fun h37 => ?_)
      · refine z_vret rfl ?_ dX9_layHere_74
        rw [hpost]
        refine ⟨hf, fun i' hi' j' hj' => ?_⟩
        by_cases e : i' = i
        · rw [e]; exact hd j' (by omega)
        · exact hr i' (by omega) j' hj'
      · omega
    | succ c ih =>
      intro j M1 hj hf hwn hr hd
      have hs : M1 9 8 = n := by rw [hf 9 (by decide)]; exact ht.1
      obtain ⟨x, hx⟩ : ∃ x, x = j / n := ⟨_, rfl⟩
      obtain ⟨y, hy⟩ : ∃ y, y = j % n := ⟨_, rfl⟩
      have hxn : x < n := by rw [hx]; exact Nat.div_lt_of_lt_mul (by omega)
      have hyn : y < n := by rw [hy]; exact Nat.mod_lt _ hn0
      have exy : x * n + y = j := by rw [hx, hy]; exact pair_eq
      have w1' : M1 48 i = B 7 i := by rw [hf 48 (by decide)]; exact w1
      have w2' : M1 49 i = B 8 i := by rw [hf 49 (by decide)]; exact w2
      have w3' : B 7 i = 0 ∨ B 7 i = 2 → M1 50 i = B 9 i := fun z => by rw [hf 50 (by decide)]; exact w3 z
      have sp : zSp zd_Model_isSo 1 [zr 9, zi i, zi x, zi y] M1 (fun r M' => zfr [41] M1 M' ∧ r = b01 (S i j)) := by
        by_cases h0 : B 7 i = 0
        · have h := sp_Model_isSo0 M1 (B 1) (B 2) (B 0 0) i n k (B 8 i) (B 9 i) x y (by omega) hn (ht.fr hf (by rw [hf 9 (by decide)]) (by decide)) (hT.fr hf (by rw [hf 9 (by decide)]) (by decide) (by decide)) (by rw [w1', h0]; rfl) w2' (w3' (Or.inl h0)) (v2 h0).1 (v2 h0).2 (hwn h0) hxn hyn
          rw [exy] at h
          rw [hS, so_0 h0]
          exact h
        · obtain ⟨u1, u2⟩ := v3 h0
          have h := sp_Model_isSoN M1 i n (B 7 i) (B 8 i) (B 9 i) x y (S (B 8 i)) (S (B 9 i)) (by omega) hn hs w1' ⟨by omega, v1⟩ w2' (by omega) (fun z => ⟨w3' (Or.inr z), by omega, fun j hj => hr (B 9 i) u2 j hj⟩) (fun j hj => hr (B 8 i) u1 j hj) hxn hyn
          rw [exy] at h
          rw [hS, so_n nw hi h0, ← hS]
          exact h
      refine z_withR (fun hR => ?_)
      refine ziload_3_2 dX9_layHere_27 ?_
      refine zaload_3_0 dX9_layHere_28 ?_
      refine zg_Model_124 rfl dX9_layHere_29 ?_
      refine z_top hs ?_
      refine zaload_3_0 dX9_layHere_32 ?_
      refine zg_Model_124 rfl dX9_layHere_33 ?_
      refine z_top hs ?_
      refine z_imul dX9_layHere_36 ?_
      rw [← Int.natCast_mul]
      refine z_icmp_ge (tgt := 74) (by first | omega | exact hR.1 _ _ (by decide) | exact zrng_toInt _) (by first | omega | exact hR.1 _ _ (by decide) | exact zrng_toInt _) dX9_layHere_37 (by decide) (fun h37 => ?_) (fun h37 => ?_)
      · omega
      · refine zaload_3_0 dX9_layHere_40 ?_
        refine zg_Model_66 rfl dX9_layHere_41 ?_
        refine z_bipush dX9_layHere_44 (by decide) ?_
        refine ziload_3_1 dX9_layHere_46 ?_
        refine z_imul dX9_layHere_47 ?_
        refine ziload_3_2 dX9_layHere_48 ?_
        refine z_iadd dX9_layHere_49 ?_
        refine zaload_3_0 dX9_layHere_50 ?_
        refine ziload_3_1 dX9_layHere_51 ?_
        refine ziload_3_2 dX9_layHere_52 ?_
        refine zaload_3_0 dX9_layHere_53 ?_
        refine zg_Model_124 rfl dX9_layHere_54 ?_
        refine z_top hs ?_
        refine z_idiv (by omega) (by omega) dX9_layHere_57 ?_
        refine z_top (y := (x : Int)) (by rw [hx]; rfl) ?_
        refine ziload_3_2 dX9_layHere_58 ?_
        refine zaload_3_0 dX9_layHere_59 ?_
        refine zg_Model_124 rfl dX9_layHere_60 ?_
        refine z_top hs ?_
        refine z_irem (by omega) (by omega) dX9_layHere_63 ?_
        refine z_top (y := (y : Int)) (by rw [hy]; rfl) ?_
        refine zc_Model_199 rfl dX9_layHere_64 (by decide) (Nat.le_of_ble_eq_true rfl) (sp) (fun r64 M64 hq64 => ?_)
        refine z_withR (fun hR => ?_)
        obtain ⟨f64, q64⟩ := hq64
        subst q64
        refine z_zast (9 * i + j) (by decide) rfl (by decide) (by decide) (by omega) (by omega) (b01_01 _) dX9_layHere_67 ?_
        refine z_withR (fun hR => ?_)
        refine ziinc_3_2 dX9_layHere_68 ?_
        refine z_goto (tgt := 27) dX9_layHere_71 (by decide) ?_
        refine ih (j + 1) _ (by omega) ((hf.tr f64 (by decide) (by decide)).mu (by decide)) (fun z => (hwn z).fr ((f64.up (by decide) : zfr [41, 52] M1 M64).mu (by decide)) (by decide)) (fun i' hi' j' hj' => ?_) (fun j' hj' => ?_)
        · rw [zmu_ne _ _ _ _ (by omega), f64 52 (by decide)]; exact hr i' hi' j' hj'
        · by_cases e : j' = j
          · rw [e, zmu_same]
          · rw [zmu_ne _ _ _ _ (by omega), f64 52 (by decide)]; exact hd j' (by omega)
  have w1r : (B 7 i : Int) = (B 7 i : Int) := rfl
  refine zaload_3_0 dX9_layHere_0 ?_
  refine zg_Model_54 rfl dX9_layHere_1 ?_
  refine ziload_3_1 dX9_layHere_4 ?_
  refine z_iald _ rfl (by decide) (by decide) rfl (by omega) dX9_layHere_5 ?_
  refine z_top w1 ?_
  refine z_if_ne (tgt := 25) (by first | omega | exact hR.1 _ _ (by decide) | exact zrng_toInt _) dX9_layHere_6 (by decide) (fun h6 => ?_) (fun h6 => ?_)
  · have h0 : ¬ B 7 i = 0 := by omega
    refine z_iconst dX9_layHere_25 ?_
    refine zistore_3_2 dX9_layHere_26 ?_
    first
      | exact loop (n * n) 0 M (by omega) zfr.rf (fun z => absurd z h0) hh (fun j h => absurd h (Nat.not_lt_zero _))
      | exact loop (n * n) 0 M22 (by omega) (hq22.1.up (by decide)) (fun _ => hq22.2) (fun i' hi' j' hj' => (congrFun (hq22.1 52 (by decide)) _).trans (hh i' hi' j' hj')) (fun j h => absurd h (Nat.not_lt_zero _))
  · have h0 : B 7 i = 0 := by omega
    refine zaload_3_0 dX9_layHere_9 ?_
    refine zaload_3_0 dX9_layHere_10 ?_
    refine zg_Model_57 rfl dX9_layHere_11 ?_
    refine ziload_3_1 dX9_layHere_14 ?_
    refine z_iald _ rfl (by decide) (by decide) rfl (by omega) dX9_layHere_15 ?_
    refine z_top w2 ?_
    refine zaload_3_0 dX9_layHere_16 ?_
    refine zg_Model_60 rfl dX9_layHere_17 ?_
    refine ziload_3_1 dX9_layHere_20 ?_
    refine z_iald _ rfl (by decide) (by decide) rfl (by omega) dX9_layHere_21 ?_
    refine z_top (w3 (Or.inl h0)) ?_
    refine zc_Model_134 rfl dX9_layHere_22 (by decide) (Nat.le_of_ble_eq_true rfl) (sp_Model_want M (B 1) (B 2) (B 0 0) (B 8 i) (B 9 i) hT (v2 h0).1 (v2 h0).2) (fun r22 M22 hq22 => ?_)
    refine z_withR (fun hR => ?_)
    refine z_iconst dX9_layHere_25 ?_
    refine zistore_3_2 dX9_layHere_26 ?_
    first
      | exact loop (n * n) 0 M (by omega) zfr.rf (fun z => absurd z h0) hh (fun j h => absurd h (Nat.not_lt_zero _))
      | exact loop (n * n) 0 M22 (by omega) (hq22.1.up (by decide)) (fun _ => hq22.2) (fun i' hi' j' hj' => (congrFun (hq22.1 52 (by decide)) _).trans (hh i' hi' j' hj')) (fun j h => absurd h (Nat.not_lt_zero _))
