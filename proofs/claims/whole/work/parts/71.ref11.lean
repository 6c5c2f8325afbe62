theorem sp_Model_set (M : zMem) (i : Nat) (w a b : Int) (hi : i < 13) (hw : zrng w) (ha : zrng a) (hb : zrng b) : zSp zd_Model_set 0 [zr 9, zi i, zi w, zi a, zi b] M (fun _ M' => M' = zmu (zmu (zmu M 48 i w) 49 i a) 50 i b) := by
  refine zSp_in 0 [some (zr 9), some (zi i), some (zi w), some (zi a), some (zi b)] rfl rfl (by decide +kernel) rfl ?_
  refine z_withR (fun hR => ?_)
  refine zaload_5_0 dX9_set_0 ?_
  refine zg_Model_54 rfl dX9_set_1 ?_
  refine ziload_5_1 dX9_set_4 ?_
  refine ziload_5_2 dX9_set_5 ?_
  refine z_iast _ (by decide) rfl (by decide) (by decide) rfl (by omega) (by first | omega | exact hR.1 _ _ (by decide) | exact zrng_toInt _) dX9_set_6 ?_
  refine z_withR (fun hR => ?_)
  refine zaload_5_0 dX9_set_7 ?_
  refine zg_Model_57 rfl dX9_set_8 ?_
  refine ziload_5_1 dX9_set_11 ?_
  refine ziload_5_3 dX9_set_12 ?_
  refine z_iast _ (by decide) rfl (by decide) (by decide) rfl (by omega) (by first | omega | exact hR.1 _ _ (by decide) | exact zrng_toInt _) dX9_set_13 ?_
  refine z_withR (fun hR => ?_)
  refine zaload_5_0 dX9_set_14 ?_
  refine zg_Model_60 rfl dX9_set_15 ?_
  refine ziload_5_1 dX9_set_18 ?_
  refine ziload_5_4 dX9_set_19 ?_
  refine z_iast _ (by decide) rfl (by decide) (by decide) rfl (by omega) (by first | omega | exact hR.1 _ _ (by decide) | exact zrng_toInt _) dX9_set_21 ?_
  refine z_withR (fun hR => ?_)
  refine z_vret rfl ?_ dX9_set_22
  rfl
theorem abR.make {M : zMem} {B : Nat → Nat → Nat} {w a b : Nat} {bb : Int} (h : abR M B) (hN : B 6 0 < 12) (hwf : wfN (B 0 0) (B 6 0 + 1) (fup (B 7) (B 6 0) w) (fup (B 8) (B 6 0) a) (fup (B 9) (B 6 0) b)) (hbb : w = 0 ∨ w = 2 → bb = b) : abR (zmu (zmu (zmu (zmu (zmu M 48 (B 6 0) w) 49 (B 6 0) a) 50 (B 6 0) bb) 51 (B 6 0) 0) 9 18 ((B 6 0 : Int) + 1)) (bMake B w a b) := by
  obtain ⟨⟨h1, h2, h3, h4, h5, h6, h7⟩, hc⟩ := h
  have b6 : bMake B w a b 6 0 = B 6 0 + 1 := rfl
  have b7 : bMake B w a b 7 = fup (B 7) (B 6 0) w := rfl
  have b8 : bMake B w a b 8 = fup (B 8) (B 6 0) a := rfl
  have b9 : bMake B w a b 9 = fup (B 9) (B 6 0) b := rfl
  have b10 : bMake B w a b 10 = fup (B 10) (B 6 0) 1 := rfl
  have b0 : bMake B w a b 0 = B 0 := rfl
  have b1 : bMake B w a b 1 = B 1 := rfl
  have b2 : bMake B w a b 2 = B 2 := rfl
  have hf : zfr [9, 48, 49, 50, 51] M (zmu (zmu (zmu (zmu (zmu M 48 (B 6 0) w) 49 (B 6 0) a) 50 (B 6 0) bb) 51 (B 6 0) 0) 9 18 ((B 6 0 : Int) + 1)) := ((((zfr.rf.mu (by decide)).mu (by decide)).mu (by decide)).mu (by decide)).mu (by decide)
  have g9 : ∀ i, i ≠ 18 → (zmu (zmu (zmu (zmu (zmu M 48 (B 6 0) w) 49 (B 6 0) a) 50 (B 6 0) bb) 51 (B 6 0) 0) 9 18 ((B 6 0 : Int) + 1)) 9 i = M 9 i := fun i hi => by
    rw [zmu_ne _ _ _ _ hi, zmu_other _ _ _ _ (by decide), zmu_other _ _ _ _ (by decide), zmu_other _ _ _ _ (by decide), zmu_other _ _ _ _ (by decide)]
  have g48 : ∀ i, (zmu (zmu (zmu (zmu (zmu M 48 (B 6 0) w) 49 (B 6 0) a) 50 (B 6 0) bb) 51 (B 6 0) 0) 9 18 ((B 6 0 : Int) + 1)) 48 i = zmu M 48 (B 6 0) w 48 i := fun i => by
    rw [zmu_other _ _ _ _ (by decide), zmu_other _ _ _ _ (by decide), zmu_other _ _ _ _ (by decide), zmu_other _ _ _ _ (by decide)]
  have g49 : ∀ i, (zmu (zmu (zmu (zmu (zmu M 48 (B 6 0) w) 49 (B 6 0) a) 50 (B 6 0) bb) 51 (B 6 0) 0) 9 18 ((B 6 0 : Int) + 1)) 49 i = if i = B 6 0 then (a : Int) else M 49 i := fun i => by
    rw [zmu_other _ _ _ _ (by decide), zmu_other _ _ _ _ (by decide), zmu_other _ _ _ _ (by decide)]
    by_cases e : i = B 6 0
    · rw [e, zmu_same, if_pos rfl]
    · rw [zmu_ne _ _ _ _ e, zmu_other _ _ _ _ (by decide), if_neg e]
  have g50 : ∀ i, (zmu (zmu (zmu (zmu (zmu M 48 (B 6 0) w) 49 (B 6 0) a) 50 (B 6 0) bb) 51 (B 6 0) 0) 9 18 ((B 6 0 : Int) + 1)) 50 i = if i = B 6 0 then bb else M 50 i := fun i => by
    rw [zmu_other _ _ _ _ (by decide), zmu_other _ _ _ _ (by decide)]
    by_cases e : i = B 6 0
    · rw [e, zmu_same, if_pos rfl]
    · rw [zmu_ne _ _ _ _ e, zmu_other _ _ _ _ (by decide), zmu_other _ _ _ _ (by decide), if_neg e]
  have g51 : ∀ i, (zmu (zmu (zmu (zmu (zmu M 48 (B 6 0) w) 49 (B 6 0) a) 50 (B 6 0) bb) 51 (B 6 0) 0) 9 18 ((B 6 0 : Int) + 1)) 51 i = if i = B 6 0 then 0 else M 51 i := fun i => by
    rw [zmu_other _ _ _ _ (by decide)]
    by_cases e : i = B 6 0
    · rw [e, zmu_same, if_pos rfl]
    · rw [zmu_ne _ _ _ _ e, zmu_other _ _ _ _ (by decide), zmu_other _ _ _ _ (by decide), zmu_other _ _ _ _ (by decide), if_neg e]
  refine ⟨⟨h1.fr hf (g9 0 (by decide)) (by decide) (by decide), h2, ?_, h4.fr hf (g9 4 (by decide)) (by decide) (by decide), ?_, ?_, ?_⟩, ?_⟩
  · rw [hf 37 (by decide)]; exact h3
  · unfold ntR bAw
    rw [b6, b7, b8, b9, b10, b0]
    refine ⟨by rw [zmu_same]; omega, by omega, hwf, fun i hi => ?_⟩
    rw [g48, g49, g50, g51]
    by_cases e : i = B 6 0
    · rw [e, zmu_same, fup_s, fup_s, fup_s, fup_s, if_pos rfl, if_pos rfl, if_pos rfl]
      exact ⟨rfl, rfl, hbb, by simp⟩
    · rw [zmu_ne _ _ _ _ e, fup_n e, fup_n e, fup_n e, fup_n e, if_neg e, if_neg e, if_neg e]
      exact h5.2.2.2 i (by omega)
  · rw [hf 54 (by decide)]; exact h6
  · unfold slR
    rw [hf 56 (by decide), hf 57 (by decide), hf 58 (by decide)]; exact h7
  · refine (hc.fr hf (by decide) (g9 7 (by decide)) (g9 15 (by decide)) (g9 25 (by decide))).re rfl (by rw [b6]; omega) (fun n k l hl => rfl) (fun e i hi => ?_)
    unfold bS sE
    rw [b1, b2, b7, b8, b9]
    exact so_congr h1.2.2.2.1 h5.2.2.1 (fun t _ _ => ⟨rfl, rfl⟩) (fun i hi => ⟨fup_n (by omega), fup_n (by omega), fup_n (by omega)⟩) i hi
