theorem sp_Terms_has (M : zMem) (t : Int) (ht : zrng t) : zSp zd_Terms_has 0 [zr 1, zi t] M (fun r M' => M' = M ∧ r = if 0 ≤ t ∧ t < M 1 3 then 1 else 0) := by
  refine zSp_in 0 [some (zr 1), some (zi t)] rfl rfl (by decide +kernel) rfl ?_
  refine z_withR (fun hR => ?_)
  refine ziload_2_1 dX7_has_0 ?_
  refine z_if_lt (tgt := 16) (by first | omega | exact hR.1 _ _ (by decide) | exact zrng_toInt _) dX7_has_1 (by decide) (fun h1 => ?_) (fun h1 => ?_)
  · refine z_iconst dX7_has_16 ?_
    refine z_zret rfl (by omega) ?_ dX7_has_17
    refine ⟨rfl, ?_⟩
    split <;> omega
  · refine ziload_2_1 dX7_has_4 ?_
    refine zaload_2_0 dX7_has_5 ?_
    refine zg_Terms_21 rfl dX7_has_6 ?_
    refine z_icmp_ge (tgt := 16) (by first | omega | exact hR.1 _ _ (by decide) | exact zrng_toInt _) (by first | omega | exact hR.1 _ _ (by decide) | exact zrng_toInt _) dX7_has_9 (by decide) (fun h9 => ?_) (fun h9 => ?_)
    · refine z_iconst dX7_has_16 ?_
      refine z_zret rfl (by omega) ?_ dX7_has_17
      refine ⟨rfl, ?_⟩
      split <;> omega
    · refine z_iconst dX7_has_12 ?_
      refine z_goto (tgt := 17) dX7_has_13 (by decide) ?_
      refine z_zret rfl (by omega) ?_ dX7_has_17
      refine ⟨rfl, ?_⟩
      split <;> omega
theorem sp_Terms_find (M : zMem) (a b : Int) (ha : zrng a) (hb : zrng b) (hT : 3 ≤ M 1 3 ∧ M 1 3 ≤ 20) : zSp zd_Terms_find 0 [zr 1, zi a, zi b] M (fun r M' => M' = M ∧ ((∃ t : Nat, 3 ≤ t ∧ (t : Int) < M 1 3 ∧ M 10 t = a ∧ M 11 t = b ∧ r = t) ∨ (r = -9 ∧ ∀ t : Nat, 3 ≤ t → (t : Int) < M 1 3 → ¬ (M 10 t = a ∧ M 11 t = b)))) := by
  refine zSp_in 1 [some (zr 1), some (zi a), some (zi b), none] rfl rfl (by decide +kernel) rfl ?_
  refine z_withR (fun hR => ?_)
  have loop : ∀ (n t : Nat) (x : Int), x = t → (t : Int) + n = M 1 3 → 3 ≤ t → (∀ u : Nat, 3 ≤ u → u < t → ¬ (M 10 u = a ∧ M 11 u = b)) → zV zd_Terms_find 0 2 [some (zr 1), some (zi a), some (zi b), some (zi x)] [] M (fun r M' => M' = M ∧ ((∃ t : Nat, 3 ≤ t ∧ (t : Int) < M 1 3 ∧ M 10 t = a ∧ M 11 t = b ∧ r = t) ∨ (r = -9 ∧ ∀ t : Nat, 3 ≤ t → (t : Int) < M 1 3 → ¬ (M 10 t = a ∧ M 11 t = b)))) := by
    intro n
    induction n with
    | zero =>
      intro t x hx hn h3 hu
      refine ziload_4_3 dX7_find_2 ?_
      refine zaload_4_0 dX7_find_3 ?_
      refine zg_Terms_21 rfl dX7_find_4 ?_
      refine z_icmp_ge (tgt := 38) (by first | omega | exact hR.1 _ _ (by decide) | exact zrng_toInt _) (by first | omega | exact hR.1 _ _ (by decide) | exact zrng_toInt _) dX7_find_7 (by decide) (fun h7 => ?_) (fun h7 => ?_)
      · refine z_bipush dX7_find_38 (by decide) ?_
        refine z_iret rfl ?_ dX7_find_40
        exact ⟨rfl, Or.inr ⟨rfl, fun u h1 h2 => hu u h1 (by omega)⟩⟩
      · omega
    | succ n ih =>
      intro t x hx hn h3 hu
      have hu' : ¬ (M 10 t = a ∧ M 11 t = b) → ∀ u : Nat, 3 ≤ u → u < t + 1 → ¬ (M 10 u = a ∧ M 11 u = b) := fun h u h1 h2 => by
        rcases Nat.lt_or_ge u t with q | q
        · exact hu u h1 q
        · rw [show u = t by omega]; exact h
      refine ziload_4_3 dX7_find_2 ?_
      refine zaload_4_0 dX7_find_3 ?_
      refine zg_Terms_21 rfl dX7_find_4 ?_
      refine z_icmp_ge (tgt := 38) (by first | omega | exact hR.1 _ _ (by decide) | exact zrng_toInt _) (by first | omega | exact hR.1 _ _ (by decide) | exact zrng_toInt _) dX7_find_7 (by decide) (fun h7 => ?_) (fun h7 => ?_)
      · omega
      · refine zaload_4_0 dX7_find_10 ?_
        refine zg_Terms_11 rfl dX7_find_11 ?_
        refine ziload_4_3 dX7_find_14 ?_
        refine z_iald (t) rfl (by decide) (by decide) (by omega) (by omega) dX7_find_15 ?_
        refine ziload_4_1 dX7_find_16 ?_
        refine z_icmp_ne (tgt := 32) (by first | omega | exact hR.1 _ _ (by decide) | exact zrng_toInt _) (by first | omega | exact hR.1 _ _ (by decide) | exact zrng_toInt _) dX7_find_17 (by decide) (fun h17 => ?_) (fun h17 => ?_)
        · refine ziinc_4_3 dX7_find_32 ?_
          refine z_goto (tgt := 2) dX7_find_35 (by decide) ?_
          exact ih (t + 1) _ (by omega) (by omega) (by omega) (hu' (by omega))
        · refine zaload_4_0 dX7_find_20 ?_
          refine zg_Terms_15 rfl dX7_find_21 ?_
          refine ziload_4_3 dX7_find_24 ?_
          refine z_iald (t) rfl (by decide) (by decide) (by omega) (by omega) dX7_find_25 ?_
          refine ziload_4_2 dX7_find_26 ?_
          refine z_icmp_ne (tgt := 32) (by first | omega | exact hR.1 _ _ (by decide) | exact zrng_toInt _) (by first | omega | exact hR.1 _ _ (by decide) | exact zrng_toInt _) dX7_find_27 (by decide) (fun h27 => ?_) (fun h27 => ?_)
          · refine ziinc_4_3 dX7_find_32 ?_
            refine z_goto (tgt := 2) dX7_find_35 (by decide) ?_
            exact ih (t + 1) _ (by omega) (by omega) (by omega) (hu' (by omega))
          · refine ziload_4_3 dX7_find_30 ?_
            refine z_iret rfl ?_ dX7_find_31
            exact ⟨rfl, Or.inl ⟨t, h3, by omega, by omega, by omega, by omega⟩⟩
  refine z_iconst dX7_find_0 ?_
  refine zistore_4_3 dX7_find_1 ?_
  exact loop (M 1 3 - 3).toNat 3 _ rfl (by omega) (by omega) (fun u h1 h2 => by omega)
