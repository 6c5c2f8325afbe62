theorem sp_fill33 (M : zMem) (v : Int) (hv : zrng v) : zSp zd_Arrays_fill 0 [zr 33, zi v] M (fun _ M' => zfr [33] M M' ∧ ∀ i, i < 400 → M' 33 i = v) := by
  refine zSp_in 2 [some (zr 33), some (zi v), none, none] rfl rfl (by decide +kernel) rfl ?_
  refine z_withR (fun hR => ?_)
  have loop : ∀ (c i : Nat) (M1 : zMem), i + c = 400 → zfr [33] M M1 → (∀ j, j < i → M1 33 j = v) → zV zd_Arrays_fill 0 5 [some (zr 33), some (zi v), some (zi i), some (zi ((400 : Nat) : Int))] [] M1 (fun _ M' => zfr [33] M M' ∧ ∀ i, i < 400 → M' 33 i = v) := by
    intro c
    induction c with
    | zero =>
      intro i M1 hi hf hj
      refine z_withR (fun hR => ?_)
      refine ziload_4_2 dJ7_fill_53178_5 ?_
      refine ziload_4_3 dJ7_fill_53178_6 ?_
      refine z_icmp_ge (tgt := 20) (by first | omega | exact hR.1 _ _ (by decide) | exact zrng_toInt _) (by first | omega | exact hR.1 _ _ (by decide) | exact zrng_toInt _) dJ7_fill_53178_7 (by decide) (fun h7 => ?_) (fun h7 => ?_)
      · refine z_vret rfl ?_ dJ7_fill_53178_20
        exact ⟨hf, fun j h => hj j (by omega)⟩
      · omega
    | succ c ih =>
      intro i M1 hi hf hj
      refine z_withR (fun hR => ?_)
      refine ziload_4_2 dJ7_fill_53178_5 ?_
      refine ziload_4_3 dJ7_fill_53178_6 ?_
      refine z_icmp_ge (tgt := 20) (by first | omega | exact hR.1 _ _ (by decide) | exact zrng_toInt _) (by first | omega | exact hR.1 _ _ (by decide) | exact zrng_toInt _) dJ7_fill_53178_7 (by decide) (fun h7 => ?_) (fun h7 => ?_)
      · omega
      · refine zaload_4_0 dJ7_fill_53178_10 ?_
        refine ziload_4_2 dJ7_fill_53178_11 ?_
        refine ziload_4_1 dJ7_fill_53178_12 ?_
        refine z_iast _ (by decide) rfl (by decide) (by decide) rfl (by omega) (by first | omega | exact hR.1 _ _ (by decide) | exact zrng_toInt _) dJ7_fill_53178_13 ?_
        refine z_withR (fun hR => ?_)
        refine ziinc_4_2 dJ7_fill_53178_14 ?_
        refine z_goto (tgt := 5) dJ7_fill_53178_17 (by decide) ?_
        refine ih (i + 1) _ (by omega) (hf.mu (by decide)) (fun j h => ?_)
        by_cases e : j = i
        · rw [e, zmu_same]
        · rw [zmu_ne _ _ _ _ e]; exact hj j (by omega)
  refine z_iconst dJ7_fill_53178_0 ?_
  refine zistore_4_2 dJ7_fill_53178_1 ?_
  refine zaload_4_0 dJ7_fill_53178_2 ?_
  refine z_alen rfl (by decide) dJ7_fill_53178_3 ?_
  refine zistore_4_3 dJ7_fill_53178_4 ?_
  exact loop 400 0 M (by omega) zfr.rf (fun j h => absurd h (Nat.not_lt_zero _))
theorem sp_fill34 (M : zMem) (v : Int) (hv : zrng v) : zSp zd_Arrays_fill 0 [zr 34, zi v] M (fun _ M' => zfr [34] M M' ∧ ∀ i, i < 20 → M' 34 i = v) := by
  refine zSp_in 2 [some (zr 34), some (zi v), none, none] rfl rfl (by decide +kernel) rfl ?_
  refine z_withR (fun hR => ?_)
  have loop : ∀ (c i : Nat) (M1 : zMem), i + c = 20 → zfr [34] M M1 → (∀ j, j < i → M1 34 j = v) → zV zd_Arrays_fill 0 5 [some (zr 34), some (zi v), some (zi i), some (zi ((20 : Nat) : Int))] [] M1 (fun _ M' => zfr [34] M M' ∧ ∀ i, i < 20 → M' 34 i = v) := by
    intro c
    induction c with
    | zero =>
      intro i M1 hi hf hj
      refine z_withR (fun hR => ?_)
      refine ziload_4_2 dJ7_fill_53178_5 ?_
      refine ziload_4_3 dJ7_fill_53178_6 ?_
      refine z_icmp_ge (tgt := 20) (by first | omega | exact hR.1 _ _ (by decide) | exact zrng_toInt _) (by first | omega | exact hR.1 _ _ (by decide) | exact zrng_toInt _) dJ7_fill_53178_7 (by decide) (fun h7 => ?_) (fun h7 => ?_)
      · refine z_vret rfl ?_ dJ7_fill_53178_20
        exact ⟨hf, fun j h => hj j (by omega)⟩
      · omega
    | succ c ih =>
      intro i M1 hi hf hj
      refine z_withR (fun hR => ?_)
      refine ziload_4_2 dJ7_fill_53178_5 ?_
      refine ziload_4_3 dJ7_fill_53178_6 ?_
      refine z_icmp_ge (tgt := 20) (by first | omega | exact hR.1 _ _ (by decide) | exact zrng_toInt _) (by first | omega | exact hR.1 _ _ (by decide) | exact zrng_toInt _) dJ7_fill_53178_7 (by decide) (fun h7 => ?_) (fun h7 => ?_)
      · omega
      · refine zaload_4_0 dJ7_fill_53178_10 ?_
        refine ziload_4_2 dJ7_fill_53178_11 ?_
        refine ziload_4_1 dJ7_fill_53178_12 ?_
        refine z_iast _ (by decide) rfl (by decide) (by decide) rfl (by omega) (by first | omega | exact hR.1 _ _ (by decide) | exact zrng_toInt _) dJ7_fill_53178_13 ?_
        refine z_withR (fun hR => ?_)
        refine ziinc_4_2 dJ7_fill_53178_14 ?_
        refine z_goto (tgt := 5) dJ7_fill_53178_17 (by decide) ?_
        refine ih (i + 1) _ (by omega) (hf.mu (by decide)) (fun j h => ?_)
        by_cases e : j = i
        · rw [e, zmu_same]
        · rw [zmu_ne _ _ _ _ e]; exact hj j (by omega)
  refine z_iconst dJ7_fill_53178_0 ?_
  refine zistore_4_2 dJ7_fill_53178_1 ?_
  refine zaload_4_0 dJ7_fill_53178_2 ?_
  refine z_alen rfl (by decide) dJ7_fill_53178_3 ?_
  refine zistore_4_3 dJ7_fill_53178_4 ?_
  exact loop 20 0 M (by omega) zfr.rf (fun j h => absurd h (Nat.not_lt_zero _))
theorem sp_Rounds_becomes (M : zMem) (v m : Nat) (hv : v < 20) (hm : m < 20) : zSp zd_Rounds_becomes 0 [zr 7, zi v, zi m] M (fun r M' => (M 34 v = -9 ∧ r = 1 ∧ M' = zmu M 34 v m) ∨ (¬ M 34 v = -9 ∧ M' = M ∧ ((r = 1 ∧ M 34 v = m) ∨ (r = 0 ∧ ¬ M 34 v = m)))) := by
  refine zSp_in 0 [some (zr 7), some (zi v), some (zi m)] rfl rfl (by decide +kernel) rfl ?_
  refine z_withR (fun hR => ?_)
  have hr34 : zrng (M 34 v) := hR.1 _ _ (by decide)
  refine zaload_3_0 dX4_becomes_0 ?_
  refine zg_Rounds_23 rfl dX4_becomes_1 ?_
  refine ziload_3_1 dX4_becomes_4 ?_
  refine z_iald _ rfl (by decide) (by decide) rfl (by omega) dX4_becomes_5 ?_
  refine z_bipush dX4_becomes_6 (by decide) ?_
  refine z_icmp_ne (tgt := 18) (by first | omega | exact hR.1 _ _ (by decide) | exact zrng_toInt _) (by first | omega | exact hR.1 _ _ (by decide) | exact zrng_toInt _) dX4_becomes_8 (by decide) (fun h8 => ?_) (fun h8 => ?_)
  · have hne : ¬ M 34 v = -9 := h8
    refine zaload_3_0 dX4_becomes_18 ?_
    refine zg_Rounds_23 rfl dX4_becomes_19 ?_
    refine ziload_3_1 dX4_becomes_22 ?_
    refine z_iald _ rfl (by decide) (by decide) rfl (by omega) dX4_becomes_23 ?_
    refine ziload_3_2 dX4_becomes_24 ?_
    first
      | rw [zmu_same]
      | skip
    refine z_icmp_ne (tgt := 32) (by first | omega | exact hR.1 _ _ (by decide) | exact zrng_toInt _) (by first | omega | exact hR.1 _ _ (by decide) | exact zrng_toInt _) dX4_becomes_25 (by decide) (fun h25 => ?_) (fun h25 => ?_)
    · refine z_iconst dX4_becomes_32 ?_
      refine z_zret rfl (by omega) ?_ dX4_becomes_33
      first
        | exact Or.inr ⟨hne, rfl, Or.inl ⟨rfl, by omega⟩⟩
        | exact Or.inr ⟨hne, rfl, Or.inr ⟨rfl, by omega⟩⟩
        | exact Or.inl ⟨heq, rfl, rfl⟩
        | exact absurd (zmu_same M 34 v (m : Int)) (by omega)
    · refine z_iconst dX4_becomes_28 ?_
      refine z_goto (tgt := 33) dX4_becomes_29 (by decide) ?_
      refine z_zret rfl (by omega) ?_ dX4_becomes_33
      first
        | exact Or.inr ⟨hne, rfl, Or.inl ⟨rfl, by omega⟩⟩
        | exact Or.inr ⟨hne, rfl, Or.inr ⟨rfl, by omega⟩⟩
        | exact Or.inl ⟨heq, rfl, rfl⟩
        | exact absurd (zmu_same M 34 v (m : Int)) (by omega)
  · have heq : M 34 v = -9 := h8
    refine zaload_3_0 dX4_becomes_11 ?_
    refine zg_Rounds_23 rfl dX4_becomes_12 ?_
    refine ziload_3_1 dX4_becomes_15 ?_
    refine ziload_3_2 dX4_becomes_16 ?_
    refine z_iast _ (by decide) rfl (by decide) (by decide) rfl (by omega) (by first | omega | exact hR.1 _ _ (by decide) | exact zrng_toInt _) dX4_becomes_17 ?_
    refine z_withR (fun hR => ?_)
    refine zaload_3_0 dX4_becomes_18 ?_
    refine zg_Rounds_23 rfl dX4_becomes_19 ?_
    refine ziload_3_1 dX4_becomes_22 ?_
    refine z_iald _ rfl (by decide) (by decide) rfl (by omega) dX4_becomes_23 ?_
    refine ziload_3_2 dX4_becomes_24 ?_
    first
      | rw [zmu_same]
      | skip
    refine z_icmp_ne (tgt := 32) (by first | omega | exact hR.1 _ _ (by decide) | exact zrng_toInt _) (by first | omega | exact hR.1 _ _ (by decide) | exact zrng_toInt _) dX4_becomes_25 (by decide) (fun h25 => ?_) (fun h25 => ?_)
    · refine z_iconst dX4_becomes_32 ?_
      refine z_zret rfl (by omega) ?_ dX4_becomes_33
      first
        | exact Or.inr ⟨hne, rfl, Or.inl ⟨rfl, by omega⟩⟩
        | exact Or.inr ⟨hne, rfl, Or.inr ⟨rfl, by omega⟩⟩
        | exact Or.inl ⟨heq, rfl, rfl⟩
        | exact absurd (zmu_same M 34 v (m : Int)) (by omega)
    · refine z_iconst dX4_becomes_28 ?_
      refine z_goto (tgt := 33) dX4_becomes_29 (by decide) ?_
      refine z_zret rfl (by omega) ?_ dX4_becomes_33
      first
        | exact Or.inr ⟨hne, rfl, Or.inl ⟨rfl, by omega⟩⟩
        | exact Or.inr ⟨hne, rfl, Or.inr ⟨rfl, by omega⟩⟩
        | exact Or.inl ⟨heq, rfl, rfl⟩
        | exact absurd (zmu_same M 34 v (m : Int)) (by omega)
theorem sp_Rounds_join (M : zMem) (T t u : Nat) (g : Nat → Nat) (hT : T ≤ 20) (ht : t < T) (hu : u < T) (hg : mr T g) (hM : ∀ x, x < T → M 31 x = g x) : zSp zd_Rounds_join 1 [zr 7, zi T, zi t, zi u] M (fun _ M' => zfr [31] M M' ∧ ∀ x, x < T → M' 31 x = jn g t u x) := by
  refine zSp_in 3 [some (zr 7), some (zi T), some (zi t), some (zi u), none, none, none] rfl rfl (by decide +kernel) rfl ?_
  refine z_withR (fun hR => ?_)
  have g1 := hg t ht
  have g2 := hg u hu
  have hl : (if ((g u : Nat) : Int) < ((g t : Nat) : Int) then ((g u : Nat) : Int) else ((g t : Nat) : Int)) = ((min (g t) (g u) : Nat) : Int) := by split <;> omega
  have hx : (if ((g t : Nat) : Int) < ((g u : Nat) : Int) then ((g u : Nat) : Int) else ((g t : Nat) : Int)) = ((max (g t) (g u) : Nat) : Int) := by split <;> omega
  have loop : ∀ (c i : Nat) (M1 : zMem), i + c = T → zfr [31] M M1 → (∀ x, x < i → M1 31 x = jn g t u x) → (∀ x, i ≤ x → x < T → M1 31 x = g x) → zV zd_Rounds_join 1 37 [some (zr 7), some (zi T), some (zi t), some (zi u), some (zi ((min (g t) (g u) : Nat) : Int)), some (zi ((max (g t) (g u) : Nat) : Int)), some (zi i)] [] M1 (fun _ M' => zfr [31] M M' ∧ ∀ x, x < T → M' 31 x = jn g t u x) := by
    intro c
    induction c with
    | zero =>
      intro i M1 hi hf h1 h2
      refine z_withR (fun hR => ?_)
      refine ziload_7_6 dX4_join_37 ?_
      refine ziload_7_1 dX4_join_39 ?_
      refine z_icmp_ge (tgt := 70) (by first | omega | exact hR.1 _ _ (by decide) | exact zrng_toInt _) (by first | omega | exact hR.1 _ _ (by decide) | exact zrng_toInt _) dX4_join_40 (by decide) (fun h40 => ?_) (fun h40 => ?_)
      · refine z_vret rfl ?_ dX4_join_70
        exact ⟨hf, fun x hx => h1 x (by omega)⟩
      · omega
    | succ c ih =>
      intro i M1 hi hf h1 h2
      have h3 := h2 i (Nat.le_refl _) (by omega)
      have h4 := (hg i (by omega)).1
      refine z_withR (fun hR => ?_)
      refine ziload_7_6 dX4_join_37 ?_
      refine ziload_7_1 dX4_join_39 ?_
      refine z_icmp_ge (tgt := 70) (by first | omega | exact hR.1 _ _ (by decide) | exact zrng_toInt _) (by first | omega | exact hR.1 _ _ (by decide) | exact zrng_toInt _) dX4_join_40 (by decide) (fun h40 => ?_) (fun h40 => ?_)
      · omega
      · refine zaload_7_0 dX4_join_43 ?_
        refine zg_Rounds_11 rfl dX4_join_44 ?_
        refine ziload_7_6 dX4_join_47 ?_
        refine z_iald _ rfl (by decide) (by decide) rfl (by omega) dX4_join_49 ?_
        refine z_top h3 ?_
        refine ziload_7_5 dX4_join_50 ?_
        refine z_icmp_ne (tgt := 64) (by first | omega | exact hR.1 _ _ (by decide) | exact zrng_toInt _) (by first | omega | exact hR.1 _ _ (by decide) | exact zrng_toInt _) dX4_join_52 (by decide) (fun h52 => ?_) (fun h52 => ?_)
        · have e1 : jn g t u i = g i := by unfold jn; rw [if_neg (by omega)]
          refine ziinc_7_6 dX4_join_64 ?_
          refine z_goto (tgt := 37) dX4_join_67 (by decide) ?_
          first
            | exact ih (i + 1) M1 (by omega) hf (fun x hx => by
                by_cases e : x = i
                · rw [e, e1]; exact h3
                · exact h1 x (by omega)) (fun x a b => h2 x (by omega) b)
            | exact ih (i + 1) _ (by omega) (hf.mu (by decide)) (fun x hx => by
                by_cases e : x = i
                · rw [e, zmu_same, e1]
                · rw [zmu_ne _ _ _ _ e]; exact h1 x (by omega)) (fun x a b => by rw [zmu_ne _ _ _ _ (by omega)]; exact h2 x (by omega) b)
        · have e1 : jn g t u i = min (g t) (g u) := by unfold jn; rw [if_pos (by omega)]
          refine zaload_7_0 dX4_join_55 ?_
          refine zg_Rounds_11 rfl dX4_join_56 ?_
          refine ziload_7_6 dX4_join_59 ?_
          refine ziload_7_4 dX4_join_61 ?_
          refine z_iast _ (by decide) rfl (by decide) (by decide) rfl (by omega) (by first | omega | exact hR.1 _ _ (by decide) | exact zrng_toInt _) dX4_join_63 ?_
          refine z_withR (fun hR => ?_)
          refine ziinc_7_6 dX4_join_64 ?_
          refine z_goto (tgt := 37) dX4_join_67 (by decide) ?_
          first
            | exact ih (i + 1) M1 (by omega) hf (fun x hx => by
                by_cases e : x = i
                · rw [e, e1]; exact h3
                · exact h1 x (by omega)) (fun x a b => h2 x (by omega) b)
            | exact ih (i + 1) _ (by omega) (hf.mu (by decide)) (fun x hx => by
                by_cases e : x = i
                · rw [e, zmu_same, e1]
                · rw [zmu_ne _ _ _ _ e]; exact h1 x (by omega)) (fun x a b => by rw [zmu_ne _ _ _ _ (by omega)]; exact h2 x (by omega) b)
  refine zaload_7_0 dX4_join_0 ?_
  refine zg_Rounds_11 rfl dX4_join_1 ?_
  refine ziload_7_2 dX4_join_4 ?_
  refine z_iald _ rfl (by decide) (by decide) rfl (by omega) dX4_join_5 ?_
  refine z_top (hM t ht) ?_
  refine zaload_7_0 dX4_join_6 ?_
  refine zg_Rounds_11 rfl dX4_join_7 ?_
  refine ziload_7_3 dX4_join_10 ?_
  refine z_iald _ rfl (by decide) (by decide) rfl (by omega) dX4_join_11 ?_
  refine z_top (hM u hu) ?_
  refine zc_Rounds_93 rfl dX4_join_12 (by decide) (Nat.le_of_ble_eq_true rfl) (by first | omega | exact hR.1 _ _ (by decide) | exact zrng_toInt _) (by first | omega | exact hR.1 _ _ (by decide) | exact zrng_toInt _) ?_
  refine z_top hl ?_
  refine zistore_7_4 dX4_join_15 ?_
  refine zaload_7_0 dX4_join_17 ?_
  refine zg_Rounds_11 rfl dX4_join_18 ?_
  refine ziload_7_2 dX4_join_21 ?_
  refine z_iald _ rfl (by decide) (by decide) rfl (by omega) dX4_join_22 ?_
  refine z_top (hM t ht) ?_
  refine zaload_7_0 dX4_join_23 ?_
  refine zg_Rounds_11 rfl dX4_join_24 ?_
  refine ziload_7_3 dX4_join_27 ?_
  refine z_iald _ rfl (by decide) (by decide) rfl (by omega) dX4_join_28 ?_
  refine z_top (hM u hu) ?_
  refine zc_Rounds_85 rfl dX4_join_29 (by decide) (Nat.le_of_ble_eq_true rfl) (by first | omega | exact hR.1 _ _ (by decide) | exact zrng_toInt _) (by first | omega | exact hR.1 _ _ (by decide) | exact zrng_toInt _) ?_
  refine z_top hx ?_
  refine zistore_7_5 dX4_join_32 ?_
  refine z_iconst dX4_join_34 ?_
  refine zistore_7_6 dX4_join_35 ?_
  exact loop T 0 M (by omega) zfr.rf (fun x h => absurd h (Nat.not_lt_zero _)) (fun x _ h => hM x h)
theorem sp_Rounds_isMadeByLaw (M : zMem) (L R : Nat → Nat) (T a b t u : Nat) (hT : tmC M L R T) (hq : uqT L R T) (ha : a < T) (hb : b < T) (ht : t < T) (hu : u < T) : zSp zd_Rounds_isMadeByLaw 1 [zr 7, zr 1, zi a, zi b, zi t, zi u] M (fun r M' => zfr [34] M M' ∧ ((r = 1 ∧ mbP L R T a b t u) ∨ (r = 0 ∧ ¬ mbP L R T a b t u))) := by
  refine zSp_in 2 [some (zr 7), some (zr 1), some (zi a), some (zi b), some (zi t), some (zi u), none, none] rfl rfl (by decide +kernel) rfl ?_
  refine z_withR (fun hR => ?_)
  obtain ⟨hT1, hT3, hT20, hw, hLR, hnd⟩ := id hT
  obtain ⟨post, hpost⟩ : ∃ post : Int → zMem → Prop, post = (fun (r : Int) M' => zfr [34] M M' ∧ ((r = 1 ∧ mbP L R T a b t u) ∨ (r = 0 ∧ ¬ mbP L R T a b t u))) := ⟨_, rfl⟩
  rw [← hpost]
  have loop : ∀ (c v : Nat) (M1 : zMem) (g : Option zAV), v = c + 2 → v < T → zfr [34] M M1 → (∀ x, x < T → M1 34 x = -9 ∨ (0 ≤ M1 34 x ∧ M1 34 x < T)) → M1 34 a = t → M1 34 b = u →
      (∀ x y z, x < T → y < T → z < T → im L R T x y z a = some t → im L R T x y z b = some u → ∀ s, s < T → ¬ M1 34 s = -9 → im L R T x y z s = some (M1 34 s).toNat) →
      (∀ s, v < s → s < T → ¬ M1 34 s = -9 → 3 ≤ M1 34 s ∧ M1 34 (L s) = L (M1 34 s).toNat ∧ M1 34 (R s) = R (M1 34 s).toNat) →
      zV zd_Rounds_isMadeByLaw 1 38 [some (zr 7), some (zr 1), some (zi a), some (zi b), some (zi t), some (zi u), some (zi v), g] [] M1 post := by
    intro c
    induction c with
    | zero =>
      intro v M1 g hv hvT hf hrg e1 e2 hs hpr
      refine z_withR (fun hR => ?_)
      refine ziload_8_6 dX4_isMadeByLaw_38 ?_
      refine z_iconst dX4_isMadeByLaw_40 ?_
      refine z_icmp_lt (tgt := 119) (by first | omega | exact hR.1 _ _ (by decide) | exact zrng_toInt _) (by first | omega | exact hR.1 _ _ (by decide) | exact zrng_toInt _) dX4_isMadeByLaw_41 (by decide) (fun h41 => ?_) (fun h41 => ?_)
      · refine z_iconst dX4_isMadeByLaw_119 ?_
        refine z_zret rfl (by omega) ?_ dX4_isMadeByLaw_120
        rw [hpost]
        refine ⟨hf, Or.inl ⟨rfl, ?_⟩⟩
        have hpr2 : ∀ s, 3 ≤ s → s < T → ¬ M1 34 s = -9 → 3 ≤ M1 34 s ∧ M1 34 (L s) = L (M1 34 s).toNat ∧ M1 34 (R s) = R (M1 34 s).toNat := fun s h3 => hpr s (by omega)
        have val : ∀ l : Nat, l < 3 → ∃ x, x < T ∧ (¬ M1 34 l = -9 → M1 34 l = x) := by
          intro l hl
          rcases hrg l (by omega) with h | h
          · exact ⟨0, by omega, fun h9 => absurd h h9⟩
          · exact ⟨(M1 34 l).toNat, by omega, fun _ => by omega⟩
        obtain ⟨x, hx, ex⟩ := val 0 (by omega)
        obtain ⟨y, hy, ey⟩ := val 1 (by omega)
        obtain ⟨z, hz, ez⟩ := val 2 (by omega)
        have key := ev_ind hw (fun s => ¬ M1 34 s = -9 → im L R T x y z s = some (M1 34 s).toNat) (fun h => by rw [ex h]; rfl) (fun h => by rw [ey h]; rfl) (fun h => by rw [ez h]; rfl) (fun s h3 hs2 il ir h => by
          obtain ⟨q1, q2, q3⟩ := hpr2 s h3 hs2 h
          have hrs := (hrg s hs2).resolve_left h
          rw [im_some hw hq h3 hs2]
          refine ⟨by omega, by omega, ?_, ?_⟩
          · rw [il (by rw [q2]; omega), q2]; rfl
          · rw [ir (by rw [q3]; omega), q3]; rfl)
        refine ⟨x, y, z, hx, hy, hz, ?_, ?_⟩
        · rw [key a ha (by rw [e1]; omega), e1]; rfl
        · rw [key b hb (by rw [e2]; omega), e2]; rfl
      · omega
    | succ c ih =>
      intro v M1 g hv hvT hf hrg e1 e2 hs hpr
      have hv3 : 3 ≤ v := by omega
      obtain ⟨lv, rv⟩ := hw v hv3 hvT
      have eL : M1 10 v = L v := by rw [hf 10 (by decide)]; exact (hLR v hv3 hvT).1
      have eR : M1 11 v = R v := by rw [hf 11 (by decide)]; exact (hLR v hv3 hvT).2
      have hrv := hrg v hvT
      have fail : ¬ M1 34 v = -9 → (∀ x y z, x < T → y < T → z < T → im L R T x y z (L v) = some (L (M1 34 v).toNat) → im L R T x y z (R v) = some (R (M1 34 v).toNat) → 3 ≤ M1 34 v → im L R T x y z a = some t → im L R T x y z b = some u → False) → ¬ mbP L R T a b t u := by
        intro h hno ⟨x, y, z, hx, hy, hz, i1, i2⟩
        have h1 := hs x y z hx hy hz i1 i2 v hvT h
        obtain ⟨q1, q2, q3, q4⟩ := (im_some hw hq hv3 hvT).mp h1
        exact hno x y z hx hy hz q3 q4 (by omega) i1 i2
      have k113 : ∀ (M2 : zMem) (g : Option zAV), zfr [34] M M2 → (∀ x, x < T → M2 34 x = -9 ∨ (0 ≤ M2 34 x ∧ M2 34 x < T)) → M2 34 a = t → M2 34 b = u →
          (∀ x y z, x < T → y < T → z < T → im L R T x y z a = some t → im L R T x y z b = some u → ∀ s, s < T → ¬ M2 34 s = -9 → im L R T x y z s = some (M2 34 s).toNat) →
          (∀ s, v ≤ s → s < T → ¬ M2 34 s = -9 → 3 ≤ M2 34 s ∧ M2 34 (L s) = L (M2 34 s).toNat ∧ M2 34 (R s) = R (M2 34 s).toNat) → zV zd_Rounds_isMadeByLaw 1 113 [some (zr 7), some (zr 1), some (zi a), some (zi b), some (zi t), some (zi u), some (zi v), g] [] M2 post := by
        intro M2 g hf2 hrg2 f1 f2 hs2 hpr2
        refine ziinc_8_6 dX4_isMadeByLaw_113 ?_
        rw [show (v : Int) + -1 = ((v - 1 : Nat) : Int) by omega]
        refine z_goto (tgt := 38) dX4_isMadeByLaw_116 (by decide) ?_
        exact ih (v - 1) M2 _ (by omega) (by omega) hf2 hrg2 f1 f2 hs2 (fun s h1 => hpr2 s (by omega))
      -- a place that is set to what every good setting gives
      have put : ∀ (M2 : zMem) (s0 m0 : Nat), s0 < v → m0 < T → M2 34 s0 = -9 → zfr [34] M M2 → (∀ x, x < T → M2 34 x = -9 ∨ (0 ≤ M2 34 x ∧ M2 34 x < T)) → M2 34 a = t → M2 34 b = u →
          (∀ x y z, x < T → y < T → z < T → im L R T x y z a = some t → im L R T x y z b = some u → ∀ s, s < T → ¬ M2 34 s = -9 → im L R T x y z s = some (M2 34 s).toNat) →
          (∀ s, v < s → s < T → ¬ M2 34 s = -9 → 3 ≤ M2 34 s ∧ M2 34 (L s) = L (M2 34 s).toNat ∧ M2 34 (R s) = R (M2 34 s).toNat) →
          (∀ x y z, x < T → y < T → z < T → im L R T x y z a = some t → im L R T x y z b = some u → im L R T x y z s0 = some m0) →
          zfr [34] M (zmu M2 34 s0 m0) ∧ (∀ x, x < T → zmu M2 34 s0 m0 34 x = -9 ∨ (0 ≤ zmu M2 34 s0 m0 34 x ∧ zmu M2 34 s0 m0 34 x < T)) ∧ zmu M2 34 s0 m0 34 a = t ∧ zmu M2 34 s0 m0 34 b = u ∧
          (∀ x y z, x < T → y < T → z < T → im L R T x y z a = some t → im L R T x y z b = some u → ∀ s, s < T → ¬ zmu M2 34 s0 m0 34 s = -9 → im L R T x y z s = some (zmu M2 34 s0 m0 34 s).toNat) ∧
          (∀ s, v < s → s < T → ¬ zmu M2 34 s0 m0 34 s = -9 → 3 ≤ zmu M2 34 s0 m0 34 s ∧ zmu M2 34 s0 m0 34 (L s) = L (zmu M2 34 s0 m0 34 s).toNat ∧ zmu M2 34 s0 m0 34 (R s) = R (zmu M2 34 s0 m0 34 s).toNat) ∧ (∀ s, ¬ M2 34 s = -9 → zmu M2 34 s0 m0 34 s = M2 34 s) := by
        intro M2 s0 m0 h0 hm0 hneg hf2 hrg2 f1 f2 hs2 hpr2 hgood
        have keep : ∀ s, ¬ M2 34 s = -9 → zmu M2 34 s0 m0 34 s = M2 34 s := fun s h => zmu_ne _ _ _ _ (fun e => h (by rw [e]; exact hneg))
        refine ⟨hf2.mu (by decide), fun x hx => ?_, ?_, ?_, fun x y z hx hy hz i1 i2 s hsT h => ?_, fun s h1 h2 h3 => ?_, keep⟩
        · by_cases e : x = s0
          · rw [e, zmu_same]; omega
          · rw [zmu_ne _ _ _ _ e]; exact hrg2 x hx
        · rw [keep a (by rw [f1]; omega)]; exact f1
        · rw [keep b (by rw [f2]; omega)]; exact f2
        · by_cases e : s = s0
          · rw [e, zmu_same]; exact hgood x y z hx hy hz i1 i2
          · rw [zmu_ne _ _ _ _ e] at h ⊢; exact hs2 x y z hx hy hz i1 i2 s hsT h
        · rw [zmu_ne _ _ _ _ (by omega)] at h3 ⊢
          obtain ⟨q1, q2, q3⟩ := hpr2 s h1 h2 h3
          refine ⟨q1, ?_, ?_⟩
          · rw [keep _ (by rw [q2]; omega)]; exact q2
          · rw [keep _ (by rw [q3]; omega)]; exact q3
      have step : ∀ m : Nat, M1 34 v = m → 3 ≤ m → m < T → zV zd_Rounds_isMadeByLaw 1 69 [some (zr 7), some (zr 1), some (zi a), some (zi b), some (zi t), some (zi u), some (zi v), some (zi m)] [] M1 post := by
        intro m hm hm3 hmT
        obtain ⟨lm, rm⟩ := hw m hm3 hmT
        have hne : ¬ M1 34 v = -9 := by omega
        have hmn : (M1 34 v).toNat = m := by omega
        have good : ∀ x y z, x < T → y < T → z < T → im L R T x y z a = some t → im L R T x y z b = some u → im L R T x y z (L v) = some (L m) ∧ im L R T x y z (R v) = some (R m) := by
          intro x y z hx hy hz i1 i2
          have h1 := hs x y z hx hy hz i1 i2 v hvT hne
          obtain ⟨-, -, q3, q4⟩ := (im_some hw hq hv3 hvT).mp h1
          rw [hmn] at q3 q4
          exact ⟨q3, q4⟩
        have kR : ∀ (M2 : zMem), zfr [34] M M2 → (∀ x, x < T → M2 34 x = -9 ∨ (0 ≤ M2 34 x ∧ M2 34 x < T)) → M2 34 a = t → M2 34 b = u →
          (∀ x y z, x < T → y < T → z < T → im L R T x y z a = some t → im L R T x y z b = some u → ∀ s, s < T → ¬ M2 34 s = -9 → im L R T x y z s = some (M2 34 s).toNat) →
          (∀ s, v < s → s < T → ¬ M2 34 s = -9 → 3 ≤ M2 34 s ∧ M2 34 (L s) = L (M2 34 s).toNat ∧ M2 34 (R s) = R (M2 34 s).toNat) → M2 34 v = m → M2 34 (L v) = L m → zV zd_Rounds_isMadeByLaw 1 90 [some (zr 7), some (zr 1), some (zi a), some (zi b), some (zi t), some (zi u), some (zi v), some (zi m)] [] M2 post := by
          intro M2 hf2 hrg2 f1 f2 hs2 hpr2 hv2 hl2
          have eR2 : M2 11 v = R v := by rw [hf2 11 (by decide)]; exact (hLR v hv3 hvT).2
          have eRm : M2 11 m = R m := by rw [hf2 11 (by decide)]; exact (hLR m hm3 hmT).2
          refine z_withR (fun hR => ?_)
          refine zaload_8_0 dX4_isMadeByLaw_90 ?_
          refine zaload_8_1 dX4_isMadeByLaw_91 ?_
          refine zg_Rounds_92 rfl dX4_isMadeByLaw_92 ?_
          refine ziload_8_6 dX4_isMadeByLaw_95 ?_
          refine z_iald (v) rfl (by decide) (by decide) (by omega) (by omega) dX4_isMadeByLaw_97 ?_
          refine z_top eR2 ?_
          refine zaload_8_1 dX4_isMadeByLaw_98 ?_
          refine zg_Rounds_92 rfl dX4_isMadeByLaw_99 ?_
          refine ziload_8_7 dX4_isMadeByLaw_102 ?_
          refine z_iald (m) rfl (by decide) (by decide) (by omega) (by omega) dX4_isMadeByLaw_104 ?_
          refine z_top eRm ?_
          refine zc_Rounds_82 rfl dX4_isMadeByLaw_105 (by decide) (Nat.le_of_ble_eq_true rfl) (sp_Rounds_becomes M2 (R v) (R m) (by omega) (by omega)) (fun r105 M105 hq105 => ?_)
          refine z_withR (fun hR => ?_)
          refine z_if_ne (tgt := 113) (by omega) dX4_isMadeByLaw_108 (by decide) (fun h108 => ?_) (fun h108 => ?_)
          · rcases hq105 with ⟨h7, _, h9⟩ | ⟨h7, h9, ⟨_, h8⟩ | ⟨h8, _⟩⟩
            · obtain ⟨p1, p2, p3, p4, p5, p6, p7⟩ := put M2 (R v) (R m) rv (by omega) h7 hf2 hrg2 f1 f2 hs2 hpr2 (fun x y z hx hy hz i1 i2 => (good x y z hx hy hz i1 i2).2)
              rw [h9]
              refine k113 _ _ p1 p2 p3 p4 p5 (fun s h1 h2 h3 => ?_)
              by_cases e : s = v
              · subst e
                rw [p7 s (by rw [hv2]; omega), hv2]
                refine ⟨by omega, ?_, ?_⟩
                · rw [p7 _ (by rw [hl2]; omega)]; exact hl2
                · rw [zmu_same]; rfl
              · exact p6 s (by omega) h2 h3
            · rw [h9]
              refine k113 _ _ hf2 hrg2 f1 f2 hs2 (fun s h1 h2 h3 => ?_)
              by_cases e : s = v
              · subst e
                rw [hv2]
                exact ⟨by omega, hl2, h8⟩
              · exact hpr2 s (by omega) h2 h3
            · omega
          · have hno : ¬ M2 34 (R v) = -9 ∧ ¬ M2 34 (R v) = R m := by
              rcases hq105 with ⟨_, h9, _⟩ | ⟨h8, _, ⟨h9, _⟩ | ⟨_, h9⟩⟩
              · omega
              · omega
              · exact ⟨h8, h9⟩
            refine z_iconst dX4_isMadeByLaw_111 ?_
            refine z_zret rfl (by omega) ?_ dX4_isMadeByLaw_112
            rw [hpost]
            have hMM : M105 = M2 := by
              rcases hq105 with ⟨_, h9, _⟩ | ⟨_, h9, _⟩
              · omega
              · exact h9
            rw [hMM]
            refine ⟨hf2, Or.inr ⟨rfl, fun ⟨x, y, z, hx, hy, hz, i1, i2⟩ => ?_⟩⟩
            have h1 := hs2 x y z hx hy hz i1 i2 (R v) (by omega) hno.1
            have h2 := (good x y z hx hy hz i1 i2).2
            rw [h1] at h2
            have h3 := Option.some.inj h2
            have h4 := (hrg2 (R v) (by omega)).resolve_left hno.1
            exact hno.2 (by omega)
        have eLm : M1 10 m = L m := by rw [hf 10 (by decide)]; exact (hLR m hm3 hmT).1
        refine z_withR (fun hR => ?_)
        refine zaload_8_0 dX4_isMadeByLaw_69 ?_
        refine zaload_8_1 dX4_isMadeByLaw_70 ?_
        refine zg_Rounds_91 rfl dX4_isMadeByLaw_71 ?_
        refine ziload_8_6 dX4_isMadeByLaw_74 ?_
        refine z_iald (v) rfl (by decide) (by decide) (by omega) (by omega) dX4_isMadeByLaw_76 ?_
        refine z_top eL ?_
        refine zaload_8_1 dX4_isMadeByLaw_77 ?_
        refine zg_Rounds_91 rfl dX4_isMadeByLaw_78 ?_
        refine ziload_8_7 dX4_isMadeByLaw_81 ?_
        refine z_iald (m) rfl (by decide) (by decide) (by omega) (by omega) dX4_isMadeByLaw_83 ?_
        refine z_top eLm ?_
        refine zc_Rounds_82 rfl dX4_isMadeByLaw_84 (by decide) (Nat.le_of_ble_eq_true rfl) (sp_Rounds_becomes M1 (L v) (L m) (by omega) (by omega)) (fun r84 M84 hq84 => ?_)
        refine z_withR (fun hR => ?_)
        refine z_if_eq (tgt := 111) (by omega) dX4_isMadeByLaw_87 (by decide) (fun h87 => ?_) (fun h87 => ?_)
        · have hno : ¬ M1 34 (L v) = -9 ∧ ¬ M1 34 (L v) = L m := by
            rcases hq84 with ⟨_, h9, _⟩ | ⟨h8, _, ⟨h9, _⟩ | ⟨_, h9⟩⟩
            · omega
            · omega
            · exact ⟨h8, h9⟩
          refine z_iconst dX4_isMadeByLaw_111 ?_
          refine z_zret rfl (by omega) ?_ dX4_isMadeByLaw_112
          rw [hpost]
          have hMM : M84 = M1 := by
            rcases hq84 with ⟨_, h9, _⟩ | ⟨_, h9, _⟩
            · omega
            · exact h9
          rw [hMM]
          refine ⟨hf, Or.inr ⟨rfl, fun ⟨x, y, z, hx, hy, hz, i1, i2⟩ => ?_⟩⟩
          have h1 := hs x y z hx hy hz i1 i2 (L v) (by omega) hno.1
          have h2 := (good x y z hx hy hz i1 i2).1
          rw [h1] at h2
          have h3 := Option.some.inj h2
          have h4 := (hrg (L v) (by omega)).resolve_left hno.1
          exact hno.2 (by omega)
        · rcases hq84 with ⟨h7, _, h9⟩ | ⟨h7, h9, ⟨_, h8⟩ | ⟨h8, _⟩⟩
          · obtain ⟨p1, p2, p3, p4, p5, p6, p7⟩ := put M1 (L v) (L m) lv (by omega) h7 hf hrg e1 e2 hs hpr (fun x y z hx hy hz i1 i2 => (good x y z hx hy hz i1 i2).1)
            rw [h9]
            exact kR _ p1 p2 p3 p4 p5 p6 (by rw [p7 v hne]; exact hm) (zmu_same _ _ _ _)
          · rw [h9]
            exact kR M1 hf hrg e1 e2 hs hpr hm h8
          · omega
      refine z_withR (fun hR => ?_)
      refine ziload_8_6 dX4_isMadeByLaw_38 ?_
      refine z_iconst dX4_isMadeByLaw_40 ?_
      refine z_icmp_lt (tgt := 119) (by first | omega | exact hR.1 _ _ (by decide) | exact zrng_toInt _) (by first | omega | exact hR.1 _ _ (by decide) | exact zrng_toInt _) dX4_isMadeByLaw_41 (by decide) (fun h41 => ?_) (fun h41 => ?_)
      · omega
      · refine zaload_8_0 dX4_isMadeByLaw_44 ?_
        refine zg_Rounds_23 rfl dX4_isMadeByLaw_45 ?_
        refine ziload_8_6 dX4_isMadeByLaw_48 ?_
        refine z_iald (v) rfl (by decide) (by decide) (by omega) (by omega) dX4_isMadeByLaw_50 ?_
        refine zistore_8_7 dX4_isMadeByLaw_51 ?_
        refine ziload_8_7 dX4_isMadeByLaw_53 ?_
        refine z_bipush dX4_isMadeByLaw_55 (by decide) ?_
        refine z_icmp_ne (tgt := 63) (by first | omega | exact hR.1 _ _ (by decide) | exact zrng_toInt _) (by first | omega | exact hR.1 _ _ (by decide) | exact zrng_toInt _) dX4_isMadeByLaw_57 (by decide) (fun h57 => ?_) (fun h57 => ?_)
        · have hset := hrv.resolve_left h57
          obtain ⟨m, hm⟩ : ∃ m : Nat, M1 34 v = m := ⟨(M1 34 v).toNat, by omega⟩
          refine ziload_8_7 dX4_isMadeByLaw_63 ?_
          refine z_iconst dX4_isMadeByLaw_65 ?_
          refine z_icmp_lt (tgt := 111) (by first | omega | exact hR.1 _ _ (by decide) | exact zrng_toInt _) (by first | omega | exact hR.1 _ _ (by decide) | exact zrng_toInt _) dX4_isMadeByLaw_66 (by decide) (fun h66 => ?_) (fun h66 => ?_)
          · refine z_iconst dX4_isMadeByLaw_111 ?_
            refine z_zret rfl (by omega) ?_ dX4_isMadeByLaw_112
            rw [hpost]
            exact ⟨hf, Or.inr ⟨rfl, fail h57 (fun x y z _ _ _ _ _ h3 _ _ => by omega)⟩⟩
          · rw [hm]
            exact step m hm (by omega) (by omega)
        · have hun : M1 34 v = -9 := h57
          refine z_goto (tgt := 113) dX4_isMadeByLaw_60 (by decide) ?_
          exact k113 M1 _ hf hrg e1 e2 hs (fun s h1 h2 h3 => by
            by_cases e : s = v
            · rw [e] at h3; exact absurd hun h3
            · exact hpr s (by omega) h2 h3)
  have start : ∀ (M1 : zMem), zfr [34] M M1 → (∀ x, x < 20 → ¬ x = a → ¬ x = b → M1 34 x = -9) → M1 34 a = t → M1 34 b = u → zV zd_Rounds_isMadeByLaw 1 31 [some (zr 7), some (zr 1), some (zi a), some (zi b), some (zi t), some (zi u), none, none] [] M1 post := by
    intro M1 hf ho e1 e2
    have hcase : ∀ x, x < T → ¬ M1 34 x = -9 → (x = a ∧ M1 34 x = t) ∨ (x = b ∧ M1 34 x = u) := by
      intro x hx h
      by_cases xa : x = a
      · exact Or.inl ⟨xa, by rw [xa]; exact e1⟩
      · by_cases xb : x = b
        · exact Or.inr ⟨xb, by rw [xb]; exact e2⟩
        · exact absurd (ho x (by omega) xa xb) h
    have rg : ∀ x, x < T → M1 34 x = -9 ∨ (0 ≤ M1 34 x ∧ M1 34 x < T) := by
      intro x hx
      by_cases h : M1 34 x = -9
      · exact Or.inl h
      · rcases hcase x hx h with ⟨_, h2⟩ | ⟨_, h2⟩ <;> omega
    have snd : ∀ x y z, x < T → y < T → z < T → im L R T x y z a = some t → im L R T x y z b = some u → ∀ s, s < T → ¬ M1 34 s = -9 → im L R T x y z s = some (M1 34 s).toNat := by
      intro x y z hx hy hz i1 i2 s hsT h
      rcases hcase s hsT h with ⟨h1, h2⟩ | ⟨h1, h2⟩
      · rw [h2, h1]; exact i1
      · rw [h2, h1]; exact i2
    have hmx : (if (a : Int) < (b : Int) then (b : Int) else (a : Int)) = ((max a b : Nat) : Int) := by split <;> omega
    refine z_withR (fun hR => ?_)
    by_cases h3 : 3 ≤ max a b
    · have hz := loop (max a b - 2) (max a b) M1 none (by omega) (by omega) hf rg e1 e2 snd (fun s h1 h2 h => by
        rcases hcase s h2 h with ⟨h5, _⟩ | ⟨h5, _⟩ <;> omega)
      refine ziload_8_2 dX4_isMadeByLaw_31 ?_
      refine ziload_8_3 dX4_isMadeByLaw_32 ?_
      refine zc_Rounds_85 rfl dX4_isMadeByLaw_33 (by decide) (Nat.le_of_ble_eq_true rfl) (by first | omega | exact hR.1 _ _ (by decide) | exact zrng_toInt _) (by first | omega | exact hR.1 _ _ (by decide) | exact zrng_toInt _) ?_
      refine z_top hmx ?_
      refine zistore_8_6 dX4_isMadeByLaw_36 ?_
      exact hz
    · have hz := loop 0 2 M1 none (by omega) (by omega) hf rg e1 e2 snd (fun s h1 h2 h => by
        rcases hcase s h2 h with ⟨h5, _⟩ | ⟨h5, _⟩ <;> omega)
      refine ziload_8_2 dX4_isMadeByLaw_31 ?_
      refine ziload_8_3 dX4_isMadeByLaw_32 ?_
      refine zc_Rounds_85 rfl dX4_isMadeByLaw_33 (by decide) (Nat.le_of_ble_eq_true rfl) (by first | omega | exact hR.1 _ _ (by decide) | exact zrng_toInt _) (by first | omega | exact hR.1 _ _ (by decide) | exact zrng_toInt _) ?_
      refine z_top hmx ?_
      refine zistore_8_6 dX4_isMadeByLaw_36 ?_
      refine ziload_8_6 dX4_isMadeByLaw_38 ?_
      refine z_iconst dX4_isMadeByLaw_40 ?_
      refine z_icmp_lt (tgt := 119) (by first | omega | exact hR.1 _ _ (by decide) | exact zrng_toInt _) (by first | omega | exact hR.1 _ _ (by decide) | exact zrng_toInt _) dX4_isMadeByLaw_41 (by decide) (fun h41 => ?_) (fun h41 => ?_)
      · refine z_iconst dX4_isMadeByLaw_119 ?_
        refine z_zret rfl (by omega) ?_ dX4_isMadeByLaw_120
        rw [hpost]
        refine ⟨hf, Or.inl ⟨rfl, ?_⟩⟩
        have lt3 : ∀ (x y z l : Nat), l < 3 → im L R T x y z l = some (if l = 0 then x else if l = 1 then y else z) := by
          intro x y z l hl
          rcases (show l = 0 ∨ l = 1 ∨ l = 2 by omega) with rfl | rfl | rfl <;> rfl
        have e12 : a = b → t = u := fun h => by rw [h, e2] at e1; omega
        refine ⟨if a = 0 then t else if b = 0 then u else 0, if a = 1 then t else if b = 1 then u else 0, if a = 2 then t else if b = 2 then u else 0, by (repeat' split) <;> omega, by (repeat' split) <;> omega, by (repeat' split) <;> omega, ?_, ?_⟩
        · rw [lt3 _ _ _ a (by omega)]
          congr 1
          rcases (show a = 0 ∨ a = 1 ∨ a = 2 by omega) with h | h | h <;> rw [h] <;> simp
        · rw [lt3 _ _ _ b (by omega)]
          congr 1
          by_cases hab : a = b
          · rw [← hab, ← e12 hab]
            rcases (show a = 0 ∨ a = 1 ∨ a = 2 by omega) with h | h | h <;> rw [h] <;> simp
          · rcases (show b = 0 ∨ b = 1 ∨ b = 2 by omega) with h | h | h <;> rw [h] at hab ⊢ <;> simp [hab]
      · omega
  refine zaload_8_0 dX4_isMadeByLaw_0 ?_
  refine zg_Rounds_23 rfl dX4_isMadeByLaw_1 ?_
  refine z_bipush dX4_isMadeByLaw_4 (by decide) ?_
  refine zc_Rounds_59 rfl dX4_isMadeByLaw_6 (by decide) (Nat.le_of_ble_eq_true rfl) (sp_fill34 M (-9) (by decide)) (fun r6 M6 hq6 => ?_)
  refine z_withR (fun hR => ?_)
  obtain ⟨hf6, h6⟩ := hq6
  refine zaload_8_0 dX4_isMadeByLaw_9 ?_
  refine ziload_8_2 dX4_isMadeByLaw_10 ?_
  refine ziload_8_4 dX4_isMadeByLaw_11 ?_
  refine zc_Rounds_82 rfl dX4_isMadeByLaw_13 (by decide) (Nat.le_of_ble_eq_true rfl) (sp_Rounds_becomes M6 a t (by omega) (by omega)) (fun r13 M13 hq13 => ?_)
  refine z_withR (fun hR => ?_)
  have h13 : r13 = 1 ∧ M13 = zmu M6 34 a t := by
    rcases hq13 with ⟨_, h2, h3⟩ | ⟨h1, _⟩
    · exact ⟨h2, h3⟩
    · exact absurd (h6 a (by omega)) h1
  obtain ⟨rfl, rfl⟩ := h13
  refine z_if_eq (tgt := 29) (by omega) dX4_isMadeByLaw_16 (by decide) (fun h16 => ?_) (fun h16 => ?_)
  · omega
  · refine zaload_8_0 dX4_isMadeByLaw_19 ?_
    refine ziload_8_3 dX4_isMadeByLaw_20 ?_
    refine ziload_8_5 dX4_isMadeByLaw_21 ?_
    refine zc_Rounds_82 rfl dX4_isMadeByLaw_23 (by decide) (Nat.le_of_ble_eq_true rfl) (sp_Rounds_becomes _ b u (by omega) (by omega)) (fun r23 M23 hq23 => ?_)
    refine z_withR (fun hR => ?_)
    refine z_if_ne (tgt := 31) (by omega) dX4_isMadeByLaw_26 (by decide) (fun h26 => ?_) (fun h26 => ?_)
    · rcases hq23 with ⟨h7, _, h9⟩ | ⟨h7, h9, ⟨_, h8⟩ | ⟨h8, _⟩⟩
      · have hab : ¬ b = a := fun e => by rw [e, zmu_same] at h7; omega
        rw [h9]
        refine start _ ((hf6.mu (by decide)).mu (by decide)) (fun x hx xa xb => ?_) ?_ (zmu_same _ _ _ _)
        · rw [zmu_ne _ _ _ _ xb, zmu_ne _ _ _ _ xa]; exact h6 x hx
        · rw [zmu_ne _ _ _ _ (fun e => hab e.symm), zmu_same]
      · rw [h9]
        refine start _ (hf6.mu (by decide)) (fun x hx xa xb => ?_) (zmu_same _ _ _ _) h8
        rw [zmu_ne _ _ _ _ xa]; exact h6 x hx
      · omega
    · refine z_iconst dX4_isMadeByLaw_29 ?_
      refine z_zret rfl (by omega) ?_ dX4_isMadeByLaw_30
      rw [hpost]
      rcases hq23 with ⟨_, h7, _⟩ | ⟨h7, h9, ⟨h8, _⟩ | ⟨_, h8⟩⟩
      · omega
      · omega
      · have hab : b = a := Classical.not_not.mp (fun e => h7 (by rw [zmu_ne _ _ _ _ e]; exact h6 b (by omega)))
        rw [hab, zmu_same] at h8
        rw [h9]
        refine ⟨hf6.mu (by decide), Or.inr ⟨rfl, fun ⟨x, y, z, _, _, _, i1, i2⟩ => h8 ?_⟩⟩
        rw [hab, i1] at i2
        have := Option.some.inj i2
        omega
