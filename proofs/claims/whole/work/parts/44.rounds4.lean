theorem zcp_fr {M : zMem} {n : Nat} : zfr [32] M (zcp M n) := fun c hc => by
  unfold zcp
  rw [if_neg (fun e => hc (by rw [e]; exact List.mem_singleton.mpr rfl))]
theorem zcp_at {M : zMem} {n i : Nat} (h : i < n) : zcp M n 32 i = M 31 i := by
  unfold zcp
  rw [if_pos rfl, if_pos h]
def rdC (M : zMem) (L R LA LB : Nat → Nat) (T P : Nat) : Prop := (∀ t, t < T → M 31 t = gR L R LA LB T P (frN L R LA LB T P) t) ∧ (∀ t u, t < T → u < T → M 33 (20 * t + u) = rnF L R LA LB T P (frN L R LA LB T P) t u) ∧ M 7 4 = frN L R LA LB T P
theorem rdC.fr {S : List Nat} {M M' : zMem} {L R LA LB : Nat → Nat} {T P : Nat} (h : rdC M L R LA LB T P) (hf : zfr S M M') (h7 : 7 ∉ S) (h31 : 31 ∉ S) (h33 : 33 ∉ S) : rdC M' L R LA LB T P := by
  unfold rdC
  rw [hf _ h7, hf _ h31, hf _ h33]
  exact h
theorem sp_Rounds_settle (M : zMem) (L R LA LB : Nat → Nat) (T P : Nat) (hT : tmC M L R T) (hq : uqT L R T) (hP : pgC M T P LA LB) (hk : M 7 5 = 0 ∨ M 7 5 = 1 ∧ rdC M L R LA LB T P) : zSp zd_Rounds_settle 3 [zr 7, zr 1, zr 2] M (fun _ M' => zfr [7, 31, 32, 33, 34] M M' ∧ M' 7 5 = 1 ∧ rdC M' L R LA LB T P) := by
  refine zSp_in 1 [some (zr 7), some (zr 1), some (zr 2), none] rfl rfl (by decide +kernel) rfl ?_
  refine z_withR (fun hR => ?_)
  have hT20 : T ≤ 20 := hT.2.2.1
  have hT3 : 3 ≤ T := hT.2.1
  obtain ⟨post, hpost⟩ : ∃ post : Int → zMem → Prop, post = (fun (_ : Int) M' => zfr [7, 31, 32, 33, 34] M M' ∧ M' 7 5 = 1 ∧ rdC M' L R LA LB T P) := ⟨_, rfl⟩
  rw [← hpost]
  have fre : ∀ k, (∀ s, s < k → fsh L R LA LB T P s) → k ≤ frN L R LA LB T P := by
    intro k h
    obtain ⟨⟨h1, _⟩, _⟩ := frN_ok (L := L) (R := R) (LA := LA) (LB := LB) (P := P) hT20 (by omega)
    rcases Nat.lt_or_ge (frN L R LA LB T P) k with q | q
    · exact absurd (h _ q) h1
    · exact q
  have frl := (frN_ok (L := L) (R := R) (LA := LA) (LB := LB) (P := P) hT20 (by omega)).2
  have loop : ∀ (c k : Nat) (M1 : zMem), k + c = frN L R LA LB T P → zfr [7, 31, 32, 33, 34] M M1 → (∀ s, s < k → fsh L R LA LB T P s) → (∀ t, t < T → M1 31 t = gR L R LA LB T P k t) → (∀ t u, t < T → u < T → M1 33 (20 * t + u) = rnF L R LA LB T P k t u) → M1 7 4 = k → zV zd_Rounds_settle 3 18 [some (zr 7), some (zr 1), some (zr 2), some (zi ((k + 1 : Nat) : Int))] [] M1 post := by
    intro c
    induction c with
    | zero => ?_
    | succ c ih => ?_
    all_goals
      intro k M1 hc hf hfs hg hr hl
      have hTA := hT.fr hf (by decide) (by decide) (by decide) (by decide)
      have hPA := hP.fr hf (by decide) (by decide) (by decide)
      have hmr := gR_mr (L := L) (R := R) (LA := LA) (LB := LB) (P := P) hT20 k
      have k52 : ∀ (E0 : Nat → Nat → Prop) (M2 : zMem), zfr [31, 32, 34] M1 M2 → (∀ t, t < T → M2 32 t = gR L R LA LB T P k t) → cg T (gR L R LA LB T P k) E0 M2 → (∀ g', clo T (gR L R LA LB T P k) (fun x y => E0 x y ∨ ptB L R (gR L R LA LB T P k) x y = true) g' → ∀ t, t < T → g' t = gR L R LA LB T P (k + 1) t) → zV zd_Rounds_settle 3 52 [some (zr 7), some (zr 1), some (zr 2), some (zi ((k + 1 : Nat) : Int))] [] M2 post := by
        intro E0 M2 hf2 ha hc2 hall
        have hT2 := hTA.fr hf2 (by decide) (by decide) (by decide) (by decide)
        refine z_withR (fun hR => ?_)
        refine zaload_4_0 dX4_settle_52 ?_
        refine zaload_4_1 dX4_settle_53 ?_
        refine zc_Rounds_51 rfl dX4_settle_54 (by decide) (Nat.le_of_ble_eq_true rfl) (sp_Rounds_joinByParts M2 L R (gR L R LA LB T P k) (gR L R LA LB T P k) E0 T hT2 hmr ha hc2) (fun r54 M54 hq54 => ?_)
        refine z_withR (fun hR => ?_)
        have hs : M54 1 3 = T := (hT2.fr hq54.1 (by decide) (by decide) (by decide) (by decide)).1
        have hg5 : ∀ x, x < T → M54 31 x = gR L R LA LB T P (k + 1) x ∧ gR L R LA LB T P (k + 1) x ≤ x := by
          intro x hx
          obtain ⟨g', h1, h2⟩ := hq54.2
          rw [h2 x hx, hall g' h1 x hx]
          exact ⟨rfl, gR_lt hT20 hx⟩
        have hr5 : ∀ t u, t < T → u < T → M54 33 (20 * t + u) = rnF L R LA LB T P k t u := by
          intro t u ht hu
          rw [hq54.1 33 (by decide), hf2 33 (by decide)]
          exact hr t u ht hu
        refine zaload_4_0 dX4_settle_57 ?_
        refine zaload_4_1 dX4_settle_58 ?_
        refine zg_Rounds_34 rfl dX4_settle_59 ?_
        refine z_top hs ?_
        refine ziload_4_3 dX4_settle_62 ?_
        refine zc_Rounds_55 rfl dX4_settle_63 (by decide) (Nat.le_of_ble_eq_true rfl) (sp_Rounds_noteRound M54 T (k + 1) (gR L R LA LB T P (k + 1)) (rnF L R LA LB T P k) hT20 (by omega) hg5 hr5) (fun r63 M63 hq63 => ?_)
        refine z_withR (fun hR => ?_)
        obtain ⟨hf63, hn63, hb63⟩ := hq63
        have hff : zfr [7, 31, 32, 33, 34] M M63 := (hf.tr (hf2.tr (hq54.1.tr hf63 (U := [31, 33]) (by decide) (by decide)) (U := [31, 32, 33, 34]) (by decide) (by decide)) (by decide) (by decide))
        have hfe : (∃ t u, t < T ∧ u < T ∧ gR L R LA LB T P (k + 1) t = gR L R LA LB T P (k + 1) u ∧ rnF L R LA LB T P k t u = -9) ↔ fsh L R LA LB T P k := by
          constructor
          · intro ⟨t, u, h1, h2, h3, h4⟩
            exact ⟨t, u, h1, h2, h3, (rnF_iff hT20 k t u h1 h2).1.mp h4⟩
          · intro ⟨t, u, h1, h2, h3, h4⟩
            exact ⟨t, u, h1, h2, h3, (rnF_iff hT20 k t u h1 h2).1.mpr h4⟩
        rw [hfe] at hb63
        have hg6 : ∀ t, t < T → M63 31 t = gR L R LA LB T P (k + 1) t := fun t ht => by rw [hf63 31 (by decide)]; exact (hg5 t ht).1
        have hr6 : ∀ t u, t < T → u < T → M63 33 (20 * t + u) = rnF L R LA LB T P (k + 1) t u := fun t u ht hu => by
          rw [hn63 t u ht hu, rnF]
          by_cases e1 : rnF L R LA LB T P k t u = -9 <;> by_cases e2 : gR L R LA LB T P (k + 1) t = gR L R LA LB T P (k + 1) u <;> simp [e1, e2]
        have hl6 : M63 7 4 = k := by rw [hf63 7 (by decide), hq54.1 7 (by decide), hf2 7 (by decide)]; exact hl
        refine z_if_ne (tgt := 72) (by rcases hb63 with ⟨h, _⟩ | ⟨h, _⟩ <;> rw [h] <;> decide) dX4_settle_66 (by decide) (fun h66 => ?_) (fun h66 => ?_)
        · have hfk : fsh L R LA LB T P k := by
            rcases hb63 with ⟨_, h⟩ | ⟨h, _⟩
            · exact h
            · omega
          have hfs2 : ∀ s, s < k + 1 → fsh L R LA LB T P s := fun s hs => by
            by_cases e : s = k
            · rw [e]; exact hfk
            · exact hfs s (by omega)
          have hle := fre (k + 1) hfs2
          refine zaload_4_0 dX4_settle_72 ?_
          refine ziload_4_3 dX4_settle_73 ?_
          refine zp_Rounds_26 rfl (by first | omega | exact hR.1 _ _ (by decide) | exact zrng_toInt _) dX4_settle_74 ?_
          refine z_withR (fun hR => ?_)
          refine ziinc_4_3 dX4_settle_77 ?_
          refine z_goto (tgt := 18) dX4_settle_80 (by decide) ?_
          first
            | (exfalso; omega)
            | exact ih (k + 1) _ (by omega) (hff.mu (by decide)) hfs2 (fun t ht => by rw [zmu_other _ _ _ _ (by decide)]; exact hg6 t ht) (fun t u ht hu => by rw [zmu_other _ _ _ _ (by decide)]; exact hr6 t u ht hu) (zmu_same _ _ _ _)
        · have hfk : ¬ fsh L R LA LB T P k := by
            rcases hb63 with ⟨h, _⟩ | ⟨_, h⟩
            · omega
            · exact h
          refine z_goto (tgt := 83) dX4_settle_69 (by decide) ?_
          refine zaload_4_0 dX4_settle_83 ?_
          refine z_iconst dX4_settle_84 ?_
          refine zp_Rounds_30 rfl (by first | omega | exact hR.1 _ _ (by decide) | exact zrng_toInt _) dX4_settle_85 ?_
          refine z_withR (fun hR => ?_)
          refine z_vret rfl ?_ dX4_settle_88
          rw [hpost]
          have ek : k = frN L R LA LB T P := frN_is hT20 (by omega) hfk hfs
          refine ⟨hff.mu (by decide), zmu_same _ _ _ _, fun t ht => ?_, fun t u ht hu => ?_, ?_⟩
          · rw [zmu_other _ _ _ _ (by decide), hg6 t ht, gR_stop hT20 hfk t ht, ← ek]
          · rw [zmu_other _ _ _ _ (by decide), hn63 t u ht hu, if_neg (fun h => hfk (hfe.mp ⟨t, u, ht, hu, h⟩)), ← ek]
          · rw [zmu_ne _ _ _ _ (by decide), hl6, ← ek]
      have hs : M1 1 3 = T := hTA.1
      have hTc := hTA.fr (zcp_fr (n := T)) (by decide) (by decide) (by decide) (by decide)
      have hPc := hPA.fr (zcp_fr (n := T)) (by decide) (by decide) (by decide)
      have hgc : ∀ t, t < T → zcp M1 T 31 t = gR L R LA LB T P k t := fun t ht => by rw [zcp_fr (M := M1) (n := T) 31 (by decide)]; exact hg t ht
      refine z_withR (fun hR => ?_)
      refine ziload_4_3 dX4_settle_18 ?_
      refine z_bipush dX4_settle_19 (by decide) ?_
      refine z_icmp_gt (tgt := 83) (by first | omega | exact hR.1 _ _ (by decide) | exact zrng_toInt _) (by first | omega | exact hR.1 _ _ (by decide) | exact zrng_toInt _) dX4_settle_21 (by decide) (fun h21 => ?_) (fun h21 => ?_)
      · omega
      · refine zaload_4_0 dX4_settle_24 ?_
        refine zg_Rounds_11 rfl dX4_settle_25 ?_
        refine z_iconst dX4_settle_28 ?_
        refine zaload_4_0 dX4_settle_29 ?_
        refine zg_Rounds_17 rfl dX4_settle_30 ?_
        refine z_iconst dX4_settle_33 ?_
        refine zaload_4_1 dX4_settle_34 ?_
        refine zg_Rounds_34 rfl dX4_settle_35 ?_
        refine z_top hs ?_
        refine z_copy (T) ⟨rfl, hT20⟩ rfl (by decide) (Nat.le_of_ble_eq_true rfl) dX4_settle_38 ?_
        refine z_withR (fun hR => ?_)
        refine ziload_4_3 dX4_settle_41 ?_
        refine z_iconst dX4_settle_42 ?_
        refine z_icmp_ne (tgt := 52) (by first | omega | exact hR.1 _ _ (by decide) | exact zrng_toInt _) (by first | omega | exact hR.1 _ _ (by decide) | exact zrng_toInt _) dX4_settle_43 (by decide) (fun h43 => ?_) (fun h43 => ?_)
        · have hk1 : 1 ≤ k := by omega
          first
            | exact k52 (fun _ _ => False) (zcp M1 T) (zcp_fr.up (by decide)) (fun t ht => by rw [zcp_at ht]; exact hg t ht) ⟨_, clo.rf hmr, hgc⟩ (fun g' h => gR_parts hT20 hk1 (h.iff (fun x y _ _ => ⟨fun h => h.resolve_left (fun h => h.elim), Or.inr⟩)))
            | exact k52 (fun x y => ∃ l, l < P ∧ mbP L R T (LA l) (LB l) x y) M49 (zcp_fr.tr hq49.1 (by decide) (by decide)) (fun t ht => by rw [hq49.1 32 (by decide), zcp_at ht]; exact hg t ht) hq49.2 (fun g' h => clo.one (h.iff (fun x y _ _ => by unfold eB; rw [Bool.or_eq_true, lwB_iff])) (gR_clo hT20 k))
        · have hk0 : k = 0 := by omega
          refine zaload_4_0 dX4_settle_46 ?_
          refine zaload_4_1 dX4_settle_47 ?_
          refine zaload_4_2 dX4_settle_48 ?_
          refine zc_Rounds_47 rfl dX4_settle_49 (by decide) (Nat.le_of_ble_eq_true rfl) (sp_Rounds_joinByLaws (zcp M1 T) L R LA LB (gR L R LA LB T P k) T P hTc hq hPc hmr hgc) (fun r49 M49 hq49 => ?_)
          refine z_withR (fun hR => ?_)
          first
            | exact k52 (fun _ _ => False) (zcp M1 T) (zcp_fr.up (by decide)) (fun t ht => by rw [zcp_at ht]; exact hg t ht) ⟨_, clo.rf hmr, hgc⟩ (fun g' h => gR_parts hT20 hk1 (h.iff (fun x y _ _ => ⟨fun h => h.resolve_left (fun h => h.elim), Or.inr⟩)))
            | exact k52 (fun x y => ∃ l, l < P ∧ mbP L R T (LA l) (LB l) x y) M49 (zcp_fr.tr hq49.1 (by decide) (by decide)) (fun t ht => by rw [hq49.1 32 (by decide), zcp_at ht]; exact hg t ht) hq49.2 (fun g' h => clo.one (h.iff (fun x y _ _ => by unfold eB; rw [Bool.or_eq_true, lwB_iff])) (gR_clo hT20 k))
  have hkr : M 7 5 = 0 ∨ M 7 5 = 1 := hk.imp id And.left
  have hs : M 1 3 = T := hT.1
  refine zaload_4_0 dX4_settle_0 ?_
  refine zg_Rounds_30 rfl dX4_settle_1 ?_
  refine z_if_eq (tgt := 8) (by rcases hkr with h | h <;> rw [h] <;> decide) dX4_settle_4 (by decide) (fun h4 => ?_) (fun h4 => ?_)
  · refine zaload_4_0 dX4_settle_8 ?_
    refine zaload_4_1 dX4_settle_9 ?_
    refine zg_Rounds_34 rfl dX4_settle_10 ?_
    refine z_top hs ?_
    refine zc_Rounds_37 rfl dX4_settle_13 (by decide) (Nat.le_of_ble_eq_true rfl) (sp_Rounds_begin M T hT20) (fun r13 M13 hq13 => ?_)
    refine z_withR (fun hR => ?_)
    obtain ⟨b1, b2, b3, b4, b5⟩ := hq13
    refine z_iconst dX4_settle_16 ?_
    refine zistore_4_3 dX4_settle_17 ?_
    exact loop (frN L R LA LB T P) 0 M13 (by omega) (b1.up (by decide)) (fun s h => absurd h (Nat.not_lt_zero _)) (fun t ht => by rw [b4 t ht]; rfl) (fun t u ht hu => by rw [b5 t u ht hu]; rfl) b2
  · refine z_vret rfl ?_ dX4_settle_7
    rw [hpost]
    have h1 := hk.resolve_left h4
    exact ⟨zfr.rf, h1⟩
