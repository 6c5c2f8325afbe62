def cg (T : Nat) (g0 : Nat → Nat) (E : Nat → Nat → Prop) (M : zMem) : Prop := ∃ g, clo T g0 E g ∧ ∀ x, x < T → M 31 x = g x
theorem cg.iff {T : Nat} {g0 : Nat → Nat} {E E' : Nat → Nat → Prop} {M : zMem} (h : cg T g0 E M) (he : ∀ x y, x < T → y < T → (E x y ↔ E' x y)) : cg T g0 E' M := by
  obtain ⟨g, h1, h2⟩ := h
  exact ⟨g, h1.iff he, h2⟩
theorem sp_Rounds_joinByLaws (M : zMem) (L R LA LB g0 : Nat → Nat) (T P : Nat) (hT : tmC M L R T) (hq : uqT L R T) (hP : pgC M T P LA LB) (hg : mr T g0) (hM : ∀ x, x < T → M 31 x = g0 x) : zSp zd_Rounds_joinByLaws 2 [zr 7, zr 1, zr 2] M (fun _ M' => zfr [31, 34] M M' ∧ cg T g0 (fun x y => ∃ l, l < P ∧ mbP L R T (LA l) (LB l) x y) M') := by
  refine zSp_in 3 [some (zr 7), some (zr 1), some (zr 2), none, none, none] rfl rfl (by decide +kernel) rfl ?_
  refine z_withR (fun hR => ?_)
  have hT20 : T ≤ 20 := hT.2.2.1
  have hP6 : P ≤ 6 := hP.2.1
  obtain ⟨post, hpost⟩ : ∃ post : Int → zMem → Prop, post = (fun (_ : Int) M' => zfr [31, 34] M M' ∧ cg T g0 (fun x y => ∃ l, l < P ∧ mbP L R T (LA l) (LB l) x y) M') := ⟨_, rfl⟩
  rw [← hpost]
  have loop : ∀ (c l : Nat) (M1 : zMem) (a b : Option zAV), l + c = P → zfr [31, 34] M M1 → cg T g0 (fun x y => ∃ l', l' < l ∧ mbP L R T (LA l') (LB l') x y) M1 → zV zd_Rounds_joinByLaws 2 2 [some (zr 7), some (zr 1), some (zr 2), some (zi l), a, b] [] M1 post := by
    intro c
    induction c with
    | zero =>
      intro l M1 a b hl hf hc
      have hp : M1 2 2 = P := (hP.fr hf (by decide) (by decide) (by decide)).1
      refine z_withR (fun hR => ?_)
      refine ziload_6_3 dX4_joinByLaws_2 ?_
      refine zaload_6_2 dX4_joinByLaws_3 ?_
      refine zg_Rounds_65 rfl dX4_joinByLaws_4 ?_
      refine z_top hp ?_
      refine z_icmp_ge (tgt := 105) (by first | omega | exact hR.1 _ _ (by decide) | exact zrng_toInt _) (by first | omega | exact hR.1 _ _ (by decide) | exact zrng_toInt _) dX4_joinByLaws_7 (by decide) (fun h7 => ?_) (fun h7 => ?_)
      · refine z_vret rfl ?_ dX4_joinByLaws_105
        rw [hpost]
        have e : l = P := by omega
        subst e
        exact ⟨hf, hc⟩
      · omega
    | succ c ih =>
      intro l M1 a b hl hf hc
      have mid : ∀ (k t : Nat) (M2 : zMem) (b : Option zAV), t + k = T → zfr [31, 34] M M2 → cg T g0 (fun x y => (∃ l', l' < l ∧ mbP L R T (LA l') (LB l') x y) ∨ (x < t ∧ mbP L R T (LA l) (LB l) x y)) M2 → zV zd_Rounds_joinByLaws 2 13 [some (zr 7), some (zr 1), some (zr 2), some (zi l), some (zi t), b] [] M2 post := by
        intro k
        induction k with
        | zero =>
          intro t M2 b ht hf2 hc2
          have hs : M2 1 3 = T := (hT.fr hf2 (by decide) (by decide) (by decide) (by decide)).1
          refine z_withR (fun hR => ?_)
          refine ziload_6_4 dX4_joinByLaws_13 ?_
          refine zaload_6_1 dX4_joinByLaws_15 ?_
          refine zg_Rounds_34 rfl dX4_joinByLaws_16 ?_
          refine z_top hs ?_
          refine z_icmp_ge (tgt := 99) (by first | omega | exact hR.1 _ _ (by decide) | exact zrng_toInt _) (by first | omega | exact hR.1 _ _ (by decide) | exact zrng_toInt _) dX4_joinByLaws_19 (by decide) (fun h19 => ?_) (fun h19 => ?_)
          · refine ziinc_6_3 dX4_joinByLaws_99 ?_
            refine z_goto (tgt := 2) dX4_joinByLaws_102 (by decide) ?_
            refine ih (l + 1) M2 _ _ (by omega) hf2 (hc2.iff (fun x y hx hy => ?_))
            constructor
            · intro h
              rcases h with ⟨l', h1, h2⟩ | ⟨_, h2⟩
              · exact ⟨l', by omega, h2⟩
              · exact ⟨l, by omega, h2⟩
            · intro ⟨l', h1, h2⟩
              by_cases e : l' = l
              · subst e; exact Or.inr ⟨by omega, h2⟩
              · exact Or.inl ⟨l', by omega, h2⟩
          · omega
        | succ k ik =>
          intro t M2 b ht hf2 hc2
          have inn : ∀ (j u : Nat) (M3 : zMem), u + j = T → zfr [31, 34] M M3 → cg T g0 (fun x y => ((∃ l', l' < l ∧ mbP L R T (LA l') (LB l') x y) ∨ (x < t ∧ mbP L R T (LA l) (LB l) x y)) ∨ (x = t ∧ y < u ∧ mbP L R T (LA l) (LB l) x y)) M3 → zV zd_Rounds_joinByLaws 2 25 [some (zr 7), some (zr 1), some (zr 2), some (zi l), some (zi t), some (zi u)] [] M3 post := by
            intro j
            induction j with
            | zero =>
              intro u M3 hu hf3 hc3
              have hs : M3 1 3 = T := (hT.fr hf3 (by decide) (by decide) (by decide) (by decide)).1
              refine z_withR (fun hR => ?_)
              refine ziload_6_5 dX4_joinByLaws_25 ?_
              refine zaload_6_1 dX4_joinByLaws_27 ?_
              refine zg_Rounds_34 rfl dX4_joinByLaws_28 ?_
              refine z_top hs ?_
              refine z_icmp_ge (tgt := 93) (by first | omega | exact hR.1 _ _ (by decide) | exact zrng_toInt _) (by first | omega | exact hR.1 _ _ (by decide) | exact zrng_toInt _) dX4_joinByLaws_31 (by decide) (fun h31 => ?_) (fun h31 => ?_)
              · refine ziinc_6_4 dX4_joinByLaws_93 ?_
                refine z_goto (tgt := 13) dX4_joinByLaws_96 (by decide) ?_
                refine ik (t + 1) M3 _ (by omega) hf3 (hc3.iff (fun x y hx hy => ?_))
                constructor
                · intro h
                  rcases h with (h | ⟨h1, h2⟩) | ⟨h1, _, h2⟩
                  · exact Or.inl h
                  · exact Or.inr ⟨by omega, h2⟩
                  · exact Or.inr ⟨by omega, h2⟩
                · intro h
                  rcases h with h | ⟨h1, h2⟩
                  · exact Or.inl (Or.inl h)
                  · by_cases e : x = t
                    · exact Or.inr ⟨e, by omega, h2⟩
                    · exact Or.inl (Or.inr ⟨by omega, h2⟩)
              · omega
            | succ j ij =>
              intro u M3 hu hf3 hc3
              have hT3 := hT.fr hf3 (by decide) (by decide) (by decide) (by decide)
              have hP3 := hP.fr hf3 (by decide) (by decide) (by decide)
              have hs : M3 1 3 = T := hT3.1
              obtain ⟨g, hg3, hgM⟩ := id hc3
              have hgt := hgM t (by omega)
              have hgu := hgM u (by omega)
              have gt := (hg3.1 t (by omega)).1
              have gu := (hg3.1 u (by omega)).1
              obtain ⟨⟨pA, pB⟩, pA2, pB2⟩ := hP3.2.2 l (by omega)
              have next : ∀ M4, zfr [31, 34] M M4 → (cg T g0 (fun x y => (((∃ l', l' < l ∧ mbP L R T (LA l') (LB l') x y) ∨ (x < t ∧ mbP L R T (LA l) (LB l) x y)) ∨ (x = t ∧ y < u ∧ mbP L R T (LA l) (LB l) x y)) ∨ (x = t ∧ y = u)) M4 ∧ mbP L R T (LA l) (LB l) t u ∨ (cg T g0 (fun x y => (((∃ l', l' < l ∧ mbP L R T (LA l') (LB l') x y) ∨ (x < t ∧ mbP L R T (LA l) (LB l) x y)) ∨ (x = t ∧ y < u ∧ mbP L R T (LA l) (LB l) x y))) M4 ∧ (mbP L R T (LA l) (LB l) t u → cg T g0 (fun x y => (((∃ l', l' < l ∧ mbP L R T (LA l') (LB l') x y) ∨ (x < t ∧ mbP L R T (LA l) (LB l) x y)) ∨ (x = t ∧ y < u ∧ mbP L R T (LA l) (LB l) x y)) ∨ (x = t ∧ y = u)) M4))) → zV zd_Rounds_joinByLaws 2 87 [some (zr 7), some (zr 1), some (zr 2), some (zi l), some (zi t), some (zi u)] [] M4 post := by
                intro M4 hf4 hc4
                have hc5 : cg T g0 (fun x y => ((∃ l', l' < l ∧ mbP L R T (LA l') (LB l') x y) ∨ (x < t ∧ mbP L R T (LA l) (LB l) x y)) ∨ (x = t ∧ y < u + 1 ∧ mbP L R T (LA l) (LB l) x y)) M4 := by
                  have yes : mbP L R T (LA l) (LB l) t u → cg T g0 (fun x y => (((∃ l', l' < l ∧ mbP L R T (LA l') (LB l') x y) ∨ (x < t ∧ mbP L R T (LA l) (LB l) x y)) ∨ (x = t ∧ y < u ∧ mbP L R T (LA l) (LB l) x y)) ∨ (x = t ∧ y = u)) M4 → cg T g0 (fun x y => ((∃ l', l' < l ∧ mbP L R T (LA l') (LB l') x y) ∨ (x < t ∧ mbP L R T (LA l) (LB l) x y)) ∨ (x = t ∧ y < u + 1 ∧ mbP L R T (LA l) (LB l) x y)) M4 := by
                    intro hm h
                    refine h.iff (fun x y hx hy => ?_)
                    constructor
                    · intro h
                      rcases h with (h | ⟨h1, h2, h3⟩) | ⟨rfl, rfl⟩
                      · exact Or.inl h
                      · exact Or.inr ⟨h1, by omega, h3⟩
                      · exact Or.inr ⟨rfl, by omega, hm⟩
                    · intro h
                      rcases h with h | ⟨h1, h2, h3⟩
                      · exact Or.inl (Or.inl h)
                      · by_cases e : y = u
                        · exact Or.inr ⟨h1, e⟩
                        · exact Or.inl (Or.inr ⟨h1, by omega, h3⟩)
                  rcases hc4 with ⟨h1, h2⟩ | ⟨h1, h2⟩
                  · exact yes h2 h1
                  · by_cases hm : mbP L R T (LA l) (LB l) t u
                    · exact yes hm (h2 hm)
                    · refine h1.iff (fun x y hx hy => ?_)
                      constructor
                      · intro h
                        rcases h with h | ⟨h1, h2, h3⟩
                        · exact Or.inl h
                        · exact Or.inr ⟨h1, by omega, h3⟩
                      · intro h
                        rcases h with h | ⟨h1, h2, h3⟩
                        · exact Or.inl h
                        · by_cases e : y = u
                          · rw [h1, e] at h3; exact absurd h3 hm
                          · exact Or.inr ⟨h1, by omega, h3⟩
                refine z_withR (fun hR => ?_)
                refine ziinc_6_5 dX4_joinByLaws_87 ?_
                refine z_goto (tgt := 25) dX4_joinByLaws_90 (by decide) ?_
                exact ij (u + 1) M4 (by omega) hf4 hc5
              refine z_withR (fun hR => ?_)
              refine ziload_6_5 dX4_joinByLaws_25 ?_
              refine zaload_6_1 dX4_joinByLaws_27 ?_
              refine zg_Rounds_34 rfl dX4_joinByLaws_28 ?_
              refine z_top hs ?_
              refine z_icmp_ge (tgt := 93) (by first | omega | exact hR.1 _ _ (by decide) | exact zrng_toInt _) (by first | omega | exact hR.1 _ _ (by decide) | exact zrng_toInt _) dX4_joinByLaws_31 (by decide) (fun h31 => ?_) (fun h31 => ?_)
              · omega
              · refine zaload_6_0 dX4_joinByLaws_34 ?_
                refine zg_Rounds_11 rfl dX4_joinByLaws_35 ?_
                refine ziload_6_4 dX4_joinByLaws_38 ?_
                refine z_iald _ rfl (by decide) (by decide) rfl (by omega) dX4_joinByLaws_40 ?_
                refine z_top hgt ?_
                refine zaload_6_0 dX4_joinByLaws_41 ?_
                refine zg_Rounds_11 rfl dX4_joinByLaws_42 ?_
                refine ziload_6_5 dX4_joinByLaws_45 ?_
                refine z_iald _ rfl (by decide) (by decide) rfl (by omega) dX4_joinByLaws_47 ?_
                refine z_top hgu ?_
                refine z_icmp_eq (tgt := 87) (by first | omega | exact hR.1 _ _ (by decide) | exact zrng_toInt _) (by first | omega | exact hR.1 _ _ (by decide) | exact zrng_toInt _) dX4_joinByLaws_48 (by decide) (fun h48 => ?_) (fun h48 => ?_)
                · first
                    | exact next M3 hf3 (Or.inr ⟨hc3, fun _ => ⟨g, hg3.has (by omega), hgM⟩⟩)
                    | (have hno : ¬ mbP L R T (LA l) (LB l) t u := by
                          rcases hq69.2 with ⟨h8, _⟩ | ⟨_, h8⟩
                          · omega
                          · exact h8
                       exact next M69 (hf3.tr hq69.1 (by decide) (by decide)) (Or.inr ⟨⟨g, hg3, fun x hx => by rw [hq69.1 31 (by decide)]; exact hgM x hx⟩, fun h => absurd h hno⟩))
                    | (have hyes : mbP L R T (LA l) (LB l) t u := by
                          rcases hq69.2 with ⟨_, h8⟩ | ⟨h8, _⟩
                          · exact h8
                          · omega
                       exact next M84 ((hf3.tr hq69.1 (by decide) (by decide) : zfr [31, 34] M M69).tr hq84.1 (by decide) (by decide)) (Or.inl ⟨⟨_, hg3.jn (by omega) (by omega), hq84.2⟩, hyes⟩))
                · refine zaload_6_0 dX4_joinByLaws_51 ?_
                  refine zaload_6_1 dX4_joinByLaws_52 ?_
                  refine zaload_6_2 dX4_joinByLaws_53 ?_
                  refine zg_Rounds_68 rfl dX4_joinByLaws_54 ?_
                  refine ziload_6_3 dX4_joinByLaws_57 ?_
                  refine z_iald _ rfl (by decide) (by decide) rfl (by omega) dX4_joinByLaws_58 ?_
                  refine z_top pA ?_
                  refine zaload_6_2 dX4_joinByLaws_59 ?_
                  refine zg_Rounds_71 rfl dX4_joinByLaws_60 ?_
                  refine ziload_6_3 dX4_joinByLaws_63 ?_
                  refine z_iald _ rfl (by decide) (by decide) rfl (by omega) dX4_joinByLaws_64 ?_
                  refine z_top pB ?_
                  refine ziload_6_4 dX4_joinByLaws_65 ?_
                  refine ziload_6_5 dX4_joinByLaws_67 ?_
                  refine zc_Rounds_74 rfl dX4_joinByLaws_69 (by decide) (Nat.le_of_ble_eq_true rfl) (sp_Rounds_isMadeByLaw M3 L R T (LA l) (LB l) t u hT3 hq pA2 pB2 (by omega) (by omega)) (fun r69 M69 hq69 => ?_)
                  refine z_withR (fun hR => ?_)
                  have hs : M69 1 3 = T := by rw [hq69.1 1 (by decide)]; exact hs
                  refine z_if_eq (tgt := 87) (by rcases hq69.2 with ⟨h8, _⟩ | ⟨h8, _⟩ <;> rw [h8] <;> decide) dX4_joinByLaws_72 (by decide) (fun h72 => ?_) (fun h72 => ?_)
                  · first
                      | exact next M3 hf3 (Or.inr ⟨hc3, fun _ => ⟨g, hg3.has (by omega), hgM⟩⟩)
                      | (have hno : ¬ mbP L R T (LA l) (LB l) t u := by
                            rcases hq69.2 with ⟨h8, _⟩ | ⟨_, h8⟩
                            · omega
                            · exact h8
                         exact next M69 (hf3.tr hq69.1 (by decide) (by decide)) (Or.inr ⟨⟨g, hg3, fun x hx => by rw [hq69.1 31 (by decide)]; exact hgM x hx⟩, fun h => absurd h hno⟩))
                      | (have hyes : mbP L R T (LA l) (LB l) t u := by
                            rcases hq69.2 with ⟨_, h8⟩ | ⟨h8, _⟩
                            · exact h8
                            · omega
                         exact next M84 ((hf3.tr hq69.1 (by decide) (by decide) : zfr [31, 34] M M69).tr hq84.1 (by decide) (by decide)) (Or.inl ⟨⟨_, hg3.jn (by omega) (by omega), hq84.2⟩, hyes⟩))
                  · refine zaload_6_0 dX4_joinByLaws_75 ?_
                    refine zaload_6_1 dX4_joinByLaws_76 ?_
                    refine zg_Rounds_34 rfl dX4_joinByLaws_77 ?_
                    refine z_top hs ?_
                    refine ziload_6_4 dX4_joinByLaws_80 ?_
                    refine ziload_6_5 dX4_joinByLaws_82 ?_
                    refine zc_Rounds_78 rfl dX4_joinByLaws_84 (by decide) (Nat.le_of_ble_eq_true rfl) (sp_Rounds_join M69 T t u g hT20 (by omega) (by omega) hg3.1 (fun x hx => by rw [hq69.1 31 (by decide)]; exact hgM x hx)) (fun r84 M84 hq84 => ?_)
                    refine z_withR (fun hR => ?_)
                    first
                      | exact next M3 hf3 (Or.inr ⟨hc3, fun _ => ⟨g, hg3.has (by omega), hgM⟩⟩)
                      | (have hno : ¬ mbP L R T (LA l) (LB l) t u := by
                            rcases hq69.2 with ⟨h8, _⟩ | ⟨_, h8⟩
                            · omega
                            · exact h8
                         exact next M69 (hf3.tr hq69.1 (by decide) (by decide)) (Or.inr ⟨⟨g, hg3, fun x hx => by rw [hq69.1 31 (by decide)]; exact hgM x hx⟩, fun h => absurd h hno⟩))
                      | (have hyes : mbP L R T (LA l) (LB l) t u := by
                            rcases hq69.2 with ⟨_, h8⟩ | ⟨h8, _⟩
                            · exact h8
                            · omega
                         exact next M84 ((hf3.tr hq69.1 (by decide) (by decide) : zfr [31, 34] M M69).tr hq84.1 (by decide) (by decide)) (Or.inl ⟨⟨_, hg3.jn (by omega) (by omega), hq84.2⟩, hyes⟩))
          refine z_withR (fun hR => ?_)
          have hs : M2 1 3 = T := (hT.fr hf2 (by decide) (by decide) (by decide) (by decide)).1
          refine ziload_6_4 dX4_joinByLaws_13 ?_
          refine zaload_6_1 dX4_joinByLaws_15 ?_
          refine zg_Rounds_34 rfl dX4_joinByLaws_16 ?_
          refine z_top hs ?_
          refine z_icmp_ge (tgt := 99) (by first | omega | exact hR.1 _ _ (by decide) | exact zrng_toInt _) (by first | omega | exact hR.1 _ _ (by decide) | exact zrng_toInt _) dX4_joinByLaws_19 (by decide) (fun h19 => ?_) (fun h19 => ?_)
          · omega
          · refine z_iconst dX4_joinByLaws_22 ?_
            refine zistore_6_5 dX4_joinByLaws_23 ?_
            exact inn T 0 M2 (by omega) hf2 (hc2.iff (fun x y _ _ => ⟨Or.inl, fun h => h.resolve_right (fun h => absurd h.2.1 (Nat.not_lt_zero _))⟩))
      have hp : M1 2 2 = P := (hP.fr hf (by decide) (by decide) (by decide)).1
      refine z_withR (fun hR => ?_)
      refine ziload_6_3 dX4_joinByLaws_2 ?_
      refine zaload_6_2 dX4_joinByLaws_3 ?_
      refine zg_Rounds_65 rfl dX4_joinByLaws_4 ?_
      refine z_top hp ?_
      refine z_icmp_ge (tgt := 105) (by first | omega | exact hR.1 _ _ (by decide) | exact zrng_toInt _) (by first | omega | exact hR.1 _ _ (by decide) | exact zrng_toInt _) dX4_joinByLaws_7 (by decide) (fun h7 => ?_) (fun h7 => ?_)
      · omega
      · refine z_iconst dX4_joinByLaws_10 ?_
        refine zistore_6_4 dX4_joinByLaws_11 ?_
        exact mid T 0 M1 _ (by omega) hf (hc.iff (fun x y _ _ => ⟨Or.inl, fun h => h.resolve_right (fun h => absurd h.1 (Nat.not_lt_zero _))⟩))
  refine z_iconst dX4_joinByLaws_0 ?_
  refine zistore_6_3 dX4_joinByLaws_1 ?_
  exact loop P 0 M _ _ (by omega) zfr.rf ⟨g0, (clo.rf hg).iff (fun x y _ _ => ⟨fun h => h.elim, fun ⟨l, h, _⟩ => absurd h (Nat.not_lt_zero _)⟩), hM⟩
theorem sp_Rounds_joinByParts (M : zMem) (L R g0 h0 : Nat → Nat) (E0 : Nat → Nat → Prop) (T : Nat) (hT : tmC M L R T) (hh0 : mr T h0) (hM0 : ∀ x, x < T → M 32 x = h0 x) (hM : cg T g0 E0 M) : zSp zd_Rounds_joinByParts 2 [zr 7, zr 1] M (fun _ M' => zfr [31] M M' ∧ cg T g0 (fun x y => E0 x y ∨ ptB L R h0 x y = true) M') := by
  refine zSp_in 2 [some (zr 7), some (zr 1), none, none] rfl rfl (by decide +kernel) rfl ?_
  refine z_withR (fun hR => ?_)
  obtain ⟨hT1, hT3, hT20, hw, hLR, hnd⟩ := id hT
  obtain ⟨post, hpost⟩ : ∃ post : Int → zMem → Prop, post = (fun (_ : Int) M' => zfr [31] M M' ∧ cg T g0 (fun x y => E0 x y ∨ ptB L R h0 x y = true) M') := ⟨_, rfl⟩
  rw [← hpost]
  have loop : ∀ (c t : Nat) (M1 : zMem) (b : Option zAV), t + c = T → 3 ≤ t → zfr [31] M M1 → cg T g0 (fun x y => E0 x y ∨ (x < t ∧ x < y ∧ ptB L R h0 x y = true)) M1 → zV zd_Rounds_joinByParts 2 2 [some (zr 7), some (zr 1), some (zi t), b] [] M1 post := by
    intro c
    induction c with
    | zero =>
      intro t M1 b ht h3 hf hc
      have hs : M1 1 3 = T := (hT.fr hf (by decide) (by decide) (by decide) (by decide)).1
      refine z_withR (fun hR => ?_)
      refine ziload_4_2 dX4_joinByParts_2 ?_
      refine zaload_4_1 dX4_joinByParts_3 ?_
      refine zg_Rounds_34 rfl dX4_joinByParts_4 ?_
      refine z_top hs ?_
      refine z_icmp_ge (tgt := 94) (by first | omega | exact hR.1 _ _ (by decide) | exact zrng_toInt _) (by first | omega | exact hR.1 _ _ (by decide) | exact zrng_toInt _) dX4_joinByParts_7 (by decide) (fun h7 => ?_) (fun h7 => ?_)
      · refine z_vret rfl ?_ dX4_joinByParts_94
        rw [hpost]
        refine ⟨hf, ?_⟩
        obtain ⟨g, h1, h2⟩ := hc
        refine ⟨g, h1.to (fun f _ => ?_), h2⟩
        constructor
        · intro k x y hx hy e
          rcases e with e | e
          · exact k x y hx hy (Or.inl e)
          · obtain ⟨⟨a1, a2⟩, a3, a4⟩ := ptB_iff.mp e
            rcases Nat.lt_trichotomy x y with q | q | q
            · exact k x y hx hy (Or.inr ⟨by omega, q, e⟩)
            · rw [q]
            · exact (k y x hy hx (Or.inr ⟨by omega, q, ptB_iff.mpr ⟨⟨a2, a1⟩, a3.symm, a4.symm⟩⟩)).symm
        · intro k x y hx hy e
          rcases e with e | ⟨_, _, e⟩
          · exact k x y hx hy (Or.inl e)
          · exact k x y hx hy (Or.inr e)
      · omega
    | succ c ih =>
      intro t M1 b ht h3 hf hc
      have inn : ∀ (j u : Nat) (M3 : zMem), u + j = T → t < u → zfr [31] M M3 → cg T g0 (fun x y => (E0 x y ∨ (x < t ∧ x < y ∧ ptB L R h0 x y = true)) ∨ (x = t ∧ (x < y ∧ y < u) ∧ ptB L R h0 x y = true)) M3 → zV zd_Rounds_joinByParts 2 14 [some (zr 7), some (zr 1), some (zi t), some (zi u)] [] M3 post := by
        intro j
        induction j with
        | zero =>
          intro u M3 hu htu hf3 hc3
          have hs : M3 1 3 = T := (hT.fr hf3 (by decide) (by decide) (by decide) (by decide)).1
          refine z_withR (fun hR => ?_)
          refine ziload_4_3 dX4_joinByParts_14 ?_
          refine zaload_4_1 dX4_joinByParts_15 ?_
          refine zg_Rounds_34 rfl dX4_joinByParts_16 ?_
          refine z_top hs ?_
          refine z_icmp_ge (tgt := 88) (by first | omega | exact hR.1 _ _ (by decide) | exact zrng_toInt _) (by first | omega | exact hR.1 _ _ (by decide) | exact zrng_toInt _) dX4_joinByParts_19 (by decide) (fun h19 => ?_) (fun h19 => ?_)
          · refine ziinc_4_2 dX4_joinByParts_88 ?_
            refine z_goto (tgt := 2) dX4_joinByParts_91 (by decide) ?_
            refine ih (t + 1) M3 _ (by omega) (by omega) hf3 (hc3.iff (fun x y hx hy => ?_))
            constructor
            · intro h
              rcases h with (h | ⟨h1, h2⟩) | ⟨h1, h2, h3⟩
              · exact Or.inl h
              · exact Or.inr ⟨by omega, h2⟩
              · exact Or.inr ⟨by omega, h2.1, h3⟩
            · intro h
              rcases h with h | ⟨h1, h2, h3⟩
              · exact Or.inl (Or.inl h)
              · by_cases e : x = t
                · exact Or.inr ⟨e, ⟨h2, by omega⟩, h3⟩
                · exact Or.inl (Or.inr ⟨by omega, h2, h3⟩)
          · omega
        | succ j ij =>
          intro u M3 hu htu hf3 hc3
          have hT3' := hT.fr hf3 (by decide) (by decide) (by decide) (by decide)
          have hs : M3 1 3 = T := hT3'.1
          obtain ⟨g, hg3, hgM⟩ := id hc3
          obtain ⟨tl, tr⟩ := hT3'.2.2.2.2.1 t h3 (by omega)
          obtain ⟨ul, ur⟩ := hT3'.2.2.2.2.1 u (by omega) (by omega)
          obtain ⟨wtl, wtr⟩ := hw t h3 (by omega)
          obtain ⟨wul, wur⟩ := hw u (by omega) (by omega)
          have ha : ∀ x, x < T → M3 32 x = h0 x := fun x hx => by rw [hf3 32 (by decide)]; exact hM0 x hx
          have a1 := ha (L t) (by omega)
          have a2 := ha (L u) (by omega)
          have a3 := ha (R t) (by omega)
          have a4 := ha (R u) (by omega)
          have b1 := (hh0 (L t) (by omega)).1
          have b2 := (hh0 (L u) (by omega)).1
          have b3 := (hh0 (R t) (by omega)).1
          have b4 := (hh0 (R u) (by omega)).1
          have yes : ∀ M4, ptB L R h0 t u = true → zfr [31] M M4 → (∀ x, x < T → M4 31 x = jn g t u x) → zV zd_Rounds_joinByParts 2 82 [some (zr 7), some (zr 1), some (zi t), some (zi u)] [] M4 post := by
            intro M4 hyes hf4 hj4
            have hc4 : cg T g0 _ M4 := ⟨_, hg3.jn (by omega) (by omega), hj4⟩
            refine z_withR (fun hR => ?_)
            refine ziinc_4_3 dX4_joinByParts_82 ?_
            refine z_goto (tgt := 14) dX4_joinByParts_85 (by decide) ?_
            refine ij (u + 1) M4 (by omega) (by omega) hf4 (hc4.iff (fun x y hx hy => ?_))
            constructor
            · intro h
              rcases h with (h | ⟨h1, h2, h3⟩) | ⟨rfl, rfl⟩
              · exact Or.inl h
              · exact Or.inr ⟨h1, ⟨h2.1, by omega⟩, h3⟩
              · exact Or.inr ⟨rfl, ⟨by omega, by omega⟩, hyes⟩
            · intro h
              rcases h with h | ⟨h1, h2, h3⟩
              · exact Or.inl (Or.inl h)
              · by_cases e : y = u
                · exact Or.inr ⟨h1, e⟩
                · exact Or.inl (Or.inr ⟨h1, ⟨h2.1, by omega⟩, h3⟩)
          have no : ¬ ptB L R h0 t u = true → zV zd_Rounds_joinByParts 2 82 [some (zr 7), some (zr 1), some (zi t), some (zi u)] [] M3 post := by
            intro hno
            refine z_withR (fun hR => ?_)
            refine ziinc_4_3 dX4_joinByParts_82 ?_
            refine z_goto (tgt := 14) dX4_joinByParts_85 (by decide) ?_
            refine ij (u + 1) M3 (by omega) (by omega) hf3 (hc3.iff (fun x y hx hy => ?_))
            constructor
            · intro h
              rcases h with h | ⟨h1, h2, h3⟩
              · exact Or.inl h
              · exact Or.inr ⟨h1, ⟨h2.1, by omega⟩, h3⟩
            · intro h
              rcases h with h | ⟨h1, h2, h3⟩
              · exact Or.inl h
              · by_cases e : y = u
                · rw [h1, e] at h3; exact absurd h3 hno
                · exact Or.inr ⟨h1, ⟨h2.1, by omega⟩, h3⟩
          refine z_withR (fun hR => ?_)
          refine ziload_4_3 dX4_joinByParts_14 ?_
          refine zaload_4_1 dX4_joinByParts_15 ?_
          refine zg_Rounds_34 rfl dX4_joinByParts_16 ?_
          refine z_top hs ?_
          refine z_icmp_ge (tgt := 88) (by first | omega | exact hR.1 _ _ (by decide) | exact zrng_toInt _) (by first | omega | exact hR.1 _ _ (by decide) | exact zrng_toInt _) dX4_joinByParts_19 (by decide) (fun h19 => ?_) (fun h19 => ?_)
          · omega
          · refine zaload_4_0 dX4_joinByParts_22 ?_
            refine zg_Rounds_17 rfl dX4_joinByParts_23 ?_
            refine zaload_4_1 dX4_joinByParts_26 ?_
            refine zg_Rounds_91 rfl dX4_joinByParts_27 ?_
            refine ziload_4_2 dX4_joinByParts_30 ?_
            refine z_iald _ rfl (by decide) (by decide) rfl (by omega) dX4_joinByParts_31 ?_
            refine z_top tl ?_
            refine z_iald _ rfl (by decide) (by decide) rfl (by omega) dX4_joinByParts_32 ?_
            refine z_top a1 ?_
            refine zaload_4_0 dX4_joinByParts_33 ?_
            refine zg_Rounds_17 rfl dX4_joinByParts_34 ?_
            refine zaload_4_1 dX4_joinByParts_37 ?_
            refine zg_Rounds_91 rfl dX4_joinByParts_38 ?_
            refine ziload_4_3 dX4_joinByParts_41 ?_
            refine z_iald _ rfl (by decide) (by decide) rfl (by omega) dX4_joinByParts_42 ?_
            refine z_top ul ?_
            refine z_iald _ rfl (by decide) (by decide) rfl (by omega) dX4_joinByParts_43 ?_
            refine z_top a2 ?_
            refine z_icmp_ne (tgt := 82) (by first | omega | exact hR.1 _ _ (by decide) | exact zrng_toInt _) (by first | omega | exact hR.1 _ _ (by decide) | exact zrng_toInt _) dX4_joinByParts_44 (by decide) (fun h44 => ?_) (fun h44 => ?_)
            · first
                | exact no (fun h => by have h2 := ptB_iff.mp h; omega)
                | exact yes M79 (ptB_iff.mpr ⟨⟨h3, by omega⟩, by omega, by omega⟩) (hf3.tr hq79.1 (by decide) (by decide)) hq79.2
            · refine zaload_4_0 dX4_joinByParts_47 ?_
              refine zg_Rounds_17 rfl dX4_joinByParts_48 ?_
              refine zaload_4_1 dX4_joinByParts_51 ?_
              refine zg_Rounds_92 rfl dX4_joinByParts_52 ?_
              refine ziload_4_2 dX4_joinByParts_55 ?_
              refine z_iald _ rfl (by decide) (by decide) rfl (by omega) dX4_joinByParts_56 ?_
              refine z_top tr ?_
              refine z_iald _ rfl (by decide) (by decide) rfl (by omega) dX4_joinByParts_57 ?_
              refine z_top a3 ?_
              refine zaload_4_0 dX4_joinByParts_58 ?_
              refine zg_Rounds_17 rfl dX4_joinByParts_59 ?_
              refine zaload_4_1 dX4_joinByParts_62 ?_
              refine zg_Rounds_92 rfl dX4_joinByParts_63 ?_
              refine ziload_4_3 dX4_joinByParts_66 ?_
              refine z_iald _ rfl (by decide) (by decide) rfl (by omega) dX4_joinByParts_67 ?_
              refine z_top ur ?_
              refine z_iald _ rfl (by decide) (by decide) rfl (by omega) dX4_joinByParts_68 ?_
              refine z_top a4 ?_
              refine z_icmp_ne (tgt := 82) (by first | omega | exact hR.1 _ _ (by decide) | exact zrng_toInt _) (by first | omega | exact hR.1 _ _ (by decide) | exact zrng_toInt _) dX4_joinByParts_69 (by decide) (fun h69 => ?_) (fun h69 => ?_)
              · first
                  | exact no (fun h => by have h2 := ptB_iff.mp h; omega)
                  | exact yes M79 (ptB_iff.mpr ⟨⟨h3, by omega⟩, by omega, by omega⟩) (hf3.tr hq79.1 (by decide) (by decide)) hq79.2
              · refine zaload_4_0 dX4_joinByParts_72 ?_
                refine zaload_4_1 dX4_joinByParts_73 ?_
                refine zg_Rounds_34 rfl dX4_joinByParts_74 ?_
                refine z_top hs ?_
                refine ziload_4_2 dX4_joinByParts_77 ?_
                refine ziload_4_3 dX4_joinByParts_78 ?_
                refine zc_Rounds_78 rfl dX4_joinByParts_79 (by decide) (Nat.le_of_ble_eq_true rfl) (sp_Rounds_join M3 T t u g hT20 (by omega) (by omega) hg3.1 hgM) (fun r79 M79 hq79 => ?_)
                refine z_withR (fun hR => ?_)
                first
                  | exact no (fun h => by have h2 := ptB_iff.mp h; omega)
                  | exact yes M79 (ptB_iff.mpr ⟨⟨h3, by omega⟩, by omega, by omega⟩) (hf3.tr hq79.1 (by decide) (by decide)) hq79.2
      refine z_withR (fun hR => ?_)
      have hs : M1 1 3 = T := (hT.fr hf (by decide) (by decide) (by decide) (by decide)).1
      refine ziload_4_2 dX4_joinByParts_2 ?_
      refine zaload_4_1 dX4_joinByParts_3 ?_
      refine zg_Rounds_34 rfl dX4_joinByParts_4 ?_
      refine z_top hs ?_
      refine z_icmp_ge (tgt := 94) (by first | omega | exact hR.1 _ _ (by decide) | exact zrng_toInt _) (by first | omega | exact hR.1 _ _ (by decide) | exact zrng_toInt _) dX4_joinByParts_7 (by decide) (fun h7 => ?_) (fun h7 => ?_)
      · omega
      · refine ziload_4_2 dX4_joinByParts_10 ?_
        refine z_iconst dX4_joinByParts_11 ?_
        refine z_iadd dX4_joinByParts_12 ?_
        refine zistore_4_3 dX4_joinByParts_13 ?_
        exact inn (T - (t + 1)) (t + 1) M1 (by omega) (by omega) hf (hc.iff (fun x y _ _ => ⟨Or.inl, fun h => h.resolve_right (fun h => by omega)⟩))
  have h3 := loop (T - 3) 3 M none (by omega) (by omega) zfr.rf (hM.iff (fun x y _ _ => ⟨Or.inl, fun h => h.resolve_right (fun h => by have h2 := (ptB_iff.mp h.2.2).1.1; omega)⟩))
  refine z_iconst dX4_joinByParts_0 ?_
  refine zistore_4_2 dX4_joinByParts_1 ?_
  exact h3
theorem sp_Rounds_noteRound (M : zMem) (T r : Nat) (g : Nat → Nat) (old : Nat → Nat → Int) (hT : T ≤ 20) (hr : r ≤ 20) (hg : ∀ x, x < T → M 31 x = g x ∧ g x ≤ x) (ho : ∀ t u, t < T → u < T → M 33 (20 * t + u) = old t u) : zSp zd_Rounds_noteRound 0 [zr 7, zi T, zi r] M (fun q M' => zfr [33] M M' ∧ (∀ t u, t < T → u < T → M' 33 (20 * t + u) = if g t = g u ∧ old t u = -9 then (r : Int) else old t u) ∧ ((q = 1 ∧ ∃ t u, t < T ∧ u < T ∧ g t = g u ∧ old t u = -9) ∨ (q = 0 ∧ ¬ ∃ t u, t < T ∧ u < T ∧ g t = g u ∧ old t u = -9))) := by
  refine zSp_in 4 [some (zr 7), some (zi T), some (zi r), none, none, none, none] rfl rfl (by decide +kernel) rfl ?_
  refine z_withR (fun hR => ?_)
  obtain ⟨post, hpost⟩ : ∃ post : Int → zMem → Prop, post = (fun (q : Int) M' => zfr [33] M M' ∧ (∀ t u, t < T → u < T → M' 33 (20 * t + u) = if g t = g u ∧ old t u = -9 then (r : Int) else old t u) ∧ ((q = 1 ∧ ∃ t u, t < T ∧ u < T ∧ g t = g u ∧ old t u = -9) ∨ (q = 0 ∧ ¬ ∃ t u, t < T ∧ u < T ∧ g t = g u ∧ old t u = -9))) := ⟨_, rfl⟩
  rw [← hpost]
  obtain ⟨I, hI⟩ : ∃ I : Nat → zMem → Int → Prop, I = (fun m M1 q => zfr [33] M M1 ∧ (∀ t u, t < T → u < T → M1 33 (20 * t + u) = if 20 * t + u < m ∧ g t = g u ∧ old t u = -9 then (r : Int) else old t u) ∧ ((q = 1 ∧ ∃ t u, t < T ∧ u < T ∧ 20 * t + u < m ∧ g t = g u ∧ old t u = -9) ∨ (q = 0 ∧ ¬ ∃ t u, t < T ∧ u < T ∧ 20 * t + u < m ∧ g t = g u ∧ old t u = -9))) := ⟨_, rfl⟩
  have loop : ∀ (c t : Nat) (M1 : zMem) (q : Int) (a b : Option zAV), t + c = T → I (20 * t) M1 q → zV zd_Rounds_noteRound 0 5 [some (zr 7), some (zi T), some (zi r), some (zi q), some (zi t), a, b] [] M1 post := by
    intro c
    induction c with
    | zero =>
      intro t M1 q a b ht hi
      rw [hI] at hi
      obtain ⟨i1, i2, i3⟩ := hi
      refine z_withR (fun hR => ?_)
      refine ziload_7_4 dX4_noteRound_5 ?_
      refine ziload_7_1 dX4_noteRound_7 ?_
      refine z_icmp_ge (tgt := 81) (by first | omega | exact hR.1 _ _ (by decide) | exact zrng_toInt _) (by first | omega | exact hR.1 _ _ (by decide) | exact zrng_toInt _) dX4_noteRound_8 (by decide) (fun h8 => ?_) (fun h8 => ?_)
      · refine ziload_7_3 dX4_noteRound_81 ?_
        refine z_zret rfl (by rcases i3 with ⟨h, _⟩ | ⟨h, _⟩ <;> rw [h] <;> decide) ?_ dX4_noteRound_82
        rw [hpost]
        refine ⟨i1, fun t' u' h1 h2 => ?_, ?_⟩
        · rw [i2 t' u' h1 h2]
          have : 20 * t' + u' < 20 * t := by omega
          simp [this]
        · rcases i3 with ⟨h, t', u', h1, h2, h3, h4⟩ | ⟨h, h1⟩
          · exact Or.inl ⟨h, t', u', h1, h2, h4⟩
          · exact Or.inr ⟨h, fun ⟨t', u', h2, h3, h4⟩ => h1 ⟨t', u', h2, h3, by omega, h4⟩⟩
      · omega
    | succ c ih =>
      intro t M1 q a b ht hi
      have inn : ∀ (j u : Nat) (M3 : zMem) (q : Int) (b : Option zAV), u + j = T → I (20 * t + u) M3 q → zV zd_Rounds_noteRound 0 14 [some (zr 7), some (zi T), some (zi r), some (zi q), some (zi t), some (zi u), b] [] M3 post := by
        intro j
        induction j with
        | zero =>
          intro u M3 q b hu hi
          refine z_withR (fun hR => ?_)
          have hi2 : I (20 * (t + 1)) M3 q := by
            rw [hI] at hi ⊢
            obtain ⟨i1, i2, i3⟩ := hi
            refine ⟨i1, fun t' u' h1 h2 => ?_, ?_⟩
            · rw [i2 t' u' h1 h2]
              have : (20 * t' + u' < 20 * t + u) ↔ (20 * t' + u' < 20 * (t + 1)) := by omega
              simp only [this]
            · rcases i3 with ⟨h, t', u', h1, h2, h3, h4⟩ | ⟨h, h1⟩
              · exact Or.inl ⟨h, t', u', h1, h2, by omega, h4⟩
              · exact Or.inr ⟨h, fun ⟨t', u', h2, h3, h5, h4⟩ => h1 ⟨t', u', h2, h3, by omega, h4⟩⟩
          refine ziload_7_5 dX4_noteRound_14 ?_
          refine ziload_7_1 dX4_noteRound_16 ?_
          refine z_icmp_ge (tgt := 75) (by first | omega | exact hR.1 _ _ (by decide) | exact zrng_toInt _) (by first | omega | exact hR.1 _ _ (by decide) | exact zrng_toInt _) dX4_noteRound_17 (by decide) (fun h17 => ?_) (fun h17 => ?_)
          · refine ziinc_7_4 dX4_noteRound_75 ?_
            refine z_goto (tgt := 5) dX4_noteRound_78 (by decide) ?_
            exact ih (t + 1) M3 q _ _ (by omega) hi2
          · omega
        | succ j ij =>
          intro u M3 q b hu hi
          have hi0 := hi
          rw [hI] at hi
          obtain ⟨i1, i2, i3⟩ := hi
          have e3 := i2 t u (by omega) (by omega)
          rw [if_neg (by omega)] at e3
          obtain ⟨gt, gt2⟩ := hg t (by omega)
          obtain ⟨gu, gu2⟩ := hg u (by omega)
          rw [← i1 31 (by decide)] at gt gu
          have same : ¬ (g t = g u ∧ old t u = -9) → I (20 * t + (u + 1)) M3 q := by
            intro hno
            rw [hI]
            refine ⟨i1, fun t' u' h1 h2 => ?_, ?_⟩
            · rw [i2 t' u' h1 h2]
              by_cases e : t' = t ∧ u' = u
              · rw [e.1, e.2, if_neg (by omega), if_neg (fun h => hno h.2)]
              · have : (20 * t' + u' < 20 * t + u) ↔ (20 * t' + u' < 20 * t + (u + 1)) := by omega
                simp only [this]
            · rcases i3 with ⟨h, t', u', h1, h2, h3, h4⟩ | ⟨h, h1⟩
              · exact Or.inl ⟨h, t', u', h1, h2, by omega, h4⟩
              · refine Or.inr ⟨h, fun ⟨t', u', h2, h3, h5, h4⟩ => ?_⟩
                by_cases e : t' = t ∧ u' = u
                · rw [e.1, e.2] at h4; exact hno h4
                · exact h1 ⟨t', u', h2, h3, by omega, h4⟩
          have new : (g t = g u ∧ old t u = -9) → I (20 * t + (u + 1)) (zmu M3 33 (20 * t + u) r) 1 := by
            intro hyes
            rw [hI]
            refine ⟨i1.mu (by decide), fun t' u' h1 h2 => ?_, Or.inl ⟨rfl, t, u, by omega, by omega, by omega, hyes⟩⟩
            by_cases e : t' = t ∧ u' = u
            · rw [e.1, e.2, zmu_same, if_pos ⟨by omega, hyes⟩]
            · rw [zmu_ne _ _ _ _ (by omega), i2 t' u' h1 h2]
              have : (20 * t' + u' < 20 * t + u) ↔ (20 * t' + u' < 20 * t + (u + 1)) := by omega
              simp only [this]
          have k69 : ∀ (M4 : zMem) (q4 : Int), I (20 * t + (u + 1)) M4 q4 → zV zd_Rounds_noteRound 0 69 [some (zr 7), some (zi T), some (zi r), some (zi q4), some (zi t), some (zi u), some (zi ((20 * t + u : Nat) : Int))] [] M4 post := by
            intro M4 q4 h4
            refine z_withR (fun hR => ?_)
            refine ziinc_7_5 dX4_noteRound_69 ?_
            refine z_goto (tgt := 14) dX4_noteRound_72 (by decide) ?_
            exact ij (u + 1) M4 q4 _ (by omega) h4
          refine z_withR (fun hR => ?_)
          have ro : zrng (old t u) := by
            rw [← e3]
            exact hR.1 _ _ (by decide)
          refine ziload_7_5 dX4_noteRound_14 ?_
          refine ziload_7_1 dX4_noteRound_16 ?_
          refine z_icmp_ge (tgt := 75) (by first | omega | exact hR.1 _ _ (by decide) | exact zrng_toInt _) (by first | omega | exact hR.1 _ _ (by decide) | exact zrng_toInt _) dX4_noteRound_17 (by decide) (fun h17 => ?_) (fun h17 => ?_)
          · omega
          · refine ziload_7_4 dX4_noteRound_20 ?_
            refine z_bipush dX4_noteRound_22 (by decide) ?_
            refine z_imul dX4_noteRound_24 ?_
            rw [show (t : Int) * 20 = ((20 * t : Nat) : Int) by omega]
            refine ziload_7_5 dX4_noteRound_25 ?_
            refine z_iadd dX4_noteRound_27 ?_
            rw [show ((20 * t : Nat) : Int) + (u : Int) = ((20 * t + u : Nat) : Int) by omega]
            refine zistore_7_6 dX4_noteRound_28 ?_
            refine zaload_7_0 dX4_noteRound_30 ?_
            refine zg_Rounds_11 rfl dX4_noteRound_31 ?_
            refine ziload_7_4 dX4_noteRound_34 ?_
            refine z_iald _ rfl (by decide) (by decide) rfl (by omega) dX4_noteRound_36 ?_
            refine z_top gt ?_
            refine zaload_7_0 dX4_noteRound_37 ?_
            refine zg_Rounds_11 rfl dX4_noteRound_38 ?_
            refine ziload_7_5 dX4_noteRound_41 ?_
            refine z_iald _ rfl (by decide) (by decide) rfl (by omega) dX4_noteRound_43 ?_
            refine z_top gu ?_
            refine z_icmp_ne (tgt := 69) (by first | omega | exact hR.1 _ _ (by decide) | exact zrng_toInt _) (by first | omega | exact hR.1 _ _ (by decide) | exact zrng_toInt _) dX4_noteRound_44 (by decide) (fun h44 => ?_) (fun h44 => ?_)
            · first
                | exact k69 M3 q (same (fun h => by omega))
                | exact k69 _ 1 (new ⟨by omega, by omega⟩)
            · refine zaload_7_0 dX4_noteRound_47 ?_
              refine zg_Rounds_20 rfl dX4_noteRound_48 ?_
              refine ziload_7_6 dX4_noteRound_51 ?_
              refine z_iald _ rfl (by decide) (by decide) rfl (by omega) dX4_noteRound_53 ?_
              refine z_top e3 ?_
              refine z_bipush dX4_noteRound_54 (by decide) ?_
              refine z_icmp_ne (tgt := 69) ro (by first | omega | exact hR.1 _ _ (by decide) | exact zrng_toInt _) dX4_noteRound_56 (by decide) (fun h56 => ?_) (fun h56 => ?_)
              · first
                  | exact k69 M3 q (same (fun h => by omega))
                  | exact k69 _ 1 (new ⟨by omega, by omega⟩)
              · refine zaload_7_0 dX4_noteRound_59 ?_
                refine zg_Rounds_20 rfl dX4_noteRound_60 ?_
                refine ziload_7_6 dX4_noteRound_63 ?_
                refine ziload_7_2 dX4_noteRound_65 ?_
                refine z_iast _ (by decide) rfl (by decide) (by decide) rfl (by omega) (by first | omega | exact hR.1 _ _ (by decide) | exact zrng_toInt _) dX4_noteRound_66 ?_
                refine z_withR (fun hR => ?_)
                refine z_iconst dX4_noteRound_67 ?_
                refine zistore_7_3 dX4_noteRound_68 ?_
                first
                  | exact k69 M3 q (same (fun h => by omega))
                  | exact k69 _ 1 (new ⟨by omega, by omega⟩)
      refine z_withR (fun hR => ?_)
      refine ziload_7_4 dX4_noteRound_5 ?_
      refine ziload_7_1 dX4_noteRound_7 ?_
      refine z_icmp_ge (tgt := 81) (by first | omega | exact hR.1 _ _ (by decide) | exact zrng_toInt _) (by first | omega | exact hR.1 _ _ (by decide) | exact zrng_toInt _) dX4_noteRound_8 (by decide) (fun h8 => ?_) (fun h8 => ?_)
      · omega
      · refine z_iconst dX4_noteRound_11 ?_
        refine zistore_7_5 dX4_noteRound_12 ?_
        exact inn T 0 M1 q _ (by omega) hi
  refine z_iconst dX4_noteRound_0 ?_
  refine zistore_7_3 dX4_noteRound_1 ?_
  refine z_iconst dX4_noteRound_2 ?_
  refine zistore_7_4 dX4_noteRound_3 ?_
  refine loop T 0 M 0 _ _ (by omega) ?_
  rw [hI]
  exact ⟨zfr.rf, fun t u h1 h2 => by rw [if_neg (by omega)]; exact ho t u h1 h2, Or.inr ⟨rfl, fun ⟨t, u, _, _, h, _⟩ => absurd h (by omega)⟩⟩
theorem sp_Rounds_begin (M : zMem) (T : Nat) (hT : T ≤ 20) : zSp zd_Rounds_begin 1 [zr 7, zi T] M (fun _ M' => zfr [7, 31, 33] M M' ∧ M' 7 4 = 0 ∧ M' 7 5 = M 7 5 ∧ (∀ t, t < T → M' 31 t = t) ∧ ∀ t u, t < T → u < T → M' 33 (20 * t + u) = if t = u then 0 else -9) := by
  refine zSp_in 1 [some (zr 7), some (zi T), none] rfl rfl (by decide +kernel) rfl ?_
  refine z_withR (fun hR => ?_)
  obtain ⟨post, hpost⟩ : ∃ post : Int → zMem → Prop, post = (fun (_ : Int) M' => zfr [7, 31, 33] M M' ∧ M' 7 4 = 0 ∧ M' 7 5 = M 7 5 ∧ (∀ t, t < T → M' 31 t = t) ∧ ∀ t u, t < T → u < T → M' 33 (20 * t + u) = if t = u then 0 else -9) := ⟨_, rfl⟩
  rw [← hpost]
  have loop : ∀ (c i : Nat) (M1 : zMem), i + c = T → zfr [7, 31, 33] M M1 → M1 7 4 = 0 → M1 7 5 = M 7 5 → (∀ t, t < i → M1 31 t = t) → (∀ t u, t < T → u < T → M1 33 (20 * t + u) = if t = u ∧ t < i then 0 else -9) → zV zd_Rounds_begin 1 16 [some (zr 7), some (zi T), some (zi i)] [] M1 post := by
    intro c
    induction c with
    | zero =>
      intro i M1 hi hf h1 h2 h3 h4
      refine z_withR (fun hR => ?_)
      refine ziload_3_2 dX4_begin_16 ?_
      refine ziload_3_1 dX4_begin_17 ?_
      refine z_icmp_ge (tgt := 46) (by first | omega | exact hR.1 _ _ (by decide) | exact zrng_toInt _) (by first | omega | exact hR.1 _ _ (by decide) | exact zrng_toInt _) dX4_begin_18 (by decide) (fun h18 => ?_) (fun h18 => ?_)
      · refine z_vret rfl ?_ dX4_begin_46
        rw [hpost]
        refine ⟨hf, h1, h2, fun t ht => h3 t (by omega), fun t u ht hu => ?_⟩
        rw [h4 t u ht hu]
        have : t < i := by omega
        simp [this]
      · omega
    | succ c ih =>
      intro i M1 hi hf h1 h2 h3 h4
      refine z_withR (fun hR => ?_)
      refine ziload_3_2 dX4_begin_16 ?_
      refine ziload_3_1 dX4_begin_17 ?_
      refine z_icmp_ge (tgt := 46) (by first | omega | exact hR.1 _ _ (by decide) | exact zrng_toInt _) (by first | omega | exact hR.1 _ _ (by decide) | exact zrng_toInt _) dX4_begin_18 (by decide) (fun h18 => ?_) (fun h18 => ?_)
      · omega
      · refine zaload_3_0 dX4_begin_21 ?_
        refine zg_Rounds_11 rfl dX4_begin_22 ?_
        refine ziload_3_2 dX4_begin_25 ?_
        refine ziload_3_2 dX4_begin_26 ?_
        refine z_iast _ (by decide) rfl (by decide) (by decide) rfl (by omega) (by first | omega | exact hR.1 _ _ (by decide) | exact zrng_toInt _) dX4_begin_27 ?_
        refine z_withR (fun hR => ?_)
        refine zaload_3_0 dX4_begin_28 ?_
        refine zg_Rounds_20 rfl dX4_begin_29 ?_
        refine ziload_3_2 dX4_begin_32 ?_
        refine z_bipush dX4_begin_33 (by decide) ?_
        refine z_imul dX4_begin_35 ?_
        refine ziload_3_2 dX4_begin_36 ?_
        refine z_iadd dX4_begin_37 ?_
        refine z_iconst dX4_begin_38 ?_
        refine z_iast (20 * i + i) (by decide) rfl (by decide) (by decide) (by omega) (by omega) (by first | omega | exact hR.1 _ _ (by decide) | exact zrng_toInt _) dX4_begin_39 ?_
        refine z_withR (fun hR => ?_)
        refine ziinc_3_2 dX4_begin_40 ?_
        refine z_goto (tgt := 16) dX4_begin_43 (by decide) ?_
        refine ih (i + 1) _ (by omega) ((hf.mu (by decide)).mu (by decide)) ?_ ?_ (fun t ht => ?_) (fun t u ht hu => ?_)
        · rw [zmu_other _ _ _ _ (by decide), zmu_other _ _ _ _ (by decide)]; exact h1
        · rw [zmu_other _ _ _ _ (by decide), zmu_other _ _ _ _ (by decide)]; exact h2
        · rw [zmu_other _ _ _ _ (by decide)]
          by_cases e : t = i
          · rw [e, zmu_same]
          · rw [zmu_ne _ _ _ _ e]; exact h3 t (by omega)
        · by_cases e : t = i ∧ u = i
          · rw [e.1, e.2, zmu_same, if_pos ⟨rfl, by omega⟩]
          · rw [zmu_ne _ _ _ _ (by omega), zmu_other _ _ _ _ (by decide), h4 t u ht hu]
            have : (t = u ∧ t < i) ↔ (t = u ∧ t < i + 1) := by omega
            simp only [this]
  refine zaload_3_0 dX4_begin_0 ?_
  refine z_iconst dX4_begin_1 ?_
  refine zp_Rounds_26 rfl (by first | omega | exact hR.1 _ _ (by decide) | exact zrng_toInt _) dX4_begin_2 ?_
  refine z_withR (fun hR => ?_)
  refine zaload_3_0 dX4_begin_5 ?_
  refine zg_Rounds_20 rfl dX4_begin_6 ?_
  refine z_bipush dX4_begin_9 (by decide) ?_
  refine zc_Rounds_59 rfl dX4_begin_11 (by decide) (Nat.le_of_ble_eq_true rfl) (sp_fill33 _ (-9) (by decide)) (fun r11 M11 hq11 => ?_)
  refine z_withR (fun hR => ?_)
  obtain ⟨hf11, h11⟩ := hq11
  refine z_iconst dX4_begin_14 ?_
  refine zistore_3_2 dX4_begin_15 ?_
  refine loop T 0 M11 (by omega) ((zfr.rf.mu (by decide) : zfr [7, 31, 33] M (zmu M 7 4 0)).tr hf11 (by decide) (by decide)) ?_ ?_ (fun t h => absurd h (Nat.not_lt_zero _)) (fun t u ht hu => ?_)
  · rw [hf11 7 (by decide), zmu_same]
  · rw [hf11 7 (by decide), zmu_ne _ _ _ _ (by decide)]
  · rw [h11 _ (by omega), if_neg (by omega)]
theorem sp_Rounds_roundOf (M : zMem) (t u : Nat) (ht : t < 20) (hu : u < 20) : zSp zd_Rounds_roundOf 0 [zr 7, zi t, zi u] M (fun q M' => M' = M ∧ q = M 33 (20 * t + u)) := by
  refine zSp_in 0 [some (zr 7), some (zi t), some (zi u)] rfl rfl (by decide +kernel) rfl ?_
  refine z_withR (fun hR => ?_)
  refine zaload_3_0 dX4_roundOf_0 ?_
  refine zg_Rounds_20 rfl dX4_roundOf_1 ?_
  refine ziload_3_1 dX4_roundOf_4 ?_
  refine z_bipush dX4_roundOf_5 (by decide) ?_
  refine z_imul dX4_roundOf_7 ?_
  refine ziload_3_2 dX4_roundOf_8 ?_
  refine z_iadd dX4_roundOf_9 ?_
  refine z_iald (20 * t + u) rfl (by decide) (by decide) (by omega) (by omega) dX4_roundOf_10 ?_
  refine z_iret rfl ?_ dX4_roundOf_11
  exact ⟨rfl, rfl⟩
theorem sp_Rounds_howManyGroups (M : zMem) (T : Nat) (g : Nat → Nat) (hT : T ≤ 20) (hg : ∀ t, t < T → M 31 t = g t ∧ g t ≤ t) : zSp zd_Rounds_howManyGroups 0 [zr 7, zi T] M (fun q M' => M' = M ∧ q = ngr g T) := by
  refine zSp_in 2 [some (zr 7), some (zi T), none, none] rfl rfl (by decide +kernel) rfl ?_
  refine z_withR (fun hR => ?_)
  have loop : ∀ (c i : Nat), i + c = T → zV zd_Rounds_howManyGroups 0 4 [some (zr 7), some (zi T), some (zi (ngr g i : Nat)), some (zi i)] [] M (fun q M' => M' = M ∧ q = ngr g T) := by
    intro c
    induction c with
    | zero =>
      intro i hi
      refine ziload_4_3 dX4_howManyGroups_4 ?_
      refine ziload_4_1 dX4_howManyGroups_5 ?_
      refine z_icmp_ge (tgt := 28) (by first | omega | exact hR.1 _ _ (by decide) | exact zrng_toInt _) (by first | omega | exact hR.1 _ _ (by decide) | exact zrng_toInt _) dX4_howManyGroups_6 (by decide) (fun h6 => ?_) (fun h6 => ?_)
      · refine ziload_4_2 dX4_howManyGroups_28 ?_
        refine z_iret rfl ?_ dX4_howManyGroups_29
        exact ⟨rfl, by rw [show i = T by omega]⟩
      · omega
    | succ c ih =>
      intro i hi
      obtain ⟨h1, h2⟩ := hg i (by omega)
      have hn : ngr g (i + 1) = ngr g i + (if g i == i then 1 else 0) := rfl
      have hb : ngr g i ≤ i := fb_ct_le _ _
      have k := ih (i + 1) (by omega)
      refine ziload_4_3 dX4_howManyGroups_4 ?_
      refine ziload_4_1 dX4_howManyGroups_5 ?_
      refine z_icmp_ge (tgt := 28) (by first | omega | exact hR.1 _ _ (by decide) | exact zrng_toInt _) (by first | omega | exact hR.1 _ _ (by decide) | exact zrng_toInt _) dX4_howManyGroups_6 (by decide) (fun h6 => ?_) (fun h6 => ?_)
      · omega
      · refine zaload_4_0 dX4_howManyGroups_9 ?_
        refine zg_Rounds_11 rfl dX4_howManyGroups_10 ?_
        refine ziload_4_3 dX4_howManyGroups_13 ?_
        refine z_iald _ rfl (by decide) (by decide) rfl (by omega) dX4_howManyGroups_14 ?_
        refine z_top h1 ?_
        refine ziload_4_3 dX4_howManyGroups_15 ?_
        refine z_icmp_ne (tgt := 22) (by first | omega | exact hR.1 _ _ (by decide) | exact zrng_toInt _) (by first | omega | exact hR.1 _ _ (by decide) | exact zrng_toInt _) dX4_howManyGroups_16 (by decide) (fun h16 => ?_) (fun h16 => ?_)
        · rw [hn, if_neg (by simp; omega)] at k
          refine ziinc_4_3 dX4_howManyGroups_22 ?_
          refine z_goto (tgt := 4) dX4_howManyGroups_25 (by decide) ?_
          exact k
        · rw [hn, if_pos (by simp; omega)] at k
          refine ziinc_4_2 dX4_howManyGroups_19 ?_
          refine ziinc_4_3 dX4_howManyGroups_22 ?_
          refine z_goto (tgt := 4) dX4_howManyGroups_25 (by decide) ?_
          exact k
  refine z_iconst dX4_howManyGroups_0 ?_
  refine zistore_4_2 dX4_howManyGroups_1 ?_
  refine z_iconst dX4_howManyGroups_2 ?_
  refine zistore_4_3 dX4_howManyGroups_3 ?_
  exact loop T 0 (by omega)
