theorem sp_Model_isSo0 (M : zMem) (L R : Nat → Nat) (T i n k a b x y : Nat) (hi : i < 13) (hn : okn n) (ht : tbR M n k) (hT : tmR M L R T) (hw : M 48 i = 0) (hA : M 49 i = a) (hB : M 50 i = b) (ha : a < T) (hb : b < T) (hwn : wnR M L R T a b) (hx : x < n) (hy : y < n) : zSp zd_Model_isSo 1 [zr 9, zi i, zi x, zi y] M (fun r M' => zfr [41] M M' ∧ r = b01 (alz L R n k a b (x * n + y))) := by
  refine zSp_in 5 [some (zr 9), some (zi i), some (zi x), some (zi y), none, none, none, none, none] rfl rfl (by decide +kernel) rfl ?_
  refine z_withR (fun hR => ?_)
  have hn0 := hn.pos
  have hn3 := hn.le
  have t20 := hT.2.2.1
  have d1 : (x * n + y) / n = x := pair_div hy
  have d2 : (x * n + y) % n = y := pair_mod hy
  obtain ⟨F, hF⟩ : ∃ F : Nat → Bool, F = fun z => decide (ev L R n k x y z a = ev L R n k x y z b) := ⟨_, rfl⟩
  have hall : alz L R n k a b (x * n + y) = alF F n := by
    rw [Bool.eq_iff_iff, alF_iff]
    unfold alz
    rw [decide_eq_true_iff, d1, d2, hF]
    simp
  rw [hall]
  obtain ⟨post, hpost⟩ : ∃ post : Int → zMem → Prop, post = (fun (r : Int) M' => zfr [41] M M' ∧ r = b01 (alF F n)) := ⟨_, rfl⟩
  rw [← hpost]
  have loop : ∀ (c z : Nat) (M1 : zMem) (l8 : Option zAV), z + c = n → zfr [41] M M1 → zV zd_Model_isSo 1 20 [some (zr 9), some (zi i), some (zi x), some (zi y), some (zi ((9 * a : Nat) : Int)), some (zi (b01 (anF F z))), some (zi (b01 (alF F z))), some (zi z), l8] [] M1 post := by
    intro c
    induction c with
    | zero =>
      intro z M1 l8 hz hf
      have e : z = n := by omega
      subst e
      have hs : M1 9 8 = z := by rw [hf 9 (by decide)]; exact ht.1
      have hw1 : M1 48 i = 0 := by rw [hf 48 (by decide)]; exact hw
      refine z_withR (fun hR => ?_)
      refine ziload_9_7 dX9_isSo_20 ?_
      refine zaload_9_0 dX9_isSo_22 ?_
      refine zg_Model_124 rfl dX9_isSo_23 ?_
      refine z_top hs ?_
      refine z_icmp_ge (tgt := 120) (by first | omega | exact hR.1 _ _ (by decide) | exact zrng_toInt _) (by first | omega | exact hR.1 _ _ (by decide) | exact zrng_toInt _) dX9_isSo_26 (by decide) (fun h26 => ?_) (fun h26 => ?_)
      · refine zaload_9_0 dX9_isSo_120 ?_
        refine zg_Model_54 rfl dX9_isSo_121 ?_
        refine ziload_9_1 dX9_isSo_124 ?_
        refine z_iald _ rfl (by decide) (by decide) rfl (by omega) dX9_isSo_125 ?_
        refine z_top hw1 ?_
        rcases (show (0 : Int) = 1 ∨ (0 : Int) = 2 ∨ (0 : Int) = 3 ∨ (0 : Int) = 4 ∨ (0 : Int) = 5 ∨ (0 : Int) = 6 ∨ ((0 : Int) < 1 ∨ 6 < (0 : Int)) from by omega) with h126 | h126 | h126 | h126 | h126 | h126 | h126
        · omega
        · omega
        · omega
        · omega
        · omega
        · omega
        · refine z_swOut (tgt := 277) (by first | omega | exact hR.1 _ _ (by decide) | exact zrng_toInt _) dX9_isSo_126 (by omega) (by decide) ?_
          refine ziload_9_6 dX9_isSo_277 ?_
          refine z_zret rfl (b01_01 _) ?_ dX9_isSo_279
          rw [hpost]
          exact ⟨hf, rfl⟩
      · omega
    | succ c ih =>
      intro z M1 l8 hz hf
      have hs : M1 9 8 = n := by rw [hf 9 (by decide)]; exact ht.1
      have hw1 : M1 48 i = 0 := by rw [hf 48 (by decide)]; exact hw
      have hA1 : M1 49 i = a := by rw [hf 49 (by decide)]; exact hA
      have hB1 : M1 50 i = b := by rw [hf 50 (by decide)]; exact hB
      have e1 : anF F (z + 1) = (anF F z || F z) := rfl
      have e2 : alF F (z + 1) = (alF F z && F z) := rfl
      have kN := fun M2 h2 => ih (z + 1) M2 (some (zi (b01 (F z)))) (by omega) h2
      rw [e1, e2] at kN
      generalize anF F z = an at kN ⊢
      generalize alF F z = al at kN ⊢
      have k114 : ∀ (M2 : zMem) (p q : Int), zfr [41] M M2 → p = b01 (an || F z) → q = b01 (al && F z) → zV zd_Model_isSo 1 114 [some (zr 9), some (zi i), some (zi x), some (zi y), some (zi ((9 * a : Nat) : Int)), some (zi p), some (zi q), some (zi z), some (zi (b01 (F z)))] [] M2 post := by
        intro M2 p q h2 hp hq
        subst hp
        subst hq
        refine z_withR (fun hR => ?_)
        refine ziinc_9_7 dX9_isSo_114 ?_
        refine z_goto (tgt := 20) dX9_isSo_117 (by decide) ?_
        exact kN M2 h2
      have eF : F z = decide (ev L R n k x y z a = ev L R n k x y z b) := by rw [hF]
      refine z_withR (fun hR => ?_)
      refine ziload_9_7 dX9_isSo_20 ?_
      refine zaload_9_0 dX9_isSo_22 ?_
      refine zg_Model_124 rfl dX9_isSo_23 ?_
      refine z_top hs ?_
      refine z_icmp_ge (tgt := 120) (by first | omega | exact hR.1 _ _ (by decide) | exact zrng_toInt _) (by first | omega | exact hR.1 _ _ (by decide) | exact zrng_toInt _) dX9_isSo_26 (by decide) (fun h26 => ?_) (fun h26 => ?_)
      · omega
      · refine zaload_9_0 dX9_isSo_29 ?_
        refine zg_Model_54 rfl dX9_isSo_30 ?_
        refine ziload_9_1 dX9_isSo_33 ?_
        refine z_iald _ rfl (by decide) (by decide) rfl (by omega) dX9_isSo_34 ?_
        refine z_top hw1 ?_
        refine z_if_ne (tgt := 61) (by first | omega | exact hR.1 _ _ (by decide) | exact zrng_toInt _) dX9_isSo_35 (by decide) (fun h35 => ?_) (fun h35 => ?_)
        · omega
        · refine zaload_9_0 dX9_isSo_38 ?_
          refine zaload_9_0 dX9_isSo_39 ?_
          refine zg_Model_57 rfl dX9_isSo_40 ?_
          refine ziload_9_1 dX9_isSo_43 ?_
          refine z_iald _ rfl (by decide) (by decide) rfl (by omega) dX9_isSo_44 ?_
          refine z_top hA1 ?_
          refine zaload_9_0 dX9_isSo_45 ?_
          refine zg_Model_60 rfl dX9_isSo_46 ?_
          refine ziload_9_1 dX9_isSo_49 ?_
          refine z_iald _ rfl (by decide) (by decide) rfl (by omega) dX9_isSo_50 ?_
          refine z_top hB1 ?_
          refine ziload_9_2 dX9_isSo_51 ?_
          refine ziload_9_3 dX9_isSo_52 ?_
          refine ziload_9_7 dX9_isSo_53 ?_
          refine zc_Model_130 rfl dX9_isSo_55 (by decide) (Nat.le_of_ble_eq_true rfl) (sp_Model_isSame M1 L R T n k a b x y z hn (ht.fr hf (by rw [hf 9 (by decide)]) (by decide)) (hT.fr hf (by rw [hf 9 (by decide)]) (by decide) (by decide)) ha hb (hwn.fr hf (by decide)) hx hy (by omega)) (fun r55 M55 hq55 => ?_)
          refine z_withR (fun hR => ?_)
          obtain ⟨f55, q55⟩ := hq55
          have q55' : r55 = b01 (F z) := by rw [q55, eF]; unfold b01; simp
          subst q55'
          have hff : zfr [41] M M55 := hf.tr f55 (by decide) (by decide)
          refine z_goto (tgt := 78) dX9_isSo_58 (by decide) ?_
          refine zistore_9_8 dX9_isSo_78 ?_
          refine ziload_9_5 dX9_isSo_80 ?_
          refine z_if_ne (tgt := 90) (b01_r _) dX9_isSo_82 (by decide) (fun h82 => ?_) (fun h82 => ?_)
          · have ha := b01_t h82
            refine z_iconst dX9_isSo_90 ?_
            refine z_goto (tgt := 95) dX9_isSo_91 (by decide) ?_
            refine zistore_9_5 dX9_isSo_95 ?_
            refine ziload_9_6 dX9_isSo_97 ?_
            refine z_if_eq (tgt := 111) (b01_r _) dX9_isSo_99 (by decide) (fun h99 => ?_) (fun h99 => ?_)
            · have hc := b01_f h99
              refine z_iconst dX9_isSo_111 ?_
              refine zistore_9_6 dX9_isSo_112 ?_
              exact k114 _ _ _ hff (by first | (rw [ha]; rfl) | (rw [ha, hb]; rfl)) (by first | (rw [hc]; rfl) | (rw [hc, hd]; rfl))
            · have hc := b01_t h99
              refine ziload_9_8 dX9_isSo_102 ?_
              refine z_if_eq (tgt := 111) (b01_r _) dX9_isSo_104 (by decide) (fun h104 => ?_) (fun h104 => ?_)
              · have hd := b01_f h104
                refine z_iconst dX9_isSo_111 ?_
                refine zistore_9_6 dX9_isSo_112 ?_
                exact k114 _ _ _ hff (by first | (rw [ha]; rfl) | (rw [ha, hb]; rfl)) (by first | (rw [hc]; rfl) | (rw [hc, hd]; rfl))
              · have hd := b01_t h104
                refine z_iconst dX9_isSo_107 ?_
                refine z_goto (tgt := 112) dX9_isSo_108 (by decide) ?_
                refine zistore_9_6 dX9_isSo_112 ?_
                exact k114 _ _ _ hff (by first | (rw [ha]; rfl) | (rw [ha, hb]; rfl)) (by first | (rw [hc]; rfl) | (rw [hc, hd]; rfl))
          · have ha := b01_f h82
            refine ziload_9_8 dX9_isSo_85 ?_
            refine z_if_eq (tgt := 94) (b01_r _) dX9_isSo_87 (by decide) (fun h87 => ?_) (fun h87 => ?_)
            · have hb := b01_f h87
              refine z_iconst dX9_isSo_94 ?_
              refine zistore_9_5 dX9_isSo_95 ?_
              refine ziload_9_6 dX9_isSo_97 ?_
              refine z_if_eq (tgt := 111) (b01_r _) dX9_isSo_99 (by decide) (fun h99 => ?_) (fun h99 => ?_)
              · have hc := b01_f h99
                refine z_iconst dX9_isSo_111 ?_
                refine zistore_9_6 dX9_isSo_112 ?_
                exact k114 _ _ _ hff (by first | (rw [ha]; rfl) | (rw [ha, hb]; rfl)) (by first | (rw [hc]; rfl) | (rw [hc, hd]; rfl))
              · have hc := b01_t h99
                refine ziload_9_8 dX9_isSo_102 ?_
                refine z_if_eq (tgt := 111) (b01_r _) dX9_isSo_104 (by decide) (fun h104 => ?_) (fun h104 => ?_)
                · have hd := b01_f h104
                  refine z_iconst dX9_isSo_111 ?_
                  refine zistore_9_6 dX9_isSo_112 ?_
                  exact k114 _ _ _ hff (by first | (rw [ha]; rfl) | (rw [ha, hb]; rfl)) (by first | (rw [hc]; rfl) | (rw [hc, hd]; rfl))
                · have hd := b01_t h104
                  refine z_iconst dX9_isSo_107 ?_
                  refine z_goto (tgt := 112) dX9_isSo_108 (by decide) ?_
                  refine zistore_9_6 dX9_isSo_112 ?_
                  exact k114 _ _ _ hff (by first | (rw [ha]; rfl) | (rw [ha, hb]; rfl)) (by first | (rw [hc]; rfl) | (rw [hc, hd]; rfl))
            · have hb := b01_t h87
              refine z_iconst dX9_isSo_90 ?_
              refine z_goto (tgt := 95) dX9_isSo_91 (by decide) ?_
              refine zistore_9_5 dX9_isSo_95 ?_
              refine ziload_9_6 dX9_isSo_97 ?_
              refine z_if_eq (tgt := 111) (b01_r _) dX9_isSo_99 (by decide) (fun h99 => ?_) (fun h99 => ?_)
              · have hc := b01_f h99
                refine z_iconst dX9_isSo_111 ?_
                refine zistore_9_6 dX9_isSo_112 ?_
                exact k114 _ _ _ hff (by first | (rw [ha]; rfl) | (rw [ha, hb]; rfl)) (by first | (rw [hc]; rfl) | (rw [hc, hd]; rfl))
              · have hc := b01_t h99
                refine ziload_9_8 dX9_isSo_102 ?_
                refine z_if_eq (tgt := 111) (b01_r _) dX9_isSo_104 (by decide) (fun h104 => ?_) (fun h104 => ?_)
                · have hd := b01_f h104
                  refine z_iconst dX9_isSo_111 ?_
                  refine zistore_9_6 dX9_isSo_112 ?_
                  exact k114 _ _ _ hff (by first | (rw [ha]; rfl) | (rw [ha, hb]; rfl)) (by first | (rw [hc]; rfl) | (rw [hc, hd]; rfl))
                · have hd := b01_t h104
                  refine z_iconst dX9_isSo_107 ?_
                  refine z_goto (tgt := 112) dX9_isSo_108 (by decide) ?_
                  refine zistore_9_6 dX9_isSo_112 ?_
                  exact k114 _ _ _ hff (by first | (rw [ha]; rfl) | (rw [ha, hb]; rfl)) (by first | (rw [hc]; rfl) | (rw [hc, hd]; rfl))
  refine z_bipush dX9_isSo_0 (by decide) ?_
  refine zaload_9_0 dX9_isSo_2 ?_
  refine zg_Model_57 rfl dX9_isSo_3 ?_
  refine ziload_9_1 dX9_isSo_6 ?_
  refine z_iald _ rfl (by decide) (by decide) rfl (by omega) dX9_isSo_7 ?_
  refine z_top hA ?_
  refine z_imul dX9_isSo_8 ?_
  rw [show (9 : Int) * (a : Int) = ((9 * a : Nat) : Int) by omega]
  refine zistore_9_4 dX9_isSo_9 ?_
  refine z_iconst dX9_isSo_11 ?_
  refine zistore_9_5 dX9_isSo_12 ?_
  refine z_iconst dX9_isSo_14 ?_
  refine zistore_9_6 dX9_isSo_15 ?_
  refine z_iconst dX9_isSo_17 ?_
  refine zistore_9_7 dX9_isSo_18 ?_
  exact loop n 0 M _ (by omega) zfr.rf
