def bMake (B : Nat → Nat → Nat) (w a b : Nat) : Nat → Nat → Nat := bs (bs (bs (bs (bs B 6 0 (B 6 0 + 1)) 7 (B 6 0) w) 8 (B 6 0) a) 9 (B 6 0) b) 10 (B 6 0) 1
theorem abC.make {M M' : zMem} {B : Nat → Nat → Nat} {w a b : Nat} (h : abC M B) (hf : zfr [5, 21, 22, 23, 24, 25, 26] M M') (hn : ntC M' (B 0 0) (B 6 0 + 1) (fup (B 7) (B 6 0) w) (fup (B 8) (B 6 0) a) (fup (B 9) (B 6 0) b)) (ha : M' 26 = fun i => if i = B 6 0 then 1 else M 26 i) : abC M' (bMake B w a b) := by
  obtain ⟨⟨h1, h2, h3, h4, h5, h6, h7, h8⟩, hO, hK⟩ := h
  have bo : ∀ c, c ≠ 6 → c ≠ 7 → c ≠ 8 → c ≠ 9 → c ≠ 10 → bMake B w a b c = B c := by
    intro c h6 h7 h8 h9 h10
    unfold bMake bs
    rw [if_neg h10, if_neg h9, if_neg h8, if_neg h7, if_neg h6]
  have b0 : bMake B w a b 0 = B 0 := rfl
  have b1 : bMake B w a b 1 = B 1 := rfl
  have b2 : bMake B w a b 2 = B 2 := rfl
  have b6 : bMake B w a b 6 0 = B 6 0 + 1 := rfl
  have b7 : bMake B w a b 7 = fup (B 7) (B 6 0) w := rfl
  have b8 : bMake B w a b 8 = fup (B 8) (B 6 0) a := rfl
  have b9 : bMake B w a b 9 = fup (B 9) (B 6 0) b := rfl
  have b10 : bMake B w a b 10 = fup (B 10) (B 6 0) 1 := rfl
  refine ⟨⟨?_, ?_, ?_, ?_, ?_, ?_, ?_, ?_⟩, ?_, (hK.fr hf (by decide)).re rfl (by rw [b6]; omega) (fun e l hl => rfl) (fun s e hs => rfl) (fun e i hi => ?_)⟩
  · rw [b0, b1, b2]; exact h1.fr hf (by decide) (by decide) (by decide) (by decide)
  · rw [b0, b1, b2]; exact h2
  · exact h3.fr hf (by decide) (by decide) (by decide)
  · rw [b0, b6, b7, b8, b9]; exact hn
  · rw [b6]
    intro i hi
    unfold bAw
    rw [ha, b10]
    by_cases e : i = B 6 0
    · rw [e, fup_s]; simp
    · rw [fup_n e]
      simp only [if_neg e]
      exact h5 i (by omega)
  · rw [hf 8 (by decide)]; exact h6
  · exact h7
  · rw [hf 10 (by decide), hf 11 (by decide)]; exact h8
  · exact hO.fr hf (by decide)
  · unfold bS sE
    rw [b1, b2, b7, b8, b9]
    exact so_congr h1.2.2.2.1 h4.2.2.1 (fun t _ _ => ⟨rfl, rfl⟩) (fun i hi => ⟨fup_n (by omega), fup_n (by omega), fup_n (by omega)⟩) i hi
abbrev mkO (B : Nat → Nat → Nat) (w a b : Int) : Prop := (w = 0 ∧ inR a (B 0 0) ∧ inR b (B 0 0)) ∨ (¬ w = 0 ∧ inR a (B 6 0) ∧ (w = 2 → inR b (B 6 0)))
def fMake (B : Nat → Nat → Nat) (w a b : Int) : Int := if inR w 7 then (if mkO B w a b then (if B 6 0 = 12 then -4 else (B 6 0 : Int)) else -1) else -2
def gMake (B : Nat → Nat → Nat) (w a b : Int) : Nat → Nat → Nat := if inR w 7 ∧ mkO B w a b ∧ ¬ B 6 0 = 12 then bMake B w.toNat a.toNat (if w = 0 ∨ w = 2 then b.toNat else 0) else B
theorem sp_S_make (M : zMem) (B : Nat → Nat → Nat) (w a b : Int) (hw : zrng w) (ha : zrng a) (hb : zrng b) (h : abC M B) : zSp zd_S_make 2 [zr 0, zi w, zi a, zi b] M (fun r M' => cOK M M' (gMake B w a b) r (fMake B w a b)) := by
  refine zSp_in 1 [some (zr 0), some (zi w), some (zi a), some (zi b), none] rfl rfl (by decide +kernel) rfl ?_
  refine z_withR (fun hR => ?_)
  have t1 := h.1.1.1
  have t20 := h.1.1.2.2.1
  have hnt := h.1.2.2.2.1
  have n1 := hnt.1
  have n12 := hnt.2.1
  obtain ⟨post, hpost⟩ : ∃ post : Int → zMem → Prop, post = (fun (r : Int) M' => cOK M M' (gMake B w a b) r (fMake B w a b)) := ⟨_, rfl⟩
  rw [← hpost]
  have unk : inR w 7 → ¬ mkO B w a b → post (-1) M := by
    intro h7 hn
    rw [hpost]
    unfold fMake gMake
    rw [if_pos h7, if_neg hn, if_neg (fun z => hn z.2.1)]
    exact ⟨rfl, zfr.rf, h⟩
  have add : ∀ x : Nat, inR w 7 → mkO B w a b → x = (if w = 0 ∨ w = 2 then b.toNat else 0) → ∀ (r : Int) (M' : zMem), ((B 6 0 = 12 ∧ r = -4 ∧ M' = M) ∨ (B 6 0 < 12 ∧ r = B 6 0 ∧ zfr [5, 21, 22, 23, 24, 25, 26] M M' ∧ ntC M' (B 0 0) (B 6 0 + 1) (fup (B 7) (B 6 0) w.toNat) (fup (B 8) (B 6 0) a.toNat) (fup (B 9) (B 6 0) x) ∧ M' 26 = fun i => if i = B 6 0 then 1 else M 26 i)) → post r M' := by
    intro x h7 hok hx r M' hq
    rw [hpost]
    unfold fMake gMake
    rw [if_pos h7, if_pos hok]
    rcases hq with ⟨q1, q2, q3⟩ | ⟨q1, q2, q3, q4, q5⟩
    · rw [if_pos q1, if_neg (fun z => z.2.2 q1), q3]
      exact ⟨q2, zfr.rf, h⟩
    · rw [if_neg (show ¬ B 6 0 = 12 by omega), if_pos ⟨h7, hok, by omega⟩, ← hx]
      exact ⟨q2, q3.up (by decide), h.make q3 q4 q5⟩
  have fin : ∀ (x : Int) (l4 : Option zAV), inR w 7 → mkO B w a b → x = (if w = 0 ∨ w = 2 then b else 0) → zV zd_S_make 2 72 [some (zr 0), some (zi w), some (zi a), some (zi b), l4] [zi x, zi a, zi w, zr 5] M post := by
    intro x l4 h7 hok hx
    obtain ⟨w', rfl⟩ : ∃ w' : Nat, w = w' := ⟨w.toNat, by omega⟩
    obtain ⟨a', rfl⟩ : ∃ a' : Nat, a = a' := ⟨a.toNat, by rcases hok with z | z <;> omega⟩
    have hx2 : ∃ x' : Nat, x = x' ∧ x' = (if ((w' : Int) = 0 ∨ (w' : Int) = 2) then b.toNat else 0) ∧ (w' = 0 → x' < B 0 0) ∧ (¬ w' = 0 → x' < B 6 0) := by
      refine ⟨x.toNat, ?_, ?_, ?_, ?_⟩
      · rcases hok with z | z <;> split at hx <;> omega
      · split <;> rename_i z <;> simp only [z, if_true, if_false] at hx <;> omega
      · intro z
        rw [if_pos (by omega)] at hx
        rcases hok with q | q <;> omega
      · intro z
        rcases hok with q | q
        · omega
        · by_cases e : w' = 2
          · rw [if_pos (by omega)] at hx
            have := q.2.2 (by omega)
            omega
          · rw [if_neg (by omega)] at hx
            omega
    obtain ⟨x', rfl, e2, e3, e4⟩ := hx2
    refine z_withR (fun hR => ?_)
    refine zc_S_150 rfl dX8_make_72 (by decide) (Nat.le_of_ble_eq_true rfl) (sp_Notions_add M (B 0 0) (B 6 0) (B 7) (B 8) (B 9) w' a' x' hnt t20 ⟨by omega, fun z => ⟨by rcases hok with q | q <;> omega, e3 z⟩, fun z => ⟨by rcases hok with q | q <;> omega, e4 z⟩⟩) (fun r72 M72 hq72 => ?_)
    refine z_withR (fun hR => ?_)
    refine z_iret rfl ?_ dX8_make_75
    exact add x' h7 hok e2 r72 M72 hq72
  have bad : ¬ inR w 7 → post (-2) M := by
    intro h7
    rw [hpost]
    unfold fMake gMake
    rw [if_neg h7, if_neg (fun z => h7 z.1)]
    exact ⟨rfl, zfr.rf, h⟩
  refine ziload_5_1 dX8_make_0 ?_
  refine z_if_lt (tgt := 10) (by first | omega | exact hR.1 _ _ (by decide) | exact zrng_toInt _) dX8_make_1 (by decide) (fun h1 => ?_) (fun h1 => ?_)
  · refine z_bipush dX8_make_10 (by decide) ?_
    refine z_iret rfl ?_ dX8_make_12
    exact bad (fun z => by omega)
  · refine ziload_5_1 dX8_make_4 ?_
    refine z_bipush dX8_make_5 (by decide) ?_
    refine z_icmp_le (tgt := 13) (by first | omega | exact hR.1 _ _ (by decide) | exact zrng_toInt _) (by first | omega | exact hR.1 _ _ (by decide) | exact zrng_toInt _) dX8_make_7 (by decide) (fun h7 => ?_) (fun h7 => ?_)
    · refine zaload_5_0 dX8_make_13 ?_
      refine ziload_5_1 dX8_make_14 ?_
      refine ziload_5_2 dX8_make_15 ?_
      refine zc_S_147 rfl dX8_make_16 (by decide) (Nat.le_of_ble_eq_true rfl) (sp_S_isMadeOf M w a hw ha) (fun r16 M16 hq16 => ?_)
      refine z_withR (fun hR => ?_)
      have e16 := hq16.1.symm
      subst e16
      have q16 := hq16.2
      rw [t1, n1] at q16
      have q16 := or_if q16
      have h7 : inR w 7 := ⟨by omega, by omega⟩
      refine z_if_ne (tgt := 24) (or_rng q16) dX8_make_19 (by decide) (fun h19 => ?_) (fun h19 => ?_)
      · have y := or_yes q16 h19
        refine ziload_5_1 dX8_make_24 ?_
        refine z_if_eq (tgt := 33) (by first | omega | exact hR.1 _ _ (by decide) | exact zrng_toInt _) dX8_make_25 (by decide) (fun h25 => ?_) (fun h25 => ?_)
        · have hw2 : w = 0 := h25
          refine z_iconst dX8_make_33 ?_
          refine z_goto (tgt := 38) dX8_make_34 (by decide) ?_
          refine zistore_5_4 dX8_make_38 ?_
          refine ziload_5_4 dX8_make_40 ?_
          refine z_if_eq (tgt := 56) (by first | omega | exact hR.1 _ _ (by decide) | exact zrng_toInt _) dX8_make_42 (by decide) (fun h42 => ?_) (fun h42 => ?_)
          · refine zaload_5_0 dX8_make_56 ?_
            refine zg_S_42 rfl dX8_make_57 ?_
            refine ziload_5_1 dX8_make_60 ?_
            refine ziload_5_2 dX8_make_61 ?_
            refine ziload_5_4 dX8_make_62 ?_
            refine z_if_eq (tgt := 71) (by first | omega | exact hR.1 _ _ (by decide) | exact zrng_toInt _) dX8_make_64 (by decide) (fun h64 => ?_) (fun h64 => ?_)
            · refine z_iconst dX8_make_71 ?_
              first
                | omega
                | (have yb := yb
                   refine fin b _ h7 ?_ (by rw [if_pos (by omega)])
                   by_cases e : w = 0
                   · rw [if_pos e] at y yb; exact Or.inl ⟨e, y, yb⟩
                   · rw [if_neg e] at y yb; exact Or.inr ⟨e, y, fun _ => yb⟩)
                | (refine fin 0 _ h7 ?_ (by rw [if_neg (by omega)])
                   rw [if_neg (by omega)] at y
                   exact Or.inr ⟨by omega, y, fun z => by omega⟩)
            · refine ziload_5_3 dX8_make_67 ?_
              refine z_goto (tgt := 72) dX8_make_68 (by decide) ?_
              first
                | omega
                | (have yb := yb
                   refine fin b _ h7 ?_ (by rw [if_pos (by omega)])
                   by_cases e : w = 0
                   · rw [if_pos e] at y yb; exact Or.inl ⟨e, y, yb⟩
                   · rw [if_neg e] at y yb; exact Or.inr ⟨e, y, fun _ => yb⟩)
                | (refine fin 0 _ h7 ?_ (by rw [if_neg (by omega)])
                   rw [if_neg (by omega)] at y
                   exact Or.inr ⟨by omega, y, fun z => by omega⟩)
          · refine zaload_5_0 dX8_make_45 ?_
            refine ziload_5_1 dX8_make_46 ?_
            refine ziload_5_3 dX8_make_47 ?_
            refine zc_S_147 rfl dX8_make_48 (by decide) (Nat.le_of_ble_eq_true rfl) (sp_S_isMadeOf M w b hw hb) (fun r48 M48 hq48 => ?_)
            refine z_withR (fun hR => ?_)
            have e48 := hq48.1.symm
            subst e48
            have q48 := hq48.2
            rw [t1, n1] at q48
            have q48 := or_if q48
            refine z_if_ne (tgt := 56) (or_rng q48) dX8_make_51 (by decide) (fun h51 => ?_) (fun h51 => ?_)
            · have yb := or_yes q48 h51
              refine zaload_5_0 dX8_make_56 ?_
              refine zg_S_42 rfl dX8_make_57 ?_
              refine ziload_5_1 dX8_make_60 ?_
              refine ziload_5_2 dX8_make_61 ?_
              refine ziload_5_4 dX8_make_62 ?_
              refine z_if_eq (tgt := 71) (by first | omega | exact hR.1 _ _ (by decide) | exact zrng_toInt _) dX8_make_64 (by decide) (fun h64 => ?_) (fun h64 => ?_)
              · refine z_iconst dX8_make_71 ?_
                first
                  | omega
                  | (have yb := yb
                     refine fin b _ h7 ?_ (by rw [if_pos (by omega)])
                     by_cases e : w = 0
                     · rw [if_pos e] at y yb; exact Or.inl ⟨e, y, yb⟩
                     · rw [if_neg e] at y yb; exact Or.inr ⟨e, y, fun _ => yb⟩)
                  | (refine fin 0 _ h7 ?_ (by rw [if_neg (by omega)])
                     rw [if_neg (by omega)] at y
                     exact Or.inr ⟨by omega, y, fun z => by omega⟩)
              · refine ziload_5_3 dX8_make_67 ?_
                refine z_goto (tgt := 72) dX8_make_68 (by decide) ?_
                first
                  | omega
                  | (have yb := yb
                     refine fin b _ h7 ?_ (by rw [if_pos (by omega)])
                     by_cases e : w = 0
                     · rw [if_pos e] at y yb; exact Or.inl ⟨e, y, yb⟩
                     · rw [if_neg e] at y yb; exact Or.inr ⟨e, y, fun _ => yb⟩)
                  | (refine fin 0 _ h7 ?_ (by rw [if_neg (by omega)])
                     rw [if_neg (by omega)] at y
                     exact Or.inr ⟨by omega, y, fun z => by omega⟩)
            · have yb := or_no q48 h51
              refine z_iconst dX8_make_54 ?_
              refine z_iret rfl ?_ dX8_make_55
              refine unk h7 (fun z => yb ?_)
              rcases z with ⟨z1, _, z2⟩ | ⟨z1, _, z2⟩
              · rw [if_pos z1]; exact z2
              · rw [if_neg z1]
                first
                  | exact z2 (by omega)
                  | omega
        · have hw0 : ¬ w = 0 := h25
          refine ziload_5_1 dX8_make_28 ?_
          refine z_iconst dX8_make_29 ?_
          refine z_icmp_ne (tgt := 37) (by first | omega | exact hR.1 _ _ (by decide) | exact zrng_toInt _) (by first | omega | exact hR.1 _ _ (by decide) | exact zrng_toInt _) dX8_make_30 (by decide) (fun h30 => ?_) (fun h30 => ?_)
          · refine z_iconst dX8_make_37 ?_
            refine zistore_5_4 dX8_make_38 ?_
            refine ziload_5_4 dX8_make_40 ?_
            refine z_if_eq (tgt := 56) (by first | omega | exact hR.1 _ _ (by decide) | exact zrng_toInt _) dX8_make_42 (by decide) (fun h42 => ?_) (fun h42 => ?_)
            · refine zaload_5_0 dX8_make_56 ?_
              refine zg_S_42 rfl dX8_make_57 ?_
              refine ziload_5_1 dX8_make_60 ?_
              refine ziload_5_2 dX8_make_61 ?_
              refine ziload_5_4 dX8_make_62 ?_
              refine z_if_eq (tgt := 71) (by first | omega | exact hR.1 _ _ (by decide) | exact zrng_toInt _) dX8_make_64 (by decide) (fun h64 => ?_) (fun h64 => ?_)
              · refine z_iconst dX8_make_71 ?_
                first
                  | omega
                  | (have yb := yb
                     refine fin b _ h7 ?_ (by rw [if_pos (by omega)])
                     by_cases e : w = 0
                     · rw [if_pos e] at y yb; exact Or.inl ⟨e, y, yb⟩
                     · rw [if_neg e] at y yb; exact Or.inr ⟨e, y, fun _ => yb⟩)
                  | (refine fin 0 _ h7 ?_ (by rw [if_neg (by omega)])
                     rw [if_neg (by omega)] at y
                     exact Or.inr ⟨by omega, y, fun z => by omega⟩)
              · refine ziload_5_3 dX8_make_67 ?_
                refine z_goto (tgt := 72) dX8_make_68 (by decide) ?_
                first
                  | omega
                  | (have yb := yb
                     refine fin b _ h7 ?_ (by rw [if_pos (by omega)])
                     by_cases e : w = 0
                     · rw [if_pos e] at y yb; exact Or.inl ⟨e, y, yb⟩
                     · rw [if_neg e] at y yb; exact Or.inr ⟨e, y, fun _ => yb⟩)
                  | (refine fin 0 _ h7 ?_ (by rw [if_neg (by omega)])
                     rw [if_neg (by omega)] at y
                     exact Or.inr ⟨by omega, y, fun z => by omega⟩)
            · refine zaload_5_0 dX8_make_45 ?_
              refine ziload_5_1 dX8_make_46 ?_
              refine ziload_5_3 dX8_make_47 ?_
              refine zc_S_147 rfl dX8_make_48 (by decide) (Nat.le_of_ble_eq_true rfl) (sp_S_isMadeOf M w b hw hb) (fun r48 M48 hq48 => ?_)
              refine z_withR (fun hR => ?_)
              have e48 := hq48.1.symm
              subst e48
              have q48 := hq48.2
              rw [t1, n1] at q48
              have q48 := or_if q48
              refine z_if_ne (tgt := 56) (or_rng q48) dX8_make_51 (by decide) (fun h51 => ?_) (fun h51 => ?_)
              · have yb := or_yes q48 h51
                refine zaload_5_0 dX8_make_56 ?_
                refine zg_S_42 rfl dX8_make_57 ?_
                refine ziload_5_1 dX8_make_60 ?_
                refine ziload_5_2 dX8_make_61 ?_
                refine ziload_5_4 dX8_make_62 ?_
                refine z_if_eq (tgt := 71) (by first | omega | exact hR.1 _ _ (by decide) | exact zrng_toInt _) dX8_make_64 (by decide) (fun h64 => ?_) (fun h64 => ?_)
                · refine z_iconst dX8_make_71 ?_
                  first
                    | omega
                    | (have yb := yb
                       refine fin b _ h7 ?_ (by rw [if_pos (by omega)])
                       by_cases e : w = 0
                       · rw [if_pos e] at y yb; exact Or.inl ⟨e, y, yb⟩
                       · rw [if_neg e] at y yb; exact Or.inr ⟨e, y, fun _ => yb⟩)
                    | (refine fin 0 _ h7 ?_ (by rw [if_neg (by omega)])
                       rw [if_neg (by omega)] at y
                       exact Or.inr ⟨by omega, y, fun z => by omega⟩)
                · refine ziload_5_3 dX8_make_67 ?_
                  refine z_goto (tgt := 72) dX8_make_68 (by decide) ?_
                  first
                    | omega
                    | (have yb := yb
                       refine fin b _ h7 ?_ (by rw [if_pos (by omega)])
                       by_cases e : w = 0
                       · rw [if_pos e] at y yb; exact Or.inl ⟨e, y, yb⟩
                       · rw [if_neg e] at y yb; exact Or.inr ⟨e, y, fun _ => yb⟩)
                    | (refine fin 0 _ h7 ?_ (by rw [if_neg (by omega)])
                       rw [if_neg (by omega)] at y
                       exact Or.inr ⟨by omega, y, fun z => by omega⟩)
              · have yb := or_no q48 h51
                refine z_iconst dX8_make_54 ?_
                refine z_iret rfl ?_ dX8_make_55
                refine unk h7 (fun z => yb ?_)
                rcases z with ⟨z1, _, z2⟩ | ⟨z1, _, z2⟩
                · rw [if_pos z1]; exact z2
                · rw [if_neg z1]
                  first
                    | exact z2 (by omega)
                    | omega
          · refine z_iconst dX8_make_33 ?_
            refine z_goto (tgt := 38) dX8_make_34 (by decide) ?_
            refine zistore_5_4 dX8_make_38 ?_
            refine ziload_5_4 dX8_make_40 ?_
            refine z_if_eq (tgt := 56) (by first | omega | exact hR.1 _ _ (by decide) | exact zrng_toInt _) dX8_make_42 (by decide) (fun h42 => ?_) (fun h42 => ?_)
            · refine zaload_5_0 dX8_make_56 ?_
              refine zg_S_42 rfl dX8_make_57 ?_
              refine ziload_5_1 dX8_make_60 ?_
              refine ziload_5_2 dX8_make_61 ?_
              refine ziload_5_4 dX8_make_62 ?_
              refine z_if_eq (tgt := 71) (by first | omega | exact hR.1 _ _ (by decide) | exact zrng_toInt _) dX8_make_64 (by decide) (fun h64 => ?_) (fun h64 => ?_)
              · refine z_iconst dX8_make_71 ?_
                first
                  | omega
                  | (have yb := yb
                     refine fin b _ h7 ?_ (by rw [if_pos (by omega)])
                     by_cases e : w = 0
                     · rw [if_pos e] at y yb; exact Or.inl ⟨e, y, yb⟩
                     · rw [if_neg e] at y yb; exact Or.inr ⟨e, y, fun _ => yb⟩)
                  | (refine fin 0 _ h7 ?_ (by rw [if_neg (by omega)])
                     rw [if_neg (by omega)] at y
                     exact Or.inr ⟨by omega, y, fun z => by omega⟩)
              · refine ziload_5_3 dX8_make_67 ?_
                refine z_goto (tgt := 72) dX8_make_68 (by decide) ?_
                first
                  | omega
                  | (have yb := yb
                     refine fin b _ h7 ?_ (by rw [if_pos (by omega)])
                     by_cases e : w = 0
                     · rw [if_pos e] at y yb; exact Or.inl ⟨e, y, yb⟩
                     · rw [if_neg e] at y yb; exact Or.inr ⟨e, y, fun _ => yb⟩)
                  | (refine fin 0 _ h7 ?_ (by rw [if_neg (by omega)])
                     rw [if_neg (by omega)] at y
                     exact Or.inr ⟨by omega, y, fun z => by omega⟩)
            · refine zaload_5_0 dX8_make_45 ?_
              refine ziload_5_1 dX8_make_46 ?_
              refine ziload_5_3 dX8_make_47 ?_
              refine zc_S_147 rfl dX8_make_48 (by decide) (Nat.le_of_ble_eq_true rfl) (sp_S_isMadeOf M w b hw hb) (fun r48 M48 hq48 => ?_)
              refine z_withR (fun hR => ?_)
              have e48 := hq48.1.symm
              subst e48
              have q48 := hq48.2
              rw [t1, n1] at q48
              have q48 := or_if q48
              refine z_if_ne (tgt := 56) (or_rng q48) dX8_make_51 (by decide) (fun h51 => ?_) (fun h51 => ?_)
              · have yb := or_yes q48 h51
                refine zaload_5_0 dX8_make_56 ?_
                refine zg_S_42 rfl dX8_make_57 ?_
                refine ziload_5_1 dX8_make_60 ?_
                refine ziload_5_2 dX8_make_61 ?_
                refine ziload_5_4 dX8_make_62 ?_
                refine z_if_eq (tgt := 71) (by first | omega | exact hR.1 _ _ (by decide) | exact zrng_toInt _) dX8_make_64 (by decide) (fun h64 => ?_) (fun h64 => ?_)
                · refine z_iconst dX8_make_71 ?_
                  first
                    | omega
                    | (have yb := yb
                       refine fin b _ h7 ?_ (by rw [if_pos (by omega)])
                       by_cases e : w = 0
                       · rw [if_pos e] at y yb; exact Or.inl ⟨e, y, yb⟩
                       · rw [if_neg e] at y yb; exact Or.inr ⟨e, y, fun _ => yb⟩)
                    | (refine fin 0 _ h7 ?_ (by rw [if_neg (by omega)])
                       rw [if_neg (by omega)] at y
                       exact Or.inr ⟨by omega, y, fun z => by omega⟩)
                · refine ziload_5_3 dX8_make_67 ?_
                  refine z_goto (tgt := 72) dX8_make_68 (by decide) ?_
                  first
                    | omega
                    | (have yb := yb
                       refine fin b _ h7 ?_ (by rw [if_pos (by omega)])
                       by_cases e : w = 0
                       · rw [if_pos e] at y yb; exact Or.inl ⟨e, y, yb⟩
                       · rw [if_neg e] at y yb; exact Or.inr ⟨e, y, fun _ => yb⟩)
                    | (refine fin 0 _ h7 ?_ (by rw [if_neg (by omega)])
                       rw [if_neg (by omega)] at y
                       exact Or.inr ⟨by omega, y, fun z => by omega⟩)
              · have yb := or_no q48 h51
                refine z_iconst dX8_make_54 ?_
                refine z_iret rfl ?_ dX8_make_55
                refine unk h7 (fun z => yb ?_)
                rcases z with ⟨z1, _, z2⟩ | ⟨z1, _, z2⟩
                · rw [if_pos z1]; exact z2
                · rw [if_neg z1]
                  first
                    | exact z2 (by omega)
                    | omega
      · have y := or_no q16 h19
        refine z_iconst dX8_make_22 ?_
        refine z_iret rfl ?_ dX8_make_23
        refine unk h7 (fun z => y ?_)
        rcases z with ⟨z1, z2, _⟩ | ⟨z1, z2, _⟩
        · rw [if_pos z1]; exact z2
        · rw [if_neg z1]; exact z2
    · refine z_bipush dX8_make_10 (by decide) ?_
      refine z_iret rfl ?_ dX8_make_12
      exact bad (fun z => by omega)
theorem abC.other {M M' : zMem} {B B' : Nat → Nat → Nat} (h : abC M B) (hf : zfr [8, 26] M M') (hb : ∀ c, c ≠ 10 → c ≠ 11 → B' c = B c) (haw : awM M' (B 6 0) (bAw B')) (hpt : ∀ i, i < 3 → M' 8 i = B' 11 i ∧ B' 11 i ≤ 9) : abC M' B' := by
  obtain ⟨⟨h1, h2, h3, h4, h5, h6, h7, h8⟩, hO, hK⟩ := h
  have b0 := hb 0 (by decide) (by decide)
  have b1 := hb 1 (by decide) (by decide)
  have b2 := hb 2 (by decide) (by decide)
  have b3 := hb 3 (by decide) (by decide)
  have b4 := hb 4 (by decide) (by decide)
  have b5 := hb 5 (by decide) (by decide)
  have b6 := hb 6 (by decide) (by decide)
  have b7 := hb 7 (by decide) (by decide)
  have b8 := hb 8 (by decide) (by decide)
  have b9 := hb 9 (by decide) (by decide)
  have b12 := hb 12 (by decide) (by decide)
  have b13 := hb 13 (by decide) (by decide)
  have b14 := hb 14 (by decide) (by decide)
  refine ⟨⟨?_, ?_, ?_, ?_, ?_, hpt, ?_, ?_⟩, ?_, (hK.fr hf (by decide)).re (by rw [b3]) (by rw [b6]; exact Nat.le_refl _) (fun e l hl => by rw [b1, b2, b4, b5]) (fun s e hs => by unfold sK; rw [b1, b2, b12, b13, b14]) (fun e i hi => by unfold bS; rw [b1, b2, b7, b8, b9])⟩
  · rw [b0, b1, b2]; exact h1.fr hf (by decide) (by decide) (by decide) (by decide)
  · rw [b0, b1, b2]; exact h2
  · rw [b0, b3, b4, b5]; exact h3.fr hf (by decide) (by decide) (by decide)
  · rw [b0, b6, b7, b8, b9]; exact h4.fr hf (by decide) (by decide) (by decide) (by decide) (by decide) (by decide)
  · rw [b6]; exact haw
  · rw [b0, b12, b13, b14]; exact h7
  · rw [hf 10 (by decide), hf 11 (by decide)]; exact h8
  · unfold abO
    rw [b0, b1, b2, b3, b4, b5]
    exact hO.fr hf (by decide)
noncomputable def fWeigh (B : Nat → Nat → Nat) (w v : Int) : Int := if inR w 3 ∧ inR v 10 then (B 11 w.toNat : Int) else -2
noncomputable def gWeigh (B : Nat → Nat → Nat) (w v : Int) : Nat → Nat → Nat := if inR w 3 ∧ inR v 10 then bs B 11 w.toNat v.toNat else B
theorem sp_S_weigh (M : zMem) (B : Nat → Nat → Nat) (w v : Int) (hw : zrng w) (hv : zrng v) (h : abC M B) : zSp zd_S_weigh 0 [zr 0, zi w, zi v] M (fun r M' => cOK M M' (gWeigh B w v) r (fWeigh B w v)) := by
  refine zSp_in 1 [some (zr 0), some (zi w), some (zi v), none] rfl rfl (by decide +kernel) rfl ?_
  refine z_withR (fun hR => ?_)
  have hpt := h.1.2.2.2.2.2.1
  refine ziload_4_1 dX8_weigh_0 ?_
  refine z_if_lt (tgt := 19) (by first | omega | exact hR.1 _ _ (by decide) | exact zrng_toInt _) dX8_weigh_1 (by decide) (fun h1 => ?_) (fun h1 => ?_)
  · refine z_bipush dX8_weigh_19 (by decide) ?_
    refine z_iret rfl ?_ dX8_weigh_21
    unfold fWeigh gWeigh
    rw [if_neg (fun z => by omega), if_neg (fun z => by omega)]
    exact ⟨rfl, zfr.rf, h⟩
  · refine ziload_4_1 dX8_weigh_4 ?_
    refine z_iconst dX8_weigh_5 ?_
    refine z_icmp_ge (tgt := 19) (by first | omega | exact hR.1 _ _ (by decide) | exact zrng_toInt _) (by first | omega | exact hR.1 _ _ (by decide) | exact zrng_toInt _) dX8_weigh_6 (by decide) (fun h6 => ?_) (fun h6 => ?_)
    · refine z_bipush dX8_weigh_19 (by decide) ?_
      refine z_iret rfl ?_ dX8_weigh_21
      unfold fWeigh gWeigh
      rw [if_neg (fun z => by omega), if_neg (fun z => by omega)]
      exact ⟨rfl, zfr.rf, h⟩
    · refine ziload_4_2 dX8_weigh_9 ?_
      refine z_if_lt (tgt := 19) (by first | omega | exact hR.1 _ _ (by decide) | exact zrng_toInt _) dX8_weigh_10 (by decide) (fun h10 => ?_) (fun h10 => ?_)
      · refine z_bipush dX8_weigh_19 (by decide) ?_
        refine z_iret rfl ?_ dX8_weigh_21
        unfold fWeigh gWeigh
        rw [if_neg (fun z => by omega), if_neg (fun z => by omega)]
        exact ⟨rfl, zfr.rf, h⟩
      · refine ziload_4_2 dX8_weigh_13 ?_
        refine z_bipush dX8_weigh_14 (by decide) ?_
        refine z_icmp_le (tgt := 22) (by first | omega | exact hR.1 _ _ (by decide) | exact zrng_toInt _) (by first | omega | exact hR.1 _ _ (by decide) | exact zrng_toInt _) dX8_weigh_16 (by decide) (fun h16 => ?_) (fun h16 => ?_)
        · have hin : inR w 3 ∧ inR v 10 := ⟨⟨by omega, by omega⟩, by omega, by omega⟩
          obtain ⟨w', rfl⟩ : ∃ w' : Nat, w = w' := ⟨w.toNat, by omega⟩
          obtain ⟨v', rfl⟩ : ∃ v' : Nat, v = v' := ⟨v.toNat, by omega⟩
          refine zaload_4_0 dX8_weigh_22 ?_
          refine zg_S_62 rfl dX8_weigh_23 ?_
          refine ziload_4_1 dX8_weigh_26 ?_
          refine z_iald _ rfl (by decide) (by decide) rfl (by omega) dX8_weigh_27 ?_
          refine zistore_4_3 dX8_weigh_28 ?_
          refine zaload_4_0 dX8_weigh_29 ?_
          refine zg_S_62 rfl dX8_weigh_30 ?_
          refine ziload_4_1 dX8_weigh_33 ?_
          refine ziload_4_2 dX8_weigh_34 ?_
          refine z_iast _ (by decide) rfl (by decide) (by decide) rfl (by omega) (by first | omega | exact hR.1 _ _ (by decide) | exact zrng_toInt _) dX8_weigh_35 ?_
          refine z_withR (fun hR => ?_)
          refine ziload_4_3 dX8_weigh_36 ?_
          refine z_iret rfl ?_ dX8_weigh_37
          unfold fWeigh gWeigh
          rw [if_pos hin, if_pos hin, Int.toNat_natCast, Int.toNat_natCast]
          refine ⟨(hpt w' (by omega)).1, zfr.rf.mu (by decide), h.other (zfr.rf.mu (by decide)) (fun c h10 h11 => if_neg h11) ?_ (fun i hi => ?_)⟩
          · exact h.1.2.2.2.2.1.fr (zfr.rf.mu (by decide) : zfr [8] M _) (by decide)
          · show _ = ((fup (B 11) w' v' i : Nat) : Int) ∧ fup (B 11) w' v' i ≤ 9
            by_cases e : i = w'
            · rw [e, zmu_same, fup_s]; exact ⟨rfl, by omega⟩
            · rw [zmu_ne _ _ _ _ e, fup_n e]; exact hpt i hi
        · refine z_bipush dX8_weigh_19 (by decide) ?_
          refine z_iret rfl ?_ dX8_weigh_21
          unfold fWeigh gWeigh
          rw [if_neg (fun z => by omega), if_neg (fun z => by omega)]
          exact ⟨rfl, zfr.rf, h⟩
noncomputable def fWake (B : Nat → Nat → Nat) (n : Int) : Int := if inR n (B 6 0) then (if bAw B n.toNat then 1 else 0) else -1
noncomputable def gWake (B : Nat → Nat → Nat) (n : Int) (o : Bool) : Nat → Nat → Nat := if inR n (B 6 0) then bs B 10 n.toNat (if o then 1 else 0) else B
theorem sp_S_wake (M : zMem) (B : Nat → Nat → Nat) (n : Int) (o : Bool) (hn : zrng n) (h : abC M B) : zSp zd_S_wake 1 [zr 0, zi n, zi (if o then 1 else 0)] M (fun r M' => cOK M M' (gWake B n o) r (fWake B n)) := by
  refine zSp_in 1 [some (zr 0), some (zi n), some (zi (if o then 1 else 0)), none] rfl rfl (by decide +kernel) rfl ?_
  refine z_withR (fun hR => ?_)
  have n1 := h.1.2.2.2.1.1
  have n12 := h.1.2.2.2.1.2.1
  have haw := h.1.2.2.2.2.1
  have goal : ∀ n' : Nat, n' < B 6 0 → abC (zmu M 26 n' (if o then 1 else 0)) (bs B 10 n' (if o then 1 else 0)) := by
    intro n' hn'
    refine h.other (zfr.rf.mu (by decide)) (fun c h10 h11 => if_neg h10) (fun i hi => ?_) (fun i hi => ?_)
    · unfold bAw
      show _ = if (fup (B 10) n' (if o then 1 else 0) i == 1) = true then (1 : Int) else 0
      by_cases e : i = n'
      · rw [e, zmu_same, fup_s]
        cases o <;> rfl
      · rw [zmu_ne _ _ _ _ e, fup_n e]
        exact haw i hi
    · rw [zmu_other _ _ _ _ (by decide)]
      exact h.1.2.2.2.2.2.1 i hi
  refine zaload_4_0 dX8_wake_0 ?_
  refine zg_S_42 rfl dX8_wake_1 ?_
  refine ziload_4_1 dX8_wake_4 ?_
  refine zc_S_152 rfl dX8_wake_5 (by decide) (Nat.le_of_ble_eq_true rfl) (sp_Notions_has M n hn) (fun r5 M5 hq5 => ?_)
  refine z_withR (fun hR => ?_)
  have e5 := hq5.1.symm
  subst e5
  have q5 := hq5.2
  rw [n1] at q5
  have q5 := or_if q5
  refine z_if_ne (tgt := 13) (or_rng q5) dX8_wake_8 (by decide) (fun h8 => ?_) (fun h8 => ?_)
  · have y := or_yes q5 h8
    obtain ⟨n', rfl⟩ : ∃ n' : Nat, n = n' := ⟨n.toNat, by omega⟩
    have hA := haw n' (by omega)
    refine zaload_4_0 dX8_wake_13 ?_
    refine zg_S_42 rfl dX8_wake_14 ?_
    refine zg_S_178 rfl dX8_wake_17 ?_
    refine ziload_4_1 dX8_wake_20 ?_
    refine z_zald _ rfl (by decide) (by decide) rfl (by omega) dX8_wake_21 ?_
    refine z_top hA ?_
    refine z_if_eq (tgt := 29) (by split <;> decide) dX8_wake_22 (by decide) (fun h22 => ?_) (fun h22 => ?_)
    · refine z_iconst dX8_wake_29 ?_
      refine zistore_4_3 dX8_wake_30 ?_
      refine zaload_4_0 dX8_wake_31 ?_
      refine zg_S_42 rfl dX8_wake_32 ?_
      refine zg_S_178 rfl dX8_wake_35 ?_
      refine ziload_4_1 dX8_wake_38 ?_
      refine ziload_4_2 dX8_wake_39 ?_
      refine z_zast _ (by decide) rfl (by decide) (by decide) rfl (by omega) (by cases o <;> decide) dX8_wake_40 ?_
      refine z_withR (fun hR => ?_)
      refine ziload_4_3 dX8_wake_41 ?_
      refine z_iret rfl ?_ dX8_wake_42
      unfold fWake gWake
      rw [if_pos y, if_pos y, Int.toNat_natCast]
      refine ⟨?_, zfr.rf.mu (by decide), goal n' (by omega)⟩
      first
        | (rw [if_pos (by by_cases z : bAw B n' = true; exact z; rw [if_neg z] at h22; exact absurd rfl h22)]; done)
        | (rw [if_neg (fun z => by rw [if_pos z] at h22; exact absurd h22 (by decide))]; done)
    · refine z_iconst dX8_wake_25 ?_
      refine z_goto (tgt := 30) dX8_wake_26 (by decide) ?_
      refine zistore_4_3 dX8_wake_30 ?_
      refine zaload_4_0 dX8_wake_31 ?_
      refine zg_S_42 rfl dX8_wake_32 ?_
      refine zg_S_178 rfl dX8_wake_35 ?_
      refine ziload_4_1 dX8_wake_38 ?_
      refine ziload_4_2 dX8_wake_39 ?_
      refine z_zast _ (by decide) rfl (by decide) (by decide) rfl (by omega) (by cases o <;> decide) dX8_wake_40 ?_
      refine z_withR (fun hR => ?_)
      refine ziload_4_3 dX8_wake_41 ?_
      refine z_iret rfl ?_ dX8_wake_42
      unfold fWake gWake
      rw [if_pos y, if_pos y, Int.toNat_natCast]
      refine ⟨?_, zfr.rf.mu (by decide), goal n' (by omega)⟩
      first
        | (rw [if_pos (by by_cases z : bAw B n' = true; exact z; rw [if_neg z] at h22; exact absurd rfl h22)]; done)
        | (rw [if_neg (fun z => by rw [if_pos z] at h22; exact absurd h22 (by decide))]; done)
  · have y := or_no q5 h8
    refine z_iconst dX8_wake_11 ?_
    refine z_iret rfl ?_ dX8_wake_12
    unfold fWake gWake
    rw [if_neg y, if_neg y]
    exact ⟨rfl, zfr.rf, h⟩
