def tmR (M : zMem) (L R : Nat → Nat) (T : Nat) : Prop := M 9 0 = T ∧ 3 ≤ T ∧ T ≤ 20 ∧ wfT L R T ∧ ∀ t, 3 ≤ t → t < T → M 35 t = L t ∧ M 36 t = R t
theorem tmR.fr {S : List Nat} {M M' : zMem} {L R : Nat → Nat} {T : Nat} (h : tmR M L R T) (hf : zfr S M M') (h9 : M' 9 0 = M 9 0) (h35 : 35 ∉ S) (h36 : 36 ∉ S) : tmR M' L R T := by
  unfold tmR
  rw [h9, hf _ h35, hf _ h36]
  exact h
/-- what is wanted is closed -/
def wnR (M : zMem) (L R : Nat → Nat) (T a b : Nat) : Prop := (∀ t, t < 20 → M 42 t = 0 ∨ M 42 t = 1) ∧ M 42 a = 1 ∧ M 42 b = 1 ∧ ∀ t, 3 ≤ t → t < T → M 42 t = 1 → M 42 (L t) = 1 ∧ M 42 (R t) = 1
theorem wnR.fr {S : List Nat} {M M' : zMem} {L R : Nat → Nat} {T a b : Nat} (h : wnR M L R T a b) (hf : zfr S M M') (h42 : 42 ∉ S) : wnR M' L R T a b := by
  unfold wnR
  rw [hf _ h42]
  exact h
theorem tbR.fr {S : List Nat} {M M' : zMem} {n k : Nat} (h : tbR M n k) (hf : zfr S M M') (h9 : M' 9 8 = M 9 8) (h40 : 40 ∉ S) : tbR M' n k := by
  unfold tbR
  rw [h9, hf _ h40]
  exact h
theorem sp_Model_want (M : zMem) (L R : Nat → Nat) (T a b : Nat) (hT : tmR M L R T) (ha : a < T) (hb : b < T) : zSp zd_Model_want 0 [zr 9, zi a, zi b] M (fun _ M' => zfr [42] M M' ∧ wnR M' L R T a b) := by
  refine zSp_in 1 [some (zr 9), some (zi a), some (zi b), none] rfl rfl (by decide +kernel) rfl ?_
  refine z_withR (fun hR => ?_)
  obtain ⟨t1, t2, t3, t4, t5⟩ := hT
  obtain ⟨post, hpost⟩ : ∃ post : Int → zMem → Prop, post = (fun (_ : Int) M' => zfr [42] M M' ∧ wnR M' L R T a b) := ⟨_, rfl⟩
  rw [← hpost]
  have up : ∀ (M1 : zMem) (i : Nat), (∀ t, t < 20 → M1 42 t = 0 ∨ M1 42 t = 1) → (∀ t, t < 20 → zmu M1 42 i 1 42 t = 0 ∨ zmu M1 42 i 1 42 t = 1) ∧ (∀ t, M1 42 t = 1 → zmu M1 42 i 1 42 t = 1) ∧ (∀ t, t ≠ i → zmu M1 42 i 1 42 t = 1 → M1 42 t = 1) := by
    intro M1 i h
    refine ⟨fun t ht => ?_, fun t ht => ?_, fun t ht h1 => ?_⟩
    · by_cases e : t = i
      · rw [e, zmu_same]; exact Or.inr rfl
      · rw [zmu_ne _ _ _ _ e]; exact h t ht
    · by_cases e : t = i
      · rw [e, zmu_same]
      · rw [zmu_ne _ _ _ _ e]; exact ht
    · rw [zmu_ne _ _ _ _ ht] at h1; exact h1
  have loop2 : ∀ (c t : Nat) (M1 : zMem), t = c + 2 → t < T → zfr [42] M M1 → (∀ t, t < 20 → M1 42 t = 0 ∨ M1 42 t = 1) → M1 42 a = 1 → M1 42 b = 1 → (∀ u, t < u → u < T → M1 42 u = 1 → M1 42 (L u) = 1 ∧ M1 42 (R u) = 1) → zV zd_Model_want 0 42 [some (zr 9), some (zi a), some (zi b), some (zi t)] [] M1 post := by
    intro c
    induction c with
    | zero =>
      intro t M1 ht htT hf h01 h1 h2 hc
      refine z_withR (fun hR => ?_)
      refine ziload_4_3 dX9_want_42 ?_
      refine z_iconst dX9_want_43 ?_
      refine z_icmp_le (tgt := 86) (by first | omega | exact hR.1 _ _ (by decide) | exact zrng_toInt _) (by first | omega | exact hR.1 _ _ (by decide) | exact zrng_toInt _) dX9_want_44 (by decide) (fun h44 => ?_) (fun h44 => ?_)
      · refine z_vret rfl ?_ dX9_want_86
        rw [hpost]
        exact ⟨hf, h01, h1, h2, fun u h3 hu => hc u (by omega) hu⟩
      · omega
    | succ c ih =>
      intro t M1 ht htT hf h01 h1 h2 hc
      obtain ⟨wl, wr⟩ := t4 t (by omega) htT
      have eL : M1 35 t = L t := by rw [hf 35 (by decide)]; exact (t5 t (by omega) htT).1
      have eR : zmu M1 42 (L t) 1 36 t = R t := by rw [zmu_other _ _ _ _ (by decide), hf 36 (by decide)]; exact (t5 t (by omega) htT).2
      have h0t := h01 t (by omega)
      refine z_withR (fun hR => ?_)
      refine ziload_4_3 dX9_want_42 ?_
      refine z_iconst dX9_want_43 ?_
      refine z_icmp_le (tgt := 86) (by first | omega | exact hR.1 _ _ (by decide) | exact zrng_toInt _) (by first | omega | exact hR.1 _ _ (by decide) | exact zrng_toInt _) dX9_want_44 (by decide) (fun h44 => ?_) (fun h44 => ?_)
      · omega
      · refine zaload_4_0 dX9_want_47 ?_
        refine zg_Model_35 rfl dX9_want_48 ?_
        refine ziload_4_3 dX9_want_51 ?_
        refine z_zald _ rfl (by decide) (by decide) rfl (by omega) dX9_want_52 ?_
        refine z_if_eq (tgt := 80) (by first | omega | exact hR.1 _ _ (by decide) | exact zrng_toInt _) dX9_want_53 (by decide) (fun h53 => ?_) (fun h53 => ?_)
        · refine ziinc_4_3 dX9_want_80 ?_
          rw [show (t : Int) + -1 = ((t - 1 : Nat) : Int) by omega]
          refine z_goto (tgt := 42) dX9_want_83 (by decide) ?_
          first
            | (exfalso; omega)
            | exact ih (t - 1) M1 (by omega) (by omega) hf h01 h1 h2 (fun u hu huT h => by
                by_cases e : u = t
                · rw [e] at h; omega
                · exact hc u (by omega) huT h)
            | (obtain ⟨u1, u2, u3⟩ := up M1 (L t) h01
               obtain ⟨v1, v2, v3⟩ := up (zmu M1 42 (L t) 1) (R t) u1
               refine ih (t - 1) _ (by omega) (by omega) ((hf.mu (by decide)).mu (by decide)) v1 (v2 _ (u2 _ h1)) (v2 _ (u2 _ h2)) (fun u hu huT h => ?_)
               by_cases e : u = t
               · rw [e]
                 exact ⟨v2 _ (zmu_same _ _ _ _), zmu_same _ _ _ _⟩
               · have h3 := hc u (by omega) huT (u3 u (by omega) (v3 u (by omega) h))
                 exact ⟨v2 _ (u2 _ h3.1), v2 _ (u2 _ h3.2)⟩)
        · refine zaload_4_0 dX9_want_56 ?_
          refine zg_Model_35 rfl dX9_want_57 ?_
          refine zaload_4_0 dX9_want_60 ?_
          refine zg_Model_13 rfl dX9_want_61 ?_
          refine ziload_4_3 dX9_want_64 ?_
          refine z_iald _ rfl (by decide) (by decide) rfl (by omega) dX9_want_65 ?_
          refine z_top eL ?_
          refine z_iconst dX9_want_66 ?_
          refine z_zast (L t) (by decide) rfl (by decide) (by decide) (by omega) (by omega) (by first | omega | exact hR.1 _ _ (by decide) | exact zrng_toInt _) dX9_want_67 ?_
          refine z_withR (fun hR => ?_)
          refine zaload_4_0 dX9_want_68 ?_
          refine zg_Model_35 rfl dX9_want_69 ?_
          refine zaload_4_0 dX9_want_72 ?_
          refine zg_Model_17 rfl dX9_want_73 ?_
          refine ziload_4_3 dX9_want_76 ?_
          refine z_iald _ rfl (by decide) (by decide) rfl (by omega) dX9_want_77 ?_
          refine z_top eR ?_
          refine z_iconst dX9_want_78 ?_
          refine z_zast (R t) (by decide) rfl (by decide) (by decide) (by omega) (by omega) (by first | omega | exact hR.1 _ _ (by decide) | exact zrng_toInt _) dX9_want_79 ?_
          refine z_withR (fun hR => ?_)
          refine ziinc_4_3 dX9_want_80 ?_
          rw [show (t : Int) + -1 = ((t - 1 : Nat) : Int) by omega]
          refine z_goto (tgt := 42) dX9_want_83 (by decide) ?_
          first
            | (exfalso; omega)
            | exact ih (t - 1) M1 (by omega) (by omega) hf h01 h1 h2 (fun u hu huT h => by
                by_cases e : u = t
                · rw [e] at h; omega
                · exact hc u (by omega) huT h)
            | (obtain ⟨u1, u2, u3⟩ := up M1 (L t) h01
               obtain ⟨v1, v2, v3⟩ := up (zmu M1 42 (L t) 1) (R t) u1
               refine ih (t - 1) _ (by omega) (by omega) ((hf.mu (by decide)).mu (by decide)) v1 (v2 _ (u2 _ h1)) (v2 _ (u2 _ h2)) (fun u hu huT h => ?_)
               by_cases e : u = t
               · rw [e]
                 exact ⟨v2 _ (zmu_same _ _ _ _), zmu_same _ _ _ _⟩
               · have h3 := hc u (by omega) huT (u3 u (by omega) (v3 u (by omega) h))
                 exact ⟨v2 _ (u2 _ h3.1), v2 _ (u2 _ h3.2)⟩)
  have loop1 : ∀ (c i : Nat) (M1 : zMem), i + c = 20 → zfr [42] M M1 → (∀ t, t < i → M1 42 t = if t = a ∨ t = b then 1 else 0) → zV zd_Model_want 0 2 [some (zr 9), some (zi a), some (zi b), some (zi i)] [] M1 post := by
    intro c
    induction c with
    | zero =>
      intro i M1 hi hf hw
      have hs : M1 9 0 = T := by rw [hf 9 (by decide)]; exact t1
      refine z_withR (fun hR => ?_)
      refine ziload_4_3 dX9_want_2 ?_
      refine z_bipush dX9_want_3 (by decide) ?_
      refine z_icmp_ge (tgt := 35) (by first | omega | exact hR.1 _ _ (by decide) | exact zrng_toInt _) (by first | omega | exact hR.1 _ _ (by decide) | exact zrng_toInt _) dX9_want_5 (by decide) (fun h5 => ?_) (fun h5 => ?_)
      · refine zaload_4_0 dX9_want_35 ?_
        refine zg_Model_7 rfl dX9_want_36 ?_
        refine z_top hs ?_
        refine z_iconst dX9_want_39 ?_
        refine z_isub dX9_want_40 ?_
        rw [show (T : Int) - 1 = ((T - 1 : Nat) : Int) by omega]
        refine zistore_4_3 dX9_want_41 ?_
        refine loop2 (T - 3) (T - 1) M1 (by omega) (by omega) hf (fun t ht => ?_) ?_ ?_ (fun u hu huT => by omega)
        · rw [hw t (by omega)]; split <;> simp
        · rw [hw a (by omega), if_pos (Or.inl rfl)]
        · rw [hw b (by omega), if_pos (Or.inr rfl)]
      · omega
    | succ c ih =>
      intro i M1 hi hf hw
      refine z_withR (fun hR => ?_)
      refine ziload_4_3 dX9_want_2 ?_
      refine z_bipush dX9_want_3 (by decide) ?_
      refine z_icmp_ge (tgt := 35) (by first | omega | exact hR.1 _ _ (by decide) | exact zrng_toInt _) (by first | omega | exact hR.1 _ _ (by decide) | exact zrng_toInt _) dX9_want_5 (by decide) (fun h5 => ?_) (fun h5 => ?_)
      · omega
      · refine zaload_4_0 dX9_want_8 ?_
        refine zg_Model_35 rfl dX9_want_9 ?_
        refine ziload_4_3 dX9_want_12 ?_
        refine ziload_4_3 dX9_want_13 ?_
        refine ziload_4_1 dX9_want_14 ?_
        refine z_icmp_eq (tgt := 23) (by first | omega | exact hR.1 _ _ (by decide) | exact zrng_toInt _) (by first | omega | exact hR.1 _ _ (by decide) | exact zrng_toInt _) dX9_want_15 (by decide) (fun h15 => ?_) (fun h15 => ?_)
        · have z1 : (if (i = a ∨ i = b) then (1 : Int) else 0) = 1 := if_pos (by omega)
          refine z_iconst dX9_want_23 ?_
          refine z_goto (tgt := 28) dX9_want_24 (by decide) ?_
          refine z_zast _ (by decide) rfl (by decide) (by decide) rfl (by omega) (by first | omega | exact hR.1 _ _ (by decide) | exact zrng_toInt _) dX9_want_28 ?_
          refine z_withR (fun hR => ?_)
          refine ziinc_4_3 dX9_want_29 ?_
          refine z_goto (tgt := 2) dX9_want_32 (by decide) ?_
          refine ih (i + 1) _ (by omega) (hf.mu (by decide)) (fun t ht => ?_)
          by_cases e : t = i
          · rw [e, zmu_same, z1]
          · rw [zmu_ne _ _ _ _ e]; exact hw t (by omega)
        · refine ziload_4_3 dX9_want_18 ?_
          refine ziload_4_2 dX9_want_19 ?_
          refine z_icmp_ne (tgt := 27) (by first | omega | exact hR.1 _ _ (by decide) | exact zrng_toInt _) (by first | omega | exact hR.1 _ _ (by decide) | exact zrng_toInt _) dX9_want_20 (by decide) (fun h20 => ?_) (fun h20 => ?_)
          · have z1 : (if (i = a ∨ i = b) then (1 : Int) else 0) = 0 := if_neg (by omega)
            refine z_iconst dX9_want_27 ?_
            refine z_zast _ (by decide) rfl (by decide) (by decide) rfl (by omega) (by first | omega | exact hR.1 _ _ (by decide) | exact zrng_toInt _) dX9_want_28 ?_
            refine z_withR (fun hR => ?_)
            refine ziinc_4_3 dX9_want_29 ?_
            refine z_goto (tgt := 2) dX9_want_32 (by decide) ?_
            refine ih (i + 1) _ (by omega) (hf.mu (by decide)) (fun t ht => ?_)
            by_cases e : t = i
            · rw [e, zmu_same, z1]
            · rw [zmu_ne _ _ _ _ e]; exact hw t (by omega)
          · have z1 : (if (i = a ∨ i = b) then (1 : Int) else 0) = 1 := if_pos (by omega)
            refine z_iconst dX9_want_23 ?_
            refine z_goto (tgt := 28) dX9_want_24 (by decide) ?_
            refine z_zast _ (by decide) rfl (by decide) (by decide) rfl (by omega) (by first | omega | exact hR.1 _ _ (by decide) | exact zrng_toInt _) dX9_want_28 ?_
            refine z_withR (fun hR => ?_)
            refine ziinc_4_3 dX9_want_29 ?_
            refine z_goto (tgt := 2) dX9_want_32 (by decide) ?_
            refine ih (i + 1) _ (by omega) (hf.mu (by decide)) (fun t ht => ?_)
            by_cases e : t = i
            · rw [e, zmu_same, z1]
            · rw [zmu_ne _ _ _ _ e]; exact hw t (by omega)
  refine z_iconst dX9_want_0 ?_
  refine zistore_4_3 dX9_want_1 ?_
  exact loop1 20 0 M (by omega) zfr.rf (fun t h => absurd h (Nat.not_lt_zero _))
theorem sp_Model_isSame (M : zMem) (L R : Nat → Nat) (T n k a b x y z : Nat) (hn : okn n) (ht : tbR M n k) (hT : tmR M L R T) (ha : a < T) (hb : b < T) (hw : wnR M L R T a b) (hx : x < n) (hy : y < n) (hz : z < n) : zSp zd_Model_isSame 0 [zr 9, zi a, zi b, zi x, zi y, zi z] M (fun r M' => zfr [41] M M' ∧ r = if ev L R n k x y z a = ev L R n k x y z b then 1 else 0) := by
  refine zSp_in 2 [some (zr 9), some (zi a), some (zi b), some (zi x), some (zi y), some (zi z), none, none] rfl rfl (by decide +kernel) rfl ?_
  refine z_withR (fun hR => ?_)
  obtain ⟨t1, t2, t3, t4, t5⟩ := hT
  obtain ⟨w1, w2, w3, w4⟩ := hw
  have hn0 := hn.pos
  have hn3 := hn.le
  obtain ⟨post, hpost⟩ : ∃ post : Int → zMem → Prop, post = (fun (r : Int) M' => zfr [41] M M' ∧ r = if ev L R n k x y z a = ev L R n k x y z b then 1 else 0) := ⟨_, rfl⟩
  rw [← hpost]
  have lt : ∀ t, t < T → ev L R n k x y z t < n := fun t h => ev_lt t4 hn0 hx hy hz h
  have loop : ∀ (c t : Nat) (M1 : zMem), t + c = max a b + 1 ∨ (c = 0 ∧ max a b < t) → 3 ≤ t → t ≤ 20 → zfr [41] M M1 → (∀ u, u < t → u < T → (u < 3 ∨ M 42 u = 1) → M1 41 u = ev L R n k x y z u) → zV zd_Model_isSame 0 38 [some (zr 9), some (zi a), some (zi b), some (zi x), some (zi y), some (zi z), some (zi ((max a b : Nat) : Int)), some (zi t)] [] M1 post := by
    intro c
    induction c with
    | zero =>
      intro t M1 hc h3 h20 hf hv
      have va := hv a (by omega) ha (Or.inr w2)
      have vb := hv b (by omega) hb (Or.inr w3)
      have la := lt a ha
      have lb := lt b hb
      refine z_withR (fun hR => ?_)
      refine ziload_8_7 dX9_isSame_38 ?_
      refine ziload_8_6 dX9_isSame_40 ?_
      refine z_icmp_gt (tgt := 103) (by first | omega | exact hR.1 _ _ (by decide) | exact zrng_toInt _) (by first | omega | exact hR.1 _ _ (by decide) | exact zrng_toInt _) dX9_isSame_42 (by decide) (fun h42 => ?_) (fun h42 => ?_)
      · refine zaload_8_0 dX9_isSame_103 ?_
        refine zg_Model_32 rfl dX9_isSame_104 ?_
        refine ziload_8_1 dX9_isSame_107 ?_
        refine z_iald _ rfl (by decide) (by decide) rfl (by omega) dX9_isSame_108 ?_
        refine z_top va ?_
        refine zaload_8_0 dX9_isSame_109 ?_
        refine zg_Model_32 rfl dX9_isSame_110 ?_
        refine ziload_8_2 dX9_isSame_113 ?_
        refine z_iald _ rfl (by decide) (by decide) rfl (by omega) dX9_isSame_114 ?_
        refine z_top vb ?_
        refine z_icmp_ne (tgt := 122) (by first | omega | exact hR.1 _ _ (by decide) | exact zrng_toInt _) (by first | omega | exact hR.1 _ _ (by decide) | exact zrng_toInt _) dX9_isSame_115 (by decide) (fun h115 => ?_) (fun h115 => ?_)
        · refine z_iconst dX9_isSame_122 ?_
          refine z_zret rfl (by omega) ?_ dX9_isSame_123
          rw [hpost]
          refine ⟨hf, ?_⟩
          first
            | (rw [if_pos (by omega)]; done)
            | (rw [if_neg (by omega)]; done)
        · refine z_iconst dX9_isSame_118 ?_
          refine z_goto (tgt := 123) dX9_isSame_119 (by decide) ?_
          refine z_zret rfl (by omega) ?_ dX9_isSame_123
          rw [hpost]
          refine ⟨hf, ?_⟩
          first
            | (rw [if_pos (by omega)]; done)
            | (rw [if_neg (by omega)]; done)
      · omega
    | succ c ih =>
      intro t M1 hc h3 h20 hf hv
      have htT : t < T := by omega
      have hw42 : M1 42 = M 42 := hf 42 (by decide)
      have h0t := w1 t (by omega)
      rw [← hw42] at h0t
      have eL : M1 35 t = L t := by rw [hf 35 (by decide)]; exact (t5 t h3 htT).1
      have eR : M1 36 t = R t := by rw [hf 36 (by decide)]; exact (t5 t h3 htT).2
      obtain ⟨wl, wr⟩ := t4 t h3 htT
      have hs : M1 9 8 = n := by rw [hf 9 (by decide)]; exact ht.1
      have k97 : ∀ M2, zfr [41] M M2 → (∀ u, u < t + 1 → u < T → (u < 3 ∨ M 42 u = 1) → M2 41 u = ev L R n k x y z u) → zV zd_Model_isSame 0 97 [some (zr 9), some (zi a), some (zi b), some (zi x), some (zi y), some (zi z), some (zi ((max a b : Nat) : Int)), some (zi t)] [] M2 post := by
        intro M2 hf2 hv2
        refine z_withR (fun hR => ?_)
        refine ziinc_8_7 dX9_isSame_97 ?_
        refine z_goto (tgt := 38) dX9_isSame_100 (by decide) ?_
        exact ih (t + 1) M2 (by omega) (by omega) (by omega) hf2 hv2
      by_cases hw1 : M1 42 t = 1
      · have hcl := w4 t h3 htT (by rw [← hw42]; exact hw1)
        have vl := hv (L t) wl (by omega) (Or.inr hcl.1)
        have vr := hv (R t) wr (by omega) (Or.inr hcl.2)
        have ll := lt (L t) (by omega)
        have lr := lt (R t) (by omega)
        have er : ev L R n k x y z t = dg n k (ev L R n k x y z (L t) * n + ev L R n k x y z (R t)) := ev_rec t4 h3 htT
        have hlt2 := lt t htT
        generalize ev L R n k x y z (L t) = p at vl ll er
        generalize ev L R n k x y z (R t) = q at vr lr er
        have hidx : p * n + q < n * n := by
          have : p * n + n ≤ n * n := by rw [← Nat.succ_mul]; exact Nat.mul_le_mul_right _ (by omega)
          omega
        have hsq := sq_le hn
        have tb : M1 40 (p * n + q) = ev L R n k x y z t := by rw [hf 40 (by decide), ht.2 _ hidx, ← er]
        refine z_withR (fun hR => ?_)
        refine ziload_8_7 dX9_isSame_38 ?_
        refine ziload_8_6 dX9_isSame_40 ?_
        refine z_icmp_gt (tgt := 103) (by first | omega | exact hR.1 _ _ (by decide) | exact zrng_toInt _) (by first | omega | exact hR.1 _ _ (by decide) | exact zrng_toInt _) dX9_isSame_42 (by decide) (fun h42 => ?_) (fun h42 => ?_)
        · omega
        · refine zaload_8_0 dX9_isSame_45 ?_
          refine zg_Model_35 rfl dX9_isSame_46 ?_
          refine ziload_8_7 dX9_isSame_49 ?_
          refine z_zald _ rfl (by decide) (by decide) rfl (by omega) dX9_isSame_51 ?_
          refine z_if_eq (tgt := 97) (by first | omega | exact hR.1 _ _ (by decide) | exact zrng_toInt _) dX9_isSame_52 (by decide) (fun h52 => ?_) (fun h52 => ?_)
          · omega
          · refine zaload_8_0 dX9_isSame_55 ?_
            refine zg_Model_32 rfl dX9_isSame_56 ?_
            refine ziload_8_7 dX9_isSame_59 ?_
            refine zaload_8_0 dX9_isSame_61 ?_
            refine zg_Model_29 rfl dX9_isSame_62 ?_
            refine zaload_8_0 dX9_isSame_65 ?_
            refine zg_Model_124 rfl dX9_isSame_66 ?_
            refine z_top hs ?_
            refine zaload_8_0 dX9_isSame_69 ?_
            refine zg_Model_32 rfl dX9_isSame_70 ?_
            refine zaload_8_0 dX9_isSame_73 ?_
            refine zg_Model_13 rfl dX9_isSame_74 ?_
            refine ziload_8_7 dX9_isSame_77 ?_
            refine z_iald _ rfl (by decide) (by decide) rfl (by omega) dX9_isSame_79 ?_
            refine z_top eL ?_
            refine z_iald _ rfl (by decide) (by decide) rfl (by omega) dX9_isSame_80 ?_
            refine z_top vl ?_
            refine z_imul dX9_isSame_81 ?_
            rw [show (n : Int) * (p : Int) = ((p * n : Nat) : Int) by rw [Int.natCast_mul, Int.mul_comm]]
            refine zaload_8_0 dX9_isSame_82 ?_
            refine zg_Model_32 rfl dX9_isSame_83 ?_
            refine zaload_8_0 dX9_isSame_86 ?_
            refine zg_Model_17 rfl dX9_isSame_87 ?_
            refine ziload_8_7 dX9_isSame_90 ?_
            refine z_iald _ rfl (by decide) (by decide) rfl (by omega) dX9_isSame_92 ?_
            refine z_top eR ?_
            refine z_iald _ rfl (by decide) (by decide) rfl (by omega) dX9_isSame_93 ?_
            refine z_top vr ?_
            refine z_iadd dX9_isSame_94 ?_
            refine z_iald (p * n + q) rfl (by decide) (by decide) (by omega) (by omega) dX9_isSame_95 ?_
            refine z_top tb ?_
            refine z_iast _ (by decide) rfl (by decide) (by decide) rfl (by omega) (by first | omega | exact hR.1 _ _ (by decide) | exact zrng_toInt _) dX9_isSame_96 ?_
            refine z_withR (fun hR => ?_)
            refine k97 _ (hf.mu (by decide)) (fun u hu huT h => ?_)
            by_cases e : u = t
            · rw [e, zmu_same]
            · rw [zmu_ne _ _ _ _ e]; exact hv u (by omega) huT h
      · refine z_withR (fun hR => ?_)
        refine ziload_8_7 dX9_isSame_38 ?_
        refine ziload_8_6 dX9_isSame_40 ?_
        refine z_icmp_gt (tgt := 103) (by first | omega | exact hR.1 _ _ (by decide) | exact zrng_toInt _) (by first | omega | exact hR.1 _ _ (by decide) | exact zrng_toInt _) dX9_isSame_42 (by decide) (fun h42 => ?_) (fun h42 => ?_)
        · omega
        · refine zaload_8_0 dX9_isSame_45 ?_
          refine zg_Model_35 rfl dX9_isSame_46 ?_
          refine ziload_8_7 dX9_isSame_49 ?_
          refine z_zald _ rfl (by decide) (by decide) rfl (by omega) dX9_isSame_51 ?_
          refine z_if_eq (tgt := 97) (by first | omega | exact hR.1 _ _ (by decide) | exact zrng_toInt _) dX9_isSame_52 (by decide) (fun h52 => ?_) (fun h52 => ?_)
          · refine k97 M1 hf (fun u hu huT h => ?_)
            by_cases e : u = t
            · rw [e, ← hw42] at h; omega
            · exact hv u (by omega) huT h
          · omega
  have fin : ∀ M2, zfr [41] M M2 → (∀ u, u < 3 → u < T → (u < 3 ∨ M 42 u = 1) → M2 41 u = ev L R n k x y z u) → zV zd_Model_isSame 0 38 [some (zr 9), some (zi a), some (zi b), some (zi x), some (zi y), some (zi z), some (zi ((max a b : Nat) : Int)), some (zi 3)] [] M2 post := by
    intro M2 hf2 hv2
    by_cases h3 : 3 ≤ max a b
    · exact loop (max a b + 1 - 3) 3 M2 (Or.inl (by omega)) (by omega) (by omega) hf2 hv2
    · exact loop 0 3 M2 (Or.inr ⟨rfl, by omega⟩) (by omega) (by omega) hf2 hv2
  have hv0 : ∀ u, u < 3 → u < T → (u < 3 ∨ M 42 u = 1) → zmu (zmu (zmu M 41 0 x) 41 1 y) 41 2 z 41 u = ev L R n k x y z u := by
    intro u hu _ _
    rcases (show u = 0 ∨ u = 1 ∨ u = 2 by omega) with rfl | rfl | rfl
    · rw [zmu_ne _ _ _ _ (by decide), zmu_ne _ _ _ _ (by decide), zmu_same, ev_0]
    · rw [zmu_ne _ _ _ _ (by decide), zmu_same, ev_1]
    · rw [zmu_same, ev_2]
  have e1 : ¬ a ≤ b → (a : Int) = ((max a b : Nat) : Int) := fun h => by omega
  have e2 : a ≤ b → (b : Int) = ((max a b : Nat) : Int) := fun h => by omega
  have k33 : zV zd_Model_isSame 0 33 [some (zr 9), some (zi a), some (zi b), some (zi x), some (zi y), some (zi z), none, none] [zi ((max a b : Nat) : Int)] (zmu (zmu (zmu M 41 0 x) 41 1 y) 41 2 z) post := by
    refine z_withR (fun hR => ?_)
    refine zistore_8_6 dX9_isSame_33 ?_
    refine z_iconst dX9_isSame_35 ?_
    refine zistore_8_7 dX9_isSame_36 ?_
    exact fin _ (((zfr.rf.mu (by decide)).mu (by decide)).mu (by decide)) hv0
  refine zaload_8_0 dX9_isSame_0 ?_
  refine zg_Model_32 rfl dX9_isSame_1 ?_
  refine z_iconst dX9_isSame_4 ?_
  refine ziload_8_3 dX9_isSame_5 ?_
  refine z_iast (0) (by decide) rfl (by decide) (by decide) rfl (by omega) (by first | omega | exact hR.1 _ _ (by decide) | exact zrng_toInt _) dX9_isSame_6 ?_
  refine z_withR (fun hR => ?_)
  refine zaload_8_0 dX9_isSame_7 ?_
  refine zg_Model_32 rfl dX9_isSame_8 ?_
  refine z_iconst dX9_isSame_11 ?_
  refine ziload_8_4 dX9_isSame_12 ?_
  refine z_iast (1) (by decide) rfl (by decide) (by decide) rfl (by omega) (by first | omega | exact hR.1 _ _ (by decide) | exact zrng_toInt _) dX9_isSame_14 ?_
  refine z_withR (fun hR => ?_)
  refine zaload_8_0 dX9_isSame_15 ?_
  refine zg_Model_32 rfl dX9_isSame_16 ?_
  refine z_iconst dX9_isSame_19 ?_
  refine ziload_8_5 dX9_isSame_20 ?_
  refine z_iast (2) (by decide) rfl (by decide) (by decide) rfl (by omega) (by first | omega | exact hR.1 _ _ (by decide) | exact zrng_toInt _) dX9_isSame_22 ?_
  refine z_withR (fun hR => ?_)
  refine ziload_8_1 dX9_isSame_23 ?_
  refine ziload_8_2 dX9_isSame_24 ?_
  refine z_icmp_le (tgt := 32) (by first | omega | exact hR.1 _ _ (by decide) | exact zrng_toInt _) (by first | omega | exact hR.1 _ _ (by decide) | exact zrng_toInt _) dX9_isSame_25 (by decide) (fun h25 => ?_) (fun h25 => ?_)
  · have z3 := e2 (by omega)
    refine ziload_8_2 dX9_isSame_32 ?_
    refine z_top z3 ?_
    exact k33
  · have z3 := e1 (by omega)
    refine ziload_8_1 dX9_isSame_28 ?_
    refine z_goto (tgt := 33) dX9_isSame_29 (by decide) ?_
    refine z_top z3 ?_
    exact k33
theorem div_xyz {n c : Nat} (hn : okn n) (hc : c < n * n * n) : c / n / n < n ∧ c / n % n < n ∧ c % n < n := by
  rcases hn with rfl | rfl | rfl
  · exact ⟨by omega, by omega, by omega⟩
  · exact ⟨by omega, by omega, by omega⟩
  · exact ⟨by omega, by omega, by omega⟩
theorem mul_xyz {n x y z : Nat} (hn : okn n) (hx : x < n) (hy : y < n) (hz : z < n) : (x * n + y) * n + z < n * n * n ∧ ((x * n + y) * n + z) / n / n = x ∧ ((x * n + y) * n + z) / n % n = y ∧ ((x * n + y) * n + z) % n = z := by
  rcases hn with rfl | rfl | rfl
  · exact ⟨by omega, by omega, by omega, by omega⟩
  · exact ⟨by omega, by omega, by omega, by omega⟩
  · exact ⟨by omega, by omega, by omega, by omega⟩
theorem sp_Model_keepsOne (M : zMem) (L R : Nat → Nat) (T n k a b : Nat) (hn : okn n) (ht : tbR M n k) (hT : tmR M L R T) (ha : a < T) (hb : b < T) (hw : wnR M L R T a b) : zSp zd_Model_keepsOne 1 [zr 9, zi a, zi b] M (fun r M' => zfr [41] M M' ∧ r = if kp L R n k a b then 1 else 0) := by
  refine zSp_in 1 [some (zr 9), some (zi a), some (zi b), none] rfl rfl (by decide +kernel) rfl ?_
  refine z_withR (fun hR => ?_)
  have hn0 := hn.pos
  have hn3 := hn.le
  have hsq := sq_le hn
  obtain ⟨post, hpost⟩ : ∃ post : Int → zMem → Prop, post = (fun (r : Int) M' => zfr [41] M M' ∧ r = if kp L R n k a b then 1 else 0) := ⟨_, rfl⟩
  rw [← hpost]
  have hcube : n * n * n ≤ 27 := by rcases hn with rfl | rfl | rfl <;> decide
  have loop : ∀ (d c : Nat) (M1 : zMem), c + d = n * n * n → zfr [41] M M1 → (∀ c', c' < c → ev L R n k (c' / n / n) (c' / n % n) (c' % n) a = ev L R n k (c' / n / n) (c' / n % n) (c' % n) b) → zV zd_Model_keepsOne 1 2 [some (zr 9), some (zi a), some (zi b), some (zi c)] [] M1 post := by
    intro d
    induction d with
    | zero =>
      intro c M1 hc hf hall
      have hs : M1 9 8 = n := by rw [hf 9 (by decide)]; exact ht.1
      refine z_withR (fun hR => ?_)
      refine ziload_4_3 dX9_keepsOne_2 ?_
      refine zaload_4_0 dX9_keepsOne_3 ?_
      refine zg_Model_124 rfl dX9_keepsOne_4 ?_
      refine z_top hs ?_
      refine zaload_4_0 dX9_keepsOne_7 ?_
      refine zg_Model_124 rfl dX9_keepsOne_8 ?_
      refine z_top hs ?_
      refine z_imul dX9_keepsOne_11 ?_
      rw [← Int.natCast_mul]
      refine zaload_4_0 dX9_keepsOne_12 ?_
      refine zg_Model_124 rfl dX9_keepsOne_13 ?_
      refine z_top hs ?_
      refine z_imul dX9_keepsOne_16 ?_
      rw [← Int.natCast_mul]
      refine z_icmp_ge (tgt := 65) (by first | omega | exact hR.1 _ _ (by decide) | exact zrng_toInt _) (by first | omega | exact hR.1 _ _ (by decide) | exact zrng_toInt _) dX9_keepsOne_17 (by decide) (fun h17 => ?_) (fun h17 => ?_)
      · refine z_iconst dX9_keepsOne_65 ?_
        refine z_zret rfl (by omega) ?_ dX9_keepsOne_66
        rw [hpost]
        have hk : kp L R n k a b = true := by
          unfold kp
          rw [decide_eq_true_iff]
          intro x hx y hy z hz
          obtain ⟨m1, m2, m3, m4⟩ := mul_xyz hn hx hy hz
          have := hall ((x * n + y) * n + z) (by omega)
          rw [m2, m3, m4] at this
          exact this
        exact ⟨hf, by rw [hk]; rfl⟩
      · omega
    | succ d ih =>
      intro c M1 hc hf hall
      have hs : M1 9 8 = n := by rw [hf 9 (by decide)]; exact ht.1
      obtain ⟨d1, d2, d3⟩ := div_xyz hn (show c < n * n * n by omega)
      obtain ⟨Q, hQ⟩ : ∃ Q, Q = c / n := ⟨_, rfl⟩
      have hQ27 : Q ≤ 27 := by rw [hQ]; exact Nat.le_trans (Nat.div_le_self _ _) (by omega)
      rw [← hQ] at d1 d2
      obtain ⟨q1, hq1⟩ : ∃ q, q = Q / n := ⟨_, rfl⟩
      obtain ⟨q2, hq2⟩ : ∃ q, q = Q % n := ⟨_, rfl⟩
      obtain ⟨q3, hq3⟩ : ∃ q, q = c % n := ⟨_, rfl⟩
      rw [← hq1] at d1
      rw [← hq2] at d2
      rw [← hq3] at d3
      refine z_withR (fun hR => ?_)
      refine ziload_4_3 dX9_keepsOne_2 ?_
      refine zaload_4_0 dX9_keepsOne_3 ?_
      refine zg_Model_124 rfl dX9_keepsOne_4 ?_
      refine z_top hs ?_
      refine zaload_4_0 dX9_keepsOne_7 ?_
      refine zg_Model_124 rfl dX9_keepsOne_8 ?_
      refine z_top hs ?_
      refine z_imul dX9_keepsOne_11 ?_
      rw [← Int.natCast_mul]
      refine zaload_4_0 dX9_keepsOne_12 ?_
      refine zg_Model_124 rfl dX9_keepsOne_13 ?_
      refine z_top hs ?_
      refine z_imul dX9_keepsOne_16 ?_
      rw [← Int.natCast_mul]
      refine z_icmp_ge (tgt := 65) (by first | omega | exact hR.1 _ _ (by decide) | exact zrng_toInt _) (by first | omega | exact hR.1 _ _ (by decide) | exact zrng_toInt _) dX9_keepsOne_17 (by decide) (fun h17 => ?_) (fun h17 => ?_)
      · omega
      · refine zaload_4_0 dX9_keepsOne_20 ?_
        refine ziload_4_1 dX9_keepsOne_21 ?_
        refine ziload_4_2 dX9_keepsOne_22 ?_
        refine ziload_4_3 dX9_keepsOne_23 ?_
        refine zaload_4_0 dX9_keepsOne_24 ?_
        refine zg_Model_124 rfl dX9_keepsOne_25 ?_
        refine z_top hs ?_
        refine z_idiv (by omega) (by omega) dX9_keepsOne_28 ?_
        refine z_top (y := (Q : Int)) (by rw [hQ]; rfl) ?_
        refine zaload_4_0 dX9_keepsOne_29 ?_
        refine zg_Model_124 rfl dX9_keepsOne_30 ?_
        refine z_top hs ?_
        refine z_idiv (by omega) (by omega) dX9_keepsOne_33 ?_
        refine z_top (y := (q1 : Int)) (by rw [hq1]; rfl) ?_
        refine ziload_4_3 dX9_keepsOne_34 ?_
        refine zaload_4_0 dX9_keepsOne_35 ?_
        refine zg_Model_124 rfl dX9_keepsOne_36 ?_
        refine z_top hs ?_
        refine z_idiv (by omega) (by omega) dX9_keepsOne_39 ?_
        refine z_top (y := (Q : Int)) (by rw [hQ]; rfl) ?_
        refine zaload_4_0 dX9_keepsOne_40 ?_
        refine zg_Model_124 rfl dX9_keepsOne_41 ?_
        refine z_top hs ?_
        refine z_irem (by omega) (by omega) dX9_keepsOne_44 ?_
        refine z_top (y := (q2 : Int)) (by rw [hq2]; rfl) ?_
        refine ziload_4_3 dX9_keepsOne_45 ?_
        refine zaload_4_0 dX9_keepsOne_46 ?_
        refine zg_Model_124 rfl dX9_keepsOne_47 ?_
        refine z_top hs ?_
        refine z_irem (by omega) (by omega) dX9_keepsOne_50 ?_
        refine z_top (y := (q3 : Int)) (by rw [hq3]; rfl) ?_
        refine zc_Model_130 rfl dX9_keepsOne_51 (by decide) (Nat.le_of_ble_eq_true rfl) (sp_Model_isSame M1 L R T n k a b q1 q2 q3 hn (ht.fr hf (by rw [hf 9 (by decide)]) (by decide)) (hT.fr hf (by rw [hf 9 (by decide)]) (by decide) (by decide)) ha hb (hw.fr hf (by decide)) d1 d2 d3) (fun r51 M51 hq51 => ?_)
        refine z_withR (fun hR => ?_)
        obtain ⟨f51, q51⟩ := hq51
        have q51 := or_if q51
        refine z_if_ne (tgt := 59) (or_rng q51) dX9_keepsOne_54 (by decide) (fun h54 => ?_) (fun h54 => ?_)
        · have y := or_yes q51 h54
          refine ziinc_4_3 dX9_keepsOne_59 ?_
          refine z_goto (tgt := 2) dX9_keepsOne_62 (by decide) ?_
          exact ih (c + 1) M51 (by omega) (hf.tr f51 (by decide) (by decide)) (fun c' hc' => by
            by_cases e : c' = c
            · rw [e, ← hQ, ← hq1, ← hq2, ← hq3]; exact y
            · exact hall c' (by omega))
        · have y := or_no q51 h54
          refine z_iconst dX9_keepsOne_57 ?_
          refine z_zret rfl (by omega) ?_ dX9_keepsOne_58
          rw [hpost]
          have hk : kp L R n k a b = false := by
            refine Bool.eq_false_iff.mpr (fun hk => y ?_)
            unfold kp at hk
            rw [decide_eq_true_iff] at hk
            exact hk _ d1 _ d2 _ d3
          exact ⟨hf.tr f51 (by decide) (by decide), by rw [hk]; rfl⟩
  refine z_iconst dX9_keepsOne_0 ?_
  refine zistore_4_3 dX9_keepsOne_1 ?_
  exact loop (n * n * n) 0 M (by omega) zfr.rf (fun c' h => absurd h (Nat.not_lt_zero _))
