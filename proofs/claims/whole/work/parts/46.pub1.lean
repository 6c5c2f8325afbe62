def bs (B : Nat → Nat → Nat) (c i v : Nat) : Nat → Nat → Nat := fun c' => if c' = c then fup (B c') i v else B c'
theorem snW.re {Ws : Nat → Nat} {N N' : Nat} {S S' : Nat → Nat → Nat → Bool} (h : snW Ws N S) (hN : N ≤ N') (hS : ∀ e i, i < N → S' e i = S e i) : snW Ws N' S' := by
  refine ⟨h.1, fun e he i hi => ?_⟩
  obtain ⟨h1, h2⟩ := h.2 e he i hi
  refine ⟨fun hd => Nat.lt_of_lt_of_le (h1 hd) hN, fun b hb => ?_⟩
  rw [h2 b hb]
  by_cases hd : dn Ws e i = true
  · rw [hS e i (h1 hd)]
  · simp only [Bool.not_eq_true] at hd
    rw [hd]; rfl
theorem abK.re {M : zMem} {B B' : Nat → Nat → Nat} (h : abK M B) (hP : B' 3 0 = B 3 0) (hN : B 6 0 ≤ B' 6 0) (h1 : ∀ e l, l < B 3 0 → kp (B' 1) (B' 2) (eSz e) (eK e) (B' 4 l) (B' 5 l) = kp (B 1) (B 2) (eSz e) (eK e) (B 4 l) (B 5 l)) (h2 : ∀ s e, s < 2 → sK B' s e = sK B s e) (h3 : ∀ e i, i < B 6 0 → bS B' e i = bS B e i) : abK M B' := by
  obtain ⟨a1, a2, Kf, Ws, w, K0, k1, k2, k3, k4, k5, k6, k7, k8, k9⟩ := h
  have hw : ∀ e, e < 3341 → wK B e = wK B' e := by
    intro e _
    unfold wK
    rw [hP]
    congr 1
    refine propext (forall_congr' (fun l => ?_))
    constructor
    · intro h hl; rw [h1 e l hl]; exact h hl
    · intro h hl; rw [← h1 e l hl]; exact h hl
  refine ⟨a1, a2, Kf, Ws, w, K0, k1, fun e he => ⟨fun l hl => ?_, fun s hs => ?_⟩, k3, by omega, k5, k6.re hN h3, k7, by omega, k9.imp id (fun h => ⟨h.1, by omega, h.2.2.1.to hw, ?_⟩)⟩
  · rw [h1 e l (by omega)]; exact (k2 e he).1 l hl
  · rw [h2 s e hs]; exact (k2 e he).2 s hs
  · rw [← lS_to hw, ← lE_to hw]; exact h.2.2.2
theorem abK.page {M : zMem} {B B' : Nat → Nat → Nat} {v : Int} (h : abK M B) (hv : v = if (B' 3 0 : Int) < M 4 6 then (B' 3 0 : Int) else M 4 6) (hl : ∀ l, l < B 3 0 → l < B' 3 0 → B' 4 l = B 4 l ∧ B' 5 l = B 5 l) (e1 : B' 1 = B 1) (e2 : B' 2 = B 2) (e6 : B' 6 = B 6) (e7 : B' 7 = B 7) (e8 : B' 8 = B 8) (e9 : B' 9 = B 9) (e12 : B' 12 = B 12) (e13 : B' 13 = B 13) (e14 : B' 14 = B 14) : abK (zmu (zmu (zmu (zmu M 4 6 v) 6 8 0) 6 9 0) 7 5 0) B' := by
  obtain ⟨a1, a2, Kf, Ws, w, K0, k1, k2, k3, k4, k5, k6, k7, k8, k9⟩ := h
  have hf : zfr [4, 6, 7] M (zmu (zmu (zmu (zmu M 4 6 v) 6 8 0) 6 9 0) 7 5 0) := (((zfr.rf.mu (by decide)).mu (by decide)).mu (by decide)).mu (by decide)
  have hS : bS B' = bS B := by unfold bS; rw [e1, e2, e7, e8, e9]
  have h4 : ∀ i, i ≠ 6 → zmu (zmu (zmu (zmu M 4 6 v) 6 8 0) 6 9 0) 7 5 0 4 i = M 4 i := fun i hi => by
    rw [zmu_other _ _ _ _ (by decide), zmu_other _ _ _ _ (by decide), zmu_other _ _ _ _ (by decide), zmu_ne _ _ _ _ hi]
  refine ⟨?_, ?_, Kf, Ws, min (B' 3 0) w, 0, k1.fr hf (by decide), fun e he => ⟨fun l hl2 => ?_, fun s hs => ?_⟩, ?_, by omega, k5.fr hf (by decide), by rw [hS, e6]; exact k6, ?_, by omega, Or.inl ⟨?_, rfl⟩⟩
  · rw [h4 4 (by decide)]
    exact a1.imp id (fun h => ⟨h.1, h.2.fr hf (by decide) (by decide)⟩)
  · rw [h4 5 (by decide)]
    exact a2.imp id (fun h => ⟨h.1, h.2.fr hf (by decide)⟩)
  · obtain ⟨q1, q2⟩ := hl l (by omega) (by omega)
    rw [e1, e2, q1, q2]; exact (k2 e he).1 l (by omega)
  · have hs2 : sK B' s e = sK B s e := by unfold sK; rw [e1, e2, e12, e13, e14]
    rw [hs2]; exact (k2 e he).2 s hs
  · rw [zmu_other _ _ _ _ (by decide), zmu_other _ _ _ _ (by decide), zmu_other _ _ _ _ (by decide), zmu_same, hv, k3]
    split <;> omega
  · rw [zmu_other _ _ _ _ (by decide), zmu_same]; rfl
  · rw [zmu_other _ _ _ _ (by decide), zmu_ne _ _ _ _ (by decide), zmu_same]
theorem sp_S_pageChanged (M : zMem) (P : Nat) (hP : P ≤ 6) (hM : M 2 2 = P) : zSp zd_S_pageChanged 2 [zr 0] M (fun _ M' => M' = zmu (zmu (zmu (zmu M 4 6 (if (P : Int) < M 4 6 then (P : Int) else M 4 6)) 6 8 0) 6 9 0) 7 5 0) := by
  refine zSp_in 0 [some (zr 0)] rfl rfl (by decide +kernel) rfl ?_
  refine z_withR (fun hR => ?_)
  refine zaload_1_0 dX8_pageChanged_0 ?_
  refine zg_S_35 rfl dX8_pageChanged_1 ?_
  refine zaload_1_0 dX8_pageChanged_4 ?_
  refine zg_S_19 rfl dX8_pageChanged_5 ?_
  refine zg_S_96 rfl dX8_pageChanged_8 ?_
  refine z_top hM ?_
  refine zc_S_236 rfl dX8_pageChanged_11 (by decide) (Nat.le_of_ble_eq_true rfl) (sp_Catalog_forgetLaws M P (by unfold zrng; omega)) (fun r11 M11 hq11 => ?_)
  refine z_withR (fun hR => ?_)
  subst hq11
  refine zaload_1_0 dX8_pageChanged_14 ?_
  refine zg_S_51 rfl dX8_pageChanged_15 ?_
  refine zc_S_240 rfl dX8_pageChanged_18 (by decide) (Nat.le_of_ble_eq_true rfl) (sp_Rows_forget _) (fun r18 M18 hq18 => ?_)
  refine z_withR (fun hR => ?_)
  subst hq18
  refine zaload_1_0 dX8_pageChanged_21 ?_
  refine zg_S_58 rfl dX8_pageChanged_22 ?_
  refine zc_S_83 rfl dX8_pageChanged_25 (by decide) (Nat.le_of_ble_eq_true rfl) (sp_Rounds_forget _) (fun r25 M25 hq25 => ?_)
  refine z_withR (fun hR => ?_)
  subst hq25
  refine z_vret rfl ?_ dX8_pageChanged_28
  rfl
def bPut (B : Nat → Nat → Nat) (a b : Nat) : Nat → Nat → Nat := bs (bs (bs B 0 0 (B 0 0 + 1)) 1 (B 0 0) a) 2 (B 0 0) b
abbrev inR (a : Int) (n : Nat) : Prop := 0 ≤ a ∧ a < n
theorem abC.put {M : zMem} {B : Nat → Nat → Nat} {a b : Nat} (h : abC M B) (ha : a < B 0 0) (hb : b < B 0 0) (hT : B 0 0 < 20) (hn : ∀ t, 3 ≤ t → t < B 0 0 → ¬ (B 1 t = a ∧ B 2 t = b)) : abC (zmu (mTermsAdd M a b) 7 5 0) (bPut B a b) := by
  obtain ⟨⟨h1, h2, h3, h4, h5, h6, h7, h8⟩, hO, hK⟩ := h
  obtain ⟨t1, t2, t3, t4, t5, t6⟩ := id h1
  obtain ⟨T, eT⟩ : ∃ T, T = B 0 0 := ⟨_, rfl⟩
  have b0 : bPut B a b 0 0 = T + 1 := by rw [eT]; rfl
  have b1 : bPut B a b 1 = fup (B 1) T a := by rw [eT]; rfl
  have b2 : bPut B a b 2 = fup (B 2) T b := by rw [eT]; rfl
  have bo : ∀ c, 3 ≤ c → bPut B a b c = B c := by
    intro c hc
    unfold bPut bs
    rw [if_neg (by omega), if_neg (by omega), if_neg (by omega)]
  have hf : zfr [1, 7, 10, 11, 12] M (zmu (mTermsAdd M a b) 7 5 0) := ((((zfr.rf.mu (by decide)).mu (by decide)).mu (by decide)).mu (by decide)).mu (by decide)
  rw [← eT] at ha hb hT hn h1 h2 h3 h4 h7 t1 t2 t3 t4 t5 t6
  have eTn : (M 1 3).toNat = T := by rw [t1]; rfl
  have he : ∀ t, 3 ≤ t → t < T → fup (B 1) T a t = B 1 t ∧ fup (B 2) T b t = B 2 t := fun t _ ht => ⟨fup_n (by omega), fup_n (by omega)⟩
  have hw' : wfT (fup (B 1) T a) (fup (B 2) T b) (T + 1) := by
    intro t h3' ht
    by_cases e : t = T
    · rw [e, fup_s, fup_s]; exact ⟨ha, hb⟩
    · rw [fup_n e, fup_n e]; exact t4 t h3' (by omega)
  have m10 : ∀ t, (zmu (mTermsAdd M a b) 7 5 0) 10 t = if t = T then (a : Int) else M 10 t := by
    intro t
    rw [zmu_other _ _ _ _ (by decide)]
    unfold mTermsAdd
    rw [zmu_other _ _ _ _ (by decide), zmu_other _ _ _ _ (by decide), eTn]
    by_cases e : t = T
    · rw [e, zmu_same, if_pos rfl]
    · rw [zmu_ne _ _ _ _ e, zmu_other _ _ _ _ (by decide), if_neg e]
  have m11 : ∀ t, (zmu (mTermsAdd M a b) 7 5 0) 11 t = if t = T then (b : Int) else M 11 t := by
    intro t
    rw [zmu_other _ _ _ _ (by decide)]
    unfold mTermsAdd
    rw [zmu_other _ _ _ _ (by decide), eTn]
    by_cases e : t = T
    · rw [e, zmu_same, if_pos rfl]
    · rw [zmu_ne _ _ _ _ e, zmu_other _ _ _ _ (by decide), zmu_other _ _ _ _ (by decide), if_neg e]
  refine ⟨⟨?_, ?_, ?_, ?_, ?_, ?_, ?_, ?_⟩, Or.inl (zmu_same _ _ _ _), (hK.fr hf (by decide)).re ?_ ?_ ?_ ?_ ?_⟩
  · rw [b0, b1, b2]
    refine ⟨?_, by omega, by omega, hw', fun t h3' ht => ?_, fun t ht => ?_⟩
    · rw [zmu_other _ _ _ _ (by decide)]
      unfold mTermsAdd
      rw [zmu_other _ _ _ _ (by decide), zmu_other _ _ _ _ (by decide), zmu_other _ _ _ _ (by decide), zmu_same, t1]
      omega
    · rw [m10, m11]
      by_cases e : t = T
      · rw [if_pos e, if_pos e, e, fup_s, fup_s]; exact ⟨rfl, rfl⟩
      · rw [if_neg e, if_neg e, fup_n e, fup_n e]; exact t5 t h3' (by omega)
    · rw [zmu_other _ _ _ _ (by decide)]
      unfold mTermsAdd
      rw [eTn]
      by_cases e : t = T
      · rw [e, zmu_same, nd_rec hw' (by omega) (by omega), fup_s, fup_s, nd_congr t4 he ha, nd_congr t4 he hb, t6 a ha, t6 b hb, t1]
        have n1 := nd_lt t4 ha
        have n2 := nd_lt t4 hb
        have p1 : 2 ^ (a + 1) ≤ 2 ^ 20 := Nat.pow_le_pow_right (by decide) (by omega)
        have p2 : 2 ^ (b + 1) ≤ 2 ^ 20 := Nat.pow_le_pow_right (by decide) (by omega)
        have p3 : 2 ^ T < 2 ^ 20 := Nat.pow_lt_pow_right (by decide) hT
        have o1 : 2 ^ T ||| nd (B 1) (B 2) a < 2 ^ 20 := Nat.or_lt_two_pow p3 (by omega)
        rw [zShl_one (by omega), zOr_nat (by omega) (by omega), zOr_nat (by omega) (by omega)]
      · rw [zmu_ne _ _ _ _ e, zmu_other _ _ _ _ (by decide), zmu_other _ _ _ _ (by decide), zmu_other _ _ _ _ (by decide), nd_congr t4 he (by omega)]
        exact t6 t (by omega)
  · rw [b0, b1, b2]
    intro t u h3t ht h3u hu e1 e2
    by_cases et : t = T <;> by_cases eu : u = T
    · rw [et, eu]
    · rw [et, fup_s, fup_n eu] at e1
      rw [et, fup_s, fup_n eu] at e2
      exact absurd ⟨e1.symm, e2.symm⟩ (hn u h3u (by omega))
    · rw [eu, fup_s, fup_n et] at e1
      rw [eu, fup_s, fup_n et] at e2
      exact absurd ⟨e1, e2⟩ (hn t h3t (by omega))
    · rw [fup_n et, fup_n eu] at e1
      rw [fup_n et, fup_n eu] at e2
      exact h2 t u h3t (by omega) h3u (by omega) e1 e2
  · rw [b0, bo 3 (by omega), bo 4 (by omega), bo 5 (by omega)]
    have h3' := h3.fr hf (by decide) (by decide) (by decide)
    exact ⟨h3'.1, h3'.2.1, fun l hl => ⟨(h3'.2.2 l hl).1, by have := (h3'.2.2 l hl).2; omega⟩⟩
  · rw [b0, bo 6 (by omega), bo 7 (by omega), bo 8 (by omega), bo 9 (by omega)]
    have h4' := h4.fr hf (by decide) (by decide) (by decide) (by decide) (by decide) (by decide)
    refine ⟨h4'.1, h4'.2.1, fun i hi => ?_, h4'.2.2.2⟩
    obtain ⟨q1, q2, q3⟩ := h4'.2.2.1 i hi
    exact ⟨q1, fun h => by have := q2 h; omega, q3⟩
  · unfold bAw
    rw [bo 6 (by omega), bo 10 (by omega)]
    exact h5.fr hf (by decide)
  · rw [bo 11 (by omega), hf 8 (by decide)]; exact h6
  · rw [b0, bo 12 (by omega), bo 13 (by omega), bo 14 (by omega)]
    intro s hs
    exact ⟨(h7 s hs).1, fun l hl => by have := (h7 s hs).2 l hl; omega⟩
  · intro t ht
    rw [m10, m11, if_neg (by omega), if_neg (by omega)]
    exact h8 t ht
  · rw [bo 3 (by omega)]
  · rw [bo 6 (by omega)]; exact Nat.le_refl _
  · intro e l hl
    have := (h3.2.2 l hl).2
    rw [b1, b2, bo 4 (by omega), bo 5 (by omega)]
    exact kp_congr t4 he this.1 this.2
  · intro s e hs
    unfold sK
    rw [bo 12 (by omega), bo 13 (by omega), bo 14 (by omega), b1, b2]
    congr 1
    refine propext (forall_congr' (fun l => ?_))
    constructor
    · intro h hl
      have := (h7 s hs).2 l hl
      rw [← kp_congr t4 he this.1 this.2]; exact h hl
    · intro h hl
      have := (h7 s hs).2 l hl
      rw [kp_congr t4 he this.1 this.2]; exact h hl
  · intro e i hi
    unfold bS sE
    rw [b1, b2, bo 7 (by omega), bo 8 (by omega), bo 9 (by omega)]
    exact so_congr t4 h4.2.2.1 he (fun i _ => ⟨rfl, rfl, rfl⟩) i hi
