/-! the class as a whole -/
noncomputable def wK (B : Nat → Nat → Nat) (e : Nat) : Bool := decide (∀ l, l < B 3 0 → kp (B 1) (B 2) (eSz e) (eK e) (B 4 l) (B 5 l) = true)
noncomputable def sK (B : Nat → Nat → Nat) (s e : Nat) : Bool := decide (∀ l, l < B 12 s → kp (B 1) (B 2) (eSz e) (eK e) (B 13 (6 * s + l)) (B 14 (6 * s + l)) = true)
def bAw (B : Nat → Nat → Nat) (i : Nat) : Bool := B 10 i == 1
noncomputable def bS (B : Nat → Nat → Nat) : Nat → Nat → Nat → Bool := sE (B 1) (B 2) (B 7) (B 8) (B 9)
def kfO (B : Nat → Nat → Nat) (w : Nat) (Kf : Nat → Nat) : Prop := ∀ e, e < 3341 → (∀ l, l < w → (Kf e).testBit l = kp (B 1) (B 2) (eSz e) (eK e) (B 4 l) (B 5 l)) ∧ ∀ s, s < 2 → (Kf e).testBit (6 + s) = sK B s e
theorem kq_iff {Kf : Nat → Nat} {ls e : Nat} : kq Kf ls e = true ↔ ∀ i, ls.testBit i = true → (Kf e).testBit i = true := by
  unfold kq
  rw [beq_iff_eq]
  constructor
  · intro h i hi
    have h2 : (Kf e &&& ls).testBit i = true := by rw [h]; exact hi
    rw [Nat.testBit_and, Bool.and_eq_true] at h2
    exact h2.1
  · intro h
    refine Nat.eq_of_testBit_eq (fun i => ?_)
    rw [Nat.testBit_and]
    by_cases hi : ls.testBit i = true
    · rw [h i hi, hi]; rfl
    · simp only [Bool.not_eq_true] at hi
      rw [hi]; simp
theorem kfO.all {B : Nat → Nat → Nat} {Kf : Nat → Nat} (h : kfO B (B 3 0) Kf) {e : Nat} (he : e < 3341) : kq Kf (2 ^ B 3 0 - 1) e = wK B e := by
  rw [Bool.eq_iff_iff, kq_iff]
  unfold wK
  rw [decide_eq_true_iff]
  constructor
  · intro k l hl
    rw [← (h e he).1 l hl]
    exact k l (by rw [Nat.testBit_two_pow_sub_one]; simpa using hl)
  · intro k i hi
    rw [Nat.testBit_two_pow_sub_one, decide_eq_true_iff] at hi
    rw [(h e he).1 i hi]
    exact k i hi
theorem kfO.slot {B : Nat → Nat → Nat} {w : Nat} {Kf : Nat → Nat} (h : kfO B w Kf) {e s : Nat} (he : e < 3341) (hs : s < 2) : kq Kf (2 ^ (6 + s)) e = sK B s e := by
  rw [Bool.eq_iff_iff, kq_iff, ← (h e he).2 s hs]
  constructor
  · intro k
    exact k (6 + s) (by rw [Nat.testBit_two_pow]; simp)
  · intro k i hi
    rw [Nat.testBit_two_pow, decide_eq_true_iff] at hi
    rw [← hi]; exact k
theorem fb_ct_to {p q : Nat → Bool} {n : Nat} (h : ∀ i, i < n → p i = q i) : fb_ct p n = fb_ct q n := Nat.le_antisymm (fb_ct_sub (fun i hi e => by rw [← h i hi]; exact e)) (fb_ct_sub (fun i hi e => by rw [h i hi]; exact e))
theorem lE_to {q q' : Nat → Bool} (h : ∀ e, e < 3341 → q e = q' e) : lE q = lE q' := by
  funext j
  unfold lE
  congr 1
  funext e
  refine propext ?_
  constructor
  · intro ⟨h1, h2, h3⟩
    exact ⟨h1, by rw [← h e h1]; exact h2, by rw [← fb_ct_to (fun i hi => h i (by omega))]; exact h3⟩
  · intro ⟨h1, h2, h3⟩
    exact ⟨h1, by rw [h e h1]; exact h2, by rw [fb_ct_to (fun i hi => h i (by omega))]; exact h3⟩
theorem lS_to {q q' : Nat → Bool} (h : ∀ e, e < 3341 → q e = q' e) : lS q = lS q' := by
  unfold lS
  rw [fb_ct_to h]
theorem lQ_to {q q' : Nat → Bool} (h : ∀ e, e < 3341 → q e = q' e) : lQ q = lQ q' := by
  funext j
  unfold lQ
  rw [lE_to h]
theorem lP_to {q q' : Nat → Bool} (h : ∀ e, e < 3341 → q e = q' e) : lP q = lP q' := by
  funext j
  unfold lP
  rw [lQ_to h]
theorem lsOK.to {M : zMem} {q q' : Nat → Bool} (hq : lsOK M q) (h : ∀ e, e < 3341 → q e = q' e) : lsOK M q' := by
  unfold lsOK
  rw [← lS_to h, ← lP_to h, ← lE_to h]
  exact hq
theorem rdy.to {M : zMem} {q q' : Nat → Bool} {N : Nat} {Ws : Nat → Nat} {S : Nat → Nat → Nat → Bool} (hq : rdy M q N Ws S) (h : ∀ e, e < 3341 → q e = q' e) : rdy M q' N Ws S := by
  refine ⟨hq.1.to h, hq.2.1, hq.2.2.1, ?_⟩
  rw [← lS_to h, ← lE_to h]
  exact hq.2.2.2
/-- what a caller can tell -/
def abC0 (M : zMem) (B : Nat → Nat → Nat) : Prop := tmC M (B 1) (B 2) (B 0 0) ∧ uqT (B 1) (B 2) (B 0 0) ∧ pgC M (B 0 0) (B 3 0) (B 4) (B 5) ∧ ntC M (B 0 0) (B 6 0) (B 7) (B 8) (B 9) ∧ awM M (B 6 0) (bAw B) ∧ (∀ i, i < 3 → M 8 i = B 11 i ∧ B 11 i ≤ 9) ∧ (∀ s, s < 2 → B 12 s ≤ 6 ∧ ∀ l, l < B 12 s → B 13 (6 * s + l) < B 0 0 ∧ B 14 (6 * s + l) < B 0 0) ∧ ∀ t, t < 3 → M 10 t = -9 ∧ M 11 t = -9
def abO (M : zMem) (B : Nat → Nat → Nat) : Prop := M 7 5 = 0 ∨ M 7 5 = 1 ∧ rdC M (B 1) (B 2) (B 4) (B 5) (B 0 0) (B 3 0)
def abK (M : zMem) (B : Nat → Nat → Nat) : Prop := (M 4 4 = 0 ∨ (M 4 4 = 1 ∧ catF M)) ∧ (M 4 5 = 0 ∨ (M 4 5 = 1 ∧ trnF M)) ∧ ∃ (Kf Ws : Nat → Nat) (w K0 : Nat), kepF M Kf ∧ kfO B w Kf ∧ M 4 6 = w ∧ w ≤ B 3 0 ∧ snM M Ws ∧ snW Ws (B 6 0) (bS B) ∧ M 6 9 = K0 ∧ K0 ≤ B 6 0 ∧ ((M 6 8 = 0 ∧ K0 = 0) ∨ (M 6 8 = 1 ∧ w = B 3 0 ∧ lsOK M (wK B) ∧ ∀ v, v < lS (wK B) → ∀ i, i < K0 → dn Ws (lE (wK B) v) i = true))
def abC (M : zMem) (B : Nat → Nat → Nat) : Prop := abC0 M B ∧ abO M B ∧ abK M B
def stl (M : zMem) (B : Nat → Nat → Nat) : Prop := (M 4 4 = 1 ∧ catF M) ∧ (M 4 5 = 0 ∨ (M 4 5 = 1 ∧ trnF M)) ∧ M 4 6 = B 3 0 ∧ M 6 8 = 1 ∧ M 6 9 = B 6 0 ∧ (∃ Kf, kepF M Kf ∧ kfO B (B 3 0) Kf) ∧ ∃ Ws, rdy M (wK B) (B 6 0) Ws (bS B)
theorem stl.abK {M : zMem} {B : Nat → Nat → Nat} (h : stl M B) : abK M B := by
  obtain ⟨h1, h2, h3, h4, h5, ⟨Kf, h6, h7⟩, Ws, h8⟩ := h
  exact ⟨Or.inr h1, h2, Kf, Ws, B 3 0, B 6 0, h6, h7, h3, Nat.le_refl _, h8.2.1, h8.2.2.1, h5, Nat.le_refl _, Or.inr ⟨h4, rfl, h8.1, h8.2.2.2⟩⟩
theorem awM.fr {S : List Nat} {M M' : zMem} {N : Nat} {aw : Nat → Bool} (h : awM M N aw) (hf : zfr S M M') (h26 : 26 ∉ S) : awM M' N aw := by
  unfold awM
  rw [hf _ h26]
  exact h
theorem trnF.fr {S : List Nat} {M M' : zMem} (h : trnF M) (hf : zfr S M M') (h19 : 19 ∉ S) : trnF M' := by
  unfold trnF
  rw [hf _ h19]
  exact h
theorem abC0.fr {S : List Nat} {M M' : zMem} {B : Nat → Nat → Nat} (h : abC0 M B) (hf : zfr S M M') (hS : ∀ c ∈ [1, 2, 5, 8, 10, 11, 12, 13, 14, 21, 22, 23, 24, 25, 26], c ∉ S) : abC0 M' B := by
  obtain ⟨h1, h2, h3, h4, h5, h6, h7, h8⟩ := h
  refine ⟨h1.fr hf (hS _ (by decide)) (hS _ (by decide)) (hS _ (by decide)) (hS _ (by decide)), h2, h3.fr hf (hS _ (by decide)) (hS _ (by decide)) (hS _ (by decide)), h4.fr hf (hS _ (by decide)) (hS _ (by decide)) (hS _ (by decide)) (hS _ (by decide)) (hS _ (by decide)) (hS _ (by decide)), h5.fr hf (hS _ (by decide)), ?_, h7, ?_⟩
  · rw [hf 8 (hS _ (by decide))]; exact h6
  · rw [hf 10 (hS _ (by decide)), hf 11 (hS _ (by decide))]; exact h8
theorem abO.fr {S : List Nat} {M M' : zMem} {B : Nat → Nat → Nat} (h : abO M B) (hf : zfr S M M') (hS : ∀ c ∈ [7, 31, 33], c ∉ S) : abO M' B := by
  unfold abO
  rw [hf 7 (hS _ (by decide))]
  exact h.imp id (fun h => ⟨h.1, h.2.fr hf (hS _ (by decide)) (hS _ (by decide)) (hS _ (by decide))⟩)
theorem abK.fr {S : List Nat} {M M' : zMem} {B : Nat → Nat → Nat} (h : abK M B) (hf : zfr S M M') (hS : ∀ c ∈ [4, 6, 17, 18, 19, 20, 27, 28, 29], c ∉ S) : abK M' B := by
  obtain ⟨h1, h2, Kf, Ws, w, K0, k1, k2, k3, k4, k5, k6, k7, k8, k9⟩ := h
  refine ⟨?_, ?_, Kf, Ws, w, K0, k1.fr hf (hS _ (by decide)), k2, ?_, k4, k5.fr hf (hS _ (by decide)), k6, ?_, k8, ?_⟩
  · rw [hf 4 (hS _ (by decide))]
    exact h1.imp id (fun h => ⟨h.1, h.2.fr hf (hS _ (by decide)) (hS _ (by decide))⟩)
  · rw [hf 4 (hS _ (by decide))]
    exact h2.imp id (fun h => ⟨h.1, h.2.fr hf (hS _ (by decide))⟩)
  · rw [hf 4 (hS _ (by decide))]; exact k3
  · rw [hf 6 (hS _ (by decide))]; exact k7
  · rw [hf 6 (hS _ (by decide))]
    exact k9.imp id (fun h => ⟨h.1, h.2.1, h.2.2.1.fr hf (hS _ (by decide)) (hS _ (by decide)) (hS _ (by decide)), h.2.2.2⟩)
theorem stl.fr {S : List Nat} {M M' : zMem} {B : Nat → Nat → Nat} (h : stl M B) (hf : zfr S M M') (hS : ∀ c ∈ [4, 6, 17, 18, 19, 20, 27, 28, 29], c ∉ S) : stl M' B := by
  obtain ⟨h1, h2, h3, h4, h5, ⟨Kf, h6, h7⟩, Ws, h8⟩ := h
  refine ⟨?_, ?_, ?_, ?_, ?_, ⟨Kf, h6.fr hf (hS _ (by decide)), h7⟩, Ws, h8.1.fr hf (hS _ (by decide)) (hS _ (by decide)) (hS _ (by decide)), h8.2.1.fr hf (hS _ (by decide)), h8.2.2⟩
  · rw [hf 4 (hS _ (by decide))]
    exact ⟨h1.1, h1.2.fr hf (hS _ (by decide)) (hS _ (by decide))⟩
  · rw [hf 4 (hS _ (by decide))]
    exact h2.imp id (fun h => ⟨h.1, h.2.fr hf (hS _ (by decide))⟩)
  · rw [hf 4 (hS _ (by decide))]; exact h3
  · rw [hf 6 (hS _ (by decide))]; exact h4
  · rw [hf 6 (hS _ (by decide))]; exact h5
/-- the cells of the class -/
def zCL : List Nat := [0, 1, 2, 3, 4, 5, 6, 7, 8, 10, 11, 12, 13, 14, 15, 16, 17, 18, 19, 20, 21, 22, 23, 24, 25, 26, 27, 28, 29, 30, 31, 32, 33, 34]
theorem p2_lt {n : Nat} (h : n ≤ 6) : 2 ^ n - 1 < 64 := by
  rcases (show n = 0 ∨ n = 1 ∨ n = 2 ∨ n = 3 ∨ n = 4 ∨ n = 5 ∨ n = 6 by omega) with rfl | rfl | rfl | rfl | rfl | rfl | rfl <;> decide
theorem sp_S_settle (M : zMem) (B : Nat → Nat → Nat) (h : abC M B) : zSp zd_S_settle 5 [zr 0] M (fun _ M' => zfr [3, 4, 6, 15, 16, 17, 18, 20, 27, 28, 29] M M' ∧ abC0 M' B ∧ abO M' B ∧ stl M' B) := by
  refine zSp_in 0 [some (zr 0)] rfl rfl (by decide +kernel) rfl ?_
  refine z_withR (fun hR => ?_)
  obtain ⟨h0, hO, h1, h2, Kf, Ws, w, K0, k1, k2, k3, k4, k5, k6, k7, k8, k9⟩ := h
  have hT := h0.1
  have hP := h0.2.2.1
  have hN := h0.2.2.2.1
  have hP6 := hP.2.1
  have hl : 2 ^ B 3 0 - 1 < 256 := Nat.lt_trans (p2_lt hP6) (by decide)
  refine zaload_1_0 dX8_settle_0 ?_
  refine zg_S_35 rfl dX8_settle_1 ?_
  refine zaload_1_0 dX8_settle_4 ?_
  refine zg_S_10 rfl dX8_settle_5 ?_
  refine zaload_1_0 dX8_settle_8 ?_
  refine zg_S_19 rfl dX8_settle_9 ?_
  refine zc_S_241 rfl dX8_settle_12 (by decide) (Nat.le_of_ble_eq_true rfl) (sp_Catalog_settle M (B 1) (B 2) (B 4) (B 5) Kf (B 0 0) (B 3 0) w hT hP k3 k4 k1 h1) (fun r12 M12 hq12 => ?_)
  refine z_withR (fun hR => ?_)
  obtain ⟨f1, e44, c1, e45, e46, Kf2, hK2, hKb⟩ := hq12
  have hP2 := hP.fr f1 (by decide) (by decide) (by decide)
  have kf2 : kfO B (B 3 0) Kf2 := by
    intro e he
    refine ⟨fun l hl => ?_, fun s hs => ?_⟩
    · rw [hKb e he l]
      by_cases q : w ≤ l
      · rw [if_pos ⟨q, hl⟩]
      · rw [if_neg (fun z => q z.1)]
        exact (k2 e he).1 l (by omega)
    · rw [hKb e he, if_neg (by omega)]
      exact (k2 e he).2 s hs
  have hqe : ∀ e, e < 3341 → wK B e = kq Kf2 (2 ^ B 3 0 - 1) e := fun e he => (kf2.all he).symm
  refine zaload_1_0 dX8_settle_15 ?_
  refine zg_S_51 rfl dX8_settle_16 ?_
  refine zaload_1_0 dX8_settle_19 ?_
  refine zg_S_19 rfl dX8_settle_20 ?_
  refine zc_S_106 rfl dX8_settle_23 (by decide) (Nat.le_of_ble_eq_true rfl) (sp_Page_all M12 (B 3 0) hP6 hP2.1) (fun r23 M23 hq23 => ?_)
  refine z_withR (fun hR => ?_)
  obtain ⟨rfl, rfl⟩ := hq23
  have hlk : (M23 6 8 = 0 ∧ K0 = 0) ∨ (M23 6 8 = 1 ∧ lsOK M23 (kq Kf2 (2 ^ B 3 0 - 1)) ∧ ∀ v, v < lS (kq Kf2 (2 ^ B 3 0 - 1)) → ∀ i, i < K0 → dn Ws (lE (kq Kf2 (2 ^ B 3 0 - 1)) v) i = true) := by
    rw [f1 6 (by decide)]
    refine k9.imp id (fun h => ⟨h.1, (h.2.2.1.fr f1 (by decide) (by decide) (by decide)).to hqe, ?_⟩)
    rw [← lS_to hqe, ← lE_to hqe]
    exact h.2.2.2
  refine zc_S_242 rfl dX8_settle_26 (by decide) (Nat.le_of_ble_eq_true rfl) (sp_Rows_settle M23 (B 1) (B 2) (B 7) (B 8) (B 9) Kf2 Ws (B 0 0) (B 6 0) (2 ^ B 3 0 - 1) K0 c1 (hT.fr f1 (by decide) (by decide) (by decide) (by decide)) (hN.fr f1 (by decide) (by decide) (by decide) (by decide) (by decide) (by decide)) hK2 hl (k5.fr f1 (by decide)) k6 (by rw [f1 6 (by decide)]; exact k7) k8 hlk) (fun r26 M26 hq26 => ?_)
  refine z_withR (fun hR => ?_)
  refine z_vret rfl ?_ dX8_settle_29
  obtain ⟨f2, e68, e69, Ws2, r2⟩ := hq26
  have ff : zfr [3, 4, 6, 15, 16, 17, 18, 20, 27, 28, 29] M M26 := f1.tr f2 (by decide) (by decide)
  refine ⟨ff, h0.fr ff (by decide), hO.fr ff (by decide), ⟨?_, c1.fr f2 (by decide) (by decide)⟩, ?_, ?_, e68, e69, ⟨Kf2, hK2.fr f2 (by decide), kf2⟩, Ws2, r2.to (fun e he => (hqe e he).symm)⟩
  · rw [f2 4 (by decide)]; exact e44
  · rw [f2 4 (by decide), e45]
    exact h2.imp id (fun h => ⟨h.1, h.2.fr ff (by decide)⟩)
  · rw [f2 4 (by decide)]; exact e46
