theorem sp_Rows_isCandidate (M : zMem) (q : Nat → Bool) (N : Nat) (Ws : Nat → Nat) (S : Nat → Nat → Nat → Bool) (C : Nat → Nat → Bool) (n : Nat) (h : rdy M q N Ws S) (hN : N ≤ 12) (hn : n < N) (hC : ∀ w, w < lS q → M 30 w = bm (C w) (lQ q w)) : zSp zd_Rows_isCandidate 2 [zr 6, zi n] M (fun r M' => M' = M ∧ ((r = 1 ∧ ∀ w, w < lS q → ∀ j, j < lQ q w → S (lE q w) n j = C w j) ∨ (r = 0 ∧ ¬ ∀ w, w < lS q → ∀ j, j < lQ q w → S (lE q w) n j = C w j))) := by
  refine zSp_in 1 [some (zr 6), some (zi n), none] rfl rfl (by decide +kernel) rfl ?_
  refine z_withR (fun hR => ?_)
  have h40 := lS_le q
  have e66 := h.1.1
  have loop : ∀ (c w : Nat), w + c = lS q → (∀ w', w' < w → ∀ j, j < lQ q w' → S (lE q w') n j = C w' j) → zV zd_Rows_isCandidate 2 2 [some (zr 6), some (zi n), some (zi w)] [] M (fun r M' => M' = M ∧ ((r = 1 ∧ ∀ w, w < lS q → ∀ j, j < lQ q w → S (lE q w) n j = C w j) ∨ (r = 0 ∧ ¬ ∀ w, w < lS q → ∀ j, j < lQ q w → S (lE q w) n j = C w j))) := by
    intro c
    induction c with
    | zero =>
      intro w hw hy
      refine ziload_3_2 dX5_isCandidate_2 ?_
      refine zaload_3_0 dX5_isCandidate_3 ?_
      refine zg_Rows_18 rfl dX5_isCandidate_4 ?_
      refine z_top e66 ?_
      refine z_icmp_ge (tgt := 33) (by first | omega | exact hR.1 _ _ (by decide) | exact zrng_toInt _) (by first | omega | exact hR.1 _ _ (by decide) | exact zrng_toInt _) dX5_isCandidate_7 (by decide) (fun h7 => ?_) (fun h7 => ?_)
      · refine z_iconst dX5_isCandidate_33 ?_
        refine z_zret rfl (by omega) ?_ dX5_isCandidate_34
        exact ⟨rfl, Or.inl ⟨rfl, fun w' h1 => hy w' (by omega)⟩⟩
      · omega
    | succ c ih =>
      intro w hw hy
      have hq9 := lQ_le q w
      have b1 := bm512 (S (lE q w) n) hq9.1
      have b2 := bm512 (C w) hq9.1
      have hCw := hC w (by omega)
      refine ziload_3_2 dX5_isCandidate_2 ?_
      refine zaload_3_0 dX5_isCandidate_3 ?_
      refine zg_Rows_18 rfl dX5_isCandidate_4 ?_
      refine z_top e66 ?_
      refine z_icmp_ge (tgt := 33) (by first | omega | exact hR.1 _ _ (by decide) | exact zrng_toInt _) (by first | omega | exact hR.1 _ _ (by decide) | exact zrng_toInt _) dX5_isCandidate_7 (by decide) (fun h7 => ?_) (fun h7 => ?_)
      · omega
      · refine zaload_3_0 dX5_isCandidate_10 ?_
        refine ziload_3_1 dX5_isCandidate_11 ?_
        refine ziload_3_2 dX5_isCandidate_12 ?_
        refine zc_Rows_116 rfl dX5_isCandidate_13 (by decide) (Nat.le_of_ble_eq_true rfl) (sp_Rows_at M q N Ws S n w h hN hn (by omega)) (fun r13 M13 hq13 => ?_)
        refine z_withR (fun hR => ?_)
        obtain ⟨rfl, rfl⟩ := hq13
        refine zaload_3_0 dX5_isCandidate_16 ?_
        refine zg_Rows_38 rfl dX5_isCandidate_17 ?_
        refine ziload_3_2 dX5_isCandidate_20 ?_
        refine z_iald _ rfl (by decide) (by decide) rfl (by omega) dX5_isCandidate_21 ?_
        refine z_top hCw ?_
        refine z_icmp_eq (tgt := 27) (by first | omega | exact hR.1 _ _ (by decide) | exact zrng_toInt _) (by first | omega | exact hR.1 _ _ (by decide) | exact zrng_toInt _) dX5_isCandidate_22 (by decide) (fun h22 => ?_) (fun h22 => ?_)
        · refine ziinc_3_2 dX5_isCandidate_27 ?_
          refine z_goto (tgt := 2) dX5_isCandidate_30 (by decide) ?_
          refine ih (w + 1) (by omega) (fun w' h1 => ?_)
          rcases Nat.lt_or_ge w' w with q1 | q1
          · exact hy w' q1
          · rw [show w' = w by omega]; exact bm_inj.mp (by omega)
        · refine z_iconst dX5_isCandidate_25 ?_
          refine z_zret rfl (by omega) ?_ dX5_isCandidate_26
          refine ⟨rfl, Or.inr ⟨rfl, fun h9 => h22 ?_⟩⟩
          rw [bm_congr (h9 w (by omega))]
  refine z_iconst dX5_isCandidate_0 ?_
  refine zistore_3_2 dX5_isCandidate_1 ?_
  exact loop (lS q) 0 (by omega) (fun w' h1 => absurd h1 (Nat.not_lt_zero _))
/-- a row is like that of a notion -/
def oldP (q : Nat → Bool) (N : Nat) (S : Nat → Nat → Nat → Bool) (C : Nat → Nat → Bool) : Prop := ∃ n, n < N ∧ ∀ w, w < lS q → ∀ j, j < lQ q w → S (lE q w) n j = C w j
theorem sp_Rows_isCandidateNew (M : zMem) (q : Nat → Bool) (N : Nat) (Ws : Nat → Nat) (S : Nat → Nat → Nat → Bool) (C : Nat → Nat → Bool) (h : rdy M q N Ws S) (hN : N ≤ 12) (h56 : M 5 6 = N) (hC : ∀ w, w < lS q → M 30 w = bm (C w) (lQ q w)) : zSp zd_Rows_isCandidateNew 3 [zr 6] M (fun r M' => M' = M ∧ ((r = 1 ∧ ¬ oldP q N S C) ∨ (r = 0 ∧ oldP q N S C))) := by
  refine zSp_in 1 [some (zr 6), none] rfl rfl (by decide +kernel) rfl ?_
  refine z_withR (fun hR => ?_)
  have loop : ∀ (c n : Nat), n + c = N → (¬ ∃ n', n' < n ∧ ∀ w, w < lS q → ∀ j, j < lQ q w → S (lE q w) n' j = C w j) → zV zd_Rows_isCandidateNew 3 2 [some (zr 6), some (zi n)] [] M (fun r M' => M' = M ∧ ((r = 1 ∧ ¬ oldP q N S C) ∨ (r = 0 ∧ oldP q N S C))) := by
    intro c
    induction c with
    | zero =>
      intro n hn hy
      refine ziload_2_1 dX5_isCandidateNew_2 ?_
      refine zaload_2_0 dX5_isCandidateNew_3 ?_
      refine zg_Rows_55 rfl dX5_isCandidateNew_4 ?_
      refine zg_Rows_67 rfl dX5_isCandidateNew_7 ?_
      refine z_top h56 ?_
      refine z_icmp_ge (tgt := 29) (by first | omega | exact hR.1 _ _ (by decide) | exact zrng_toInt _) (by first | omega | exact hR.1 _ _ (by decide) | exact zrng_toInt _) dX5_isCandidateNew_10 (by decide) (fun h10 => ?_) (fun h10 => ?_)
      · refine z_iconst dX5_isCandidateNew_29 ?_
        refine z_zret rfl (by omega) ?_ dX5_isCandidateNew_30
        exact ⟨rfl, Or.inl ⟨rfl, fun ⟨n', h1, h2⟩ => hy ⟨n', by omega, h2⟩⟩⟩
      · omega
    | succ c ih =>
      intro n hn hy
      refine ziload_2_1 dX5_isCandidateNew_2 ?_
      refine zaload_2_0 dX5_isCandidateNew_3 ?_
      refine zg_Rows_55 rfl dX5_isCandidateNew_4 ?_
      refine zg_Rows_67 rfl dX5_isCandidateNew_7 ?_
      refine z_top h56 ?_
      refine z_icmp_ge (tgt := 29) (by first | omega | exact hR.1 _ _ (by decide) | exact zrng_toInt _) (by first | omega | exact hR.1 _ _ (by decide) | exact zrng_toInt _) dX5_isCandidateNew_10 (by decide) (fun h10 => ?_) (fun h10 => ?_)
      · omega
      · refine zaload_2_0 dX5_isCandidateNew_13 ?_
        refine ziload_2_1 dX5_isCandidateNew_14 ?_
        refine zc_Rows_160 rfl dX5_isCandidateNew_15 (by decide) (Nat.le_of_ble_eq_true rfl) (sp_Rows_isCandidate M q N Ws S C n h hN (by omega) hC) (fun r15 M15 hq15 => ?_)
        refine z_withR (fun hR => ?_)
        obtain ⟨rfl, hc9⟩ := hq15
        refine z_if_eq (tgt := 23) (by omega) dX5_isCandidateNew_18 (by decide) (fun h18 => ?_) (fun h18 => ?_)
        · have hno := (hc9.resolve_left (fun h9 => by omega)).2
          refine ziinc_2_1 dX5_isCandidateNew_23 ?_
          refine z_goto (tgt := 2) dX5_isCandidateNew_26 (by decide) ?_
          refine ih (n + 1) (by omega) (fun ⟨n', h1, h2⟩ => ?_)
          rcases Nat.lt_or_ge n' n with q1 | q1
          · exact hy ⟨n', q1, h2⟩
          · rw [show n' = n by omega] at h2; exact hno h2
        · have hyes := (hc9.resolve_right (fun h9 => h18 h9.1)).2
          refine z_iconst dX5_isCandidateNew_21 ?_
          refine z_zret rfl (by omega) ?_ dX5_isCandidateNew_22
          exact ⟨rfl, Or.inr ⟨rfl, n, by omega, hyes⟩⟩
  refine z_iconst dX5_isCandidateNew_0 ?_
  refine zistore_2_1 dX5_isCandidateNew_1 ?_
  exact loop N 0 (by omega) (fun ⟨n', h1, _⟩ => absurd h1 (Nat.not_lt_zero _))
def mayB (N : Nat) (aw : Nat → Bool) (w a b : Nat) : Bool := decide (a < N) && (aw a && (if w = 2 then decide (a < b) && (decide (b < N) && aw b) else b == 0))
theorem sp_Rows_mightBeMade (M : zMem) (N : Nat) (aw : Nat → Bool) (w a b : Nat) (hN : N ≤ 12) (haw : awM M N aw) (hw : w ≤ 6) (ha : a < N) (hb : b < N) : zSp zd_Rows_mightBeMade 0 [zr 6, zi w, zi a, zi b] M (fun r M' => M' = M ∧ r = if mayB N aw w a b then 1 else 0) := by
  refine zSp_in 0 [some (zr 6), some (zi w), some (zi a), some (zi b)] rfl rfl (by decide +kernel) rfl ?_
  refine z_withR (fun hR => ?_)
  have e : mayB N aw w a b = (aw a && (if w = 2 then decide (a < b) && aw b else b == 0)) := by unfold mayB; simp [ha, hb]
  rw [e]
  have h1 := haw a ha
  have h2 := haw b hb
  refine zaload_4_0 dX5_mightBeMade_0 ?_
  refine zg_Rows_55 rfl dX5_mightBeMade_1 ?_
  refine zg_Rows_135 rfl dX5_mightBeMade_4 ?_
  refine ziload_4_2 dX5_mightBeMade_7 ?_
  refine z_zald _ rfl (by decide) (by decide) rfl (by omega) dX5_mightBeMade_8 ?_
  refine z_top h1 ?_
  refine z_if_eq (tgt := 45) (by split <;> omega) dX5_mightBeMade_9 (by decide) (fun h9 => ?_) (fun h9 => ?_)
  · have ka : aw a = false := by revert h9; cases aw a <;> simp
    refine z_iconst dX5_mightBeMade_45 ?_
    refine z_zret rfl (by omega) ?_ dX5_mightBeMade_46
    refine ⟨rfl, ?_⟩
    first
    | (simp_all; done)
    | (simp_all; intros; omega)
  · have ka : aw a = true := by revert h9; cases aw a <;> simp
    refine ziload_4_1 dX5_mightBeMade_12 ?_
    refine z_iconst dX5_mightBeMade_13 ?_
    refine z_icmp_ne (tgt := 37) (by first | omega | exact hR.1 _ _ (by decide) | exact zrng_toInt _) (by first | omega | exact hR.1 _ _ (by decide) | exact zrng_toInt _) dX5_mightBeMade_14 (by decide) (fun h14 => ?_) (fun h14 => ?_)
    · have k2 : ¬ w = 2 := by omega
      refine ziload_4_3 dX5_mightBeMade_37 ?_
      refine z_if_ne (tgt := 45) (by first | omega | exact hR.1 _ _ (by decide) | exact zrng_toInt _) dX5_mightBeMade_38 (by decide) (fun h38 => ?_) (fun h38 => ?_)
      · have k0 : ¬ b = 0 := by omega
        refine z_iconst dX5_mightBeMade_45 ?_
        refine z_zret rfl (by omega) ?_ dX5_mightBeMade_46
        refine ⟨rfl, ?_⟩
        first
        | (simp_all; done)
        | (simp_all; intros; omega)
      · have k0 : b = 0 := by omega
        refine z_iconst dX5_mightBeMade_41 ?_
        refine z_goto (tgt := 46) dX5_mightBeMade_42 (by decide) ?_
        refine z_zret rfl (by omega) ?_ dX5_mightBeMade_46
        refine ⟨rfl, ?_⟩
        first
        | (simp_all; done)
        | (simp_all; intros; omega)
    · have k2 : w = 2 := by omega
      refine ziload_4_3 dX5_mightBeMade_17 ?_
      refine ziload_4_2 dX5_mightBeMade_18 ?_
      refine z_icmp_le (tgt := 45) (by first | omega | exact hR.1 _ _ (by decide) | exact zrng_toInt _) (by first | omega | exact hR.1 _ _ (by decide) | exact zrng_toInt _) dX5_mightBeMade_19 (by decide) (fun h19 => ?_) (fun h19 => ?_)
      · have kl : ¬ a < b := by omega
        refine z_iconst dX5_mightBeMade_45 ?_
        refine z_zret rfl (by omega) ?_ dX5_mightBeMade_46
        refine ⟨rfl, ?_⟩
        first
        | (simp_all; done)
        | (simp_all; intros; omega)
      · have kl : a < b := by omega
        refine zaload_4_0 dX5_mightBeMade_22 ?_
        refine zg_Rows_55 rfl dX5_mightBeMade_23 ?_
        refine zg_Rows_135 rfl dX5_mightBeMade_26 ?_
        refine ziload_4_3 dX5_mightBeMade_29 ?_
        refine z_zald _ rfl (by decide) (by decide) rfl (by omega) dX5_mightBeMade_30 ?_
        refine z_top h2 ?_
        refine z_if_eq (tgt := 45) (by split <;> omega) dX5_mightBeMade_31 (by decide) (fun h31 => ?_) (fun h31 => ?_)
        · have kb : aw b = false := by revert h31; cases aw b <;> simp
          refine z_iconst dX5_mightBeMade_45 ?_
          refine z_zret rfl (by omega) ?_ dX5_mightBeMade_46
          refine ⟨rfl, ?_⟩
          first
          | (simp_all; done)
          | (simp_all; intros; omega)
        · have kb : aw b = true := by revert h31; cases aw b <;> simp
          refine z_goto (tgt := 41) dX5_mightBeMade_34 (by decide) ?_
          refine z_iconst dX5_mightBeMade_41 ?_
          refine z_goto (tgt := 46) dX5_mightBeMade_42 (by decide) ?_
          refine z_zret rfl (by omega) ?_ dX5_mightBeMade_46
          refine ⟨rfl, ?_⟩
          first
          | (simp_all; done)
          | (simp_all; intros; omega)
/-- the row that a way would make of notions a and b -/
noncomputable def tC (q : Nat → Bool) (S : Nat → Nat → Nat → Bool) (w a b : Nat) (v : Nat) : Nat → Bool := mkR w (eSz (lE q v)) (S (lE q v) a) (S (lE q v) b)
noncomputable def rrN (q : Nat → Bool) (F : Nat → Nat → Bool) : Nat := min (lC q F (lS q)) (lP q (lS q) - lC q F (lS q))
theorem sp_Rows_tryNext (M : zMem) (q : Nat → Bool) (N : Nat) (Ws : Nat → Nat) (S : Nat → Nat → Nat → Bool) (w a b : Nat) (h : rdy M q N Ws S) (hN : N ≤ 12) (h56 : M 5 6 = N) (hw : 1 ≤ w ∧ w ≤ 6) (ha : a < N) (hb : b < N) : zSp zd_Rows_tryNext 4 [zr 6, zi w, zi a, zi b] M (fun _ M' => zfr [6, 30] M M' ∧ (∀ i, i ≠ 12 → i ≠ 13 → M' 6 i = M 6 i) ∧
      ((M 6 13 < rrN q (tC q S w a b) ∧ ¬ oldP q N S (tC q S w a b) ∧ M' 6 13 = rrN q (tC q S w a b) ∧ M' 6 12 = ((10000 * w + 100 * a + b : Nat) : Int)) ∨ (¬ (M 6 13 < rrN q (tC q S w a b) ∧ ¬ oldP q N S (tC q S w a b)) ∧ M' 6 13 = M 6 13 ∧ M' 6 12 = M 6 12))) := by
  refine zSp_in 3 [some (zr 6), some (zi w), some (zi a), some (zi b), none, none, none] rfl rfl (by decide +kernel) rfl ?_
  refine z_withR (fun hR => ?_)
  have h40 := lS_le q
  have hR13 : zrng (M 6 13) := hR.1 _ _ (by decide)
  obtain ⟨C, hC⟩ : ∃ C, C = tC q S w a b := ⟨_, rfl⟩
  rw [← hC]
  obtain ⟨post, hpost⟩ : ∃ post : Int → zMem → Prop, post = (fun (_ : Int) M' => zfr [6, 30] M M' ∧ (∀ i, i ≠ 12 → i ≠ 13 → M' 6 i = M 6 i) ∧
      ((M 6 13 < rrN q C ∧ ¬ oldP q N S C ∧ M' 6 13 = rrN q C ∧ M' 6 12 = ((10000 * w + 100 * a + b : Nat) : Int)) ∨ (¬ (M 6 13 < rrN q C ∧ ¬ oldP q N S C) ∧ M' 6 13 = M 6 13 ∧ M' 6 12 = M 6 12))) := ⟨_, rfl⟩
  rw [← hpost]
  have loop : ∀ (c v : Nat) (M1 : zMem) (g : Option zAV), v + c = lS q → zfr [30] M M1 → (∀ v', v' < v → M1 30 v' = bm (C v') (lQ q v')) → zV zd_Rows_tryNext 4 6 [some (zr 6), some (zi w), some (zi a), some (zi b), some (zi (lC q C v)), some (zi v), g] [] M1 post := by
    intro c
    induction c with
    | zero =>
      intro v M1 g hv hf hcd
      have hr1 : rdy M1 q N Ws S := h.ext hN hf (by decide) (by decide) (by decide) (h.2.1.fr hf (by decide)) h.2.2.1 (fun _ _ _ _ h => h)
      have e66 := hr1.1.1
      have hvS : v = lS q := by omega
      subst hvS
      have hle := lC_le q C (lS q)
      have hpl := lP_le q (lS q)
      have h13 : M1 6 13 = M 6 13 := by rw [hf 6 (by decide)]
      have h12 : M1 6 12 = M 6 12 := by rw [hf 6 (by decide)]
      have hrr : rrN q C = min (lC q C (lS q)) (lP q (lS q) - lC q C (lS q)) := rfl
      refine z_withR (fun hR => ?_)
      refine ziload_7_5 dX5_tryNext_6 ?_
      refine zaload_7_0 dX5_tryNext_8 ?_
      refine zg_Rows_18 rfl dX5_tryNext_9 ?_
      refine z_top e66 ?_
      refine z_icmp_ge (tgt := 80) (by first | omega | exact hR.1 _ _ (by decide) | exact zrng_toInt _) (by first | omega | exact hR.1 _ _ (by decide) | exact zrng_toInt _) dX5_tryNext_12 (by decide) (fun h12 => ?_) (fun h12 => ?_)
      · refine zaload_7_0 dX5_tryNext_80 ?_
        refine ziload_7_4 dX5_tryNext_81 ?_
        refine zc_Rows_153 rfl dX5_tryNext_83 (by decide) (Nat.le_of_ble_eq_true rfl) (sp_Rows_rare M1 _ _ hr1.1.2.1 hle (by omega)) (fun r83 M83 hq83 => ?_)
        refine z_withR (fun hR => ?_)
        obtain ⟨rfl, rfl⟩ := hq83
        rw [← hrr]
        refine zaload_7_0 dX5_tryNext_86 ?_
        refine zg_Rows_44 rfl dX5_tryNext_87 ?_
        refine z_top h13 ?_
        refine z_icmp_le (tgt := 126) (by omega) (by first | omega | exact hR.1 _ _ (by decide) | exact zrng_toInt _) dX5_tryNext_90 (by decide) (fun h90 => ?_) (fun h90 => ?_)
        · have hn : ¬ (M 6 13 < rrN q C ∧ ¬ oldP q N S C) := fun h9 => by omega
          refine z_vret rfl ?_ dX5_tryNext_126
          rw [hpost]
          first
          | exact ⟨hf.up (by decide), fun i _ _ => by rw [hf 6 (by decide)], Or.inr ⟨hn, h13, h12⟩⟩
          | exact ⟨((hf.up (by decide)).mu (by decide)).mu (by decide), fun i i1 i2 => by rw [zmu_ne _ _ _ _ i1, zmu_ne _ _ _ _ i2, hf 6 (by decide)], Or.inl ⟨by omega, hnew, by rw [zmu_ne _ _ _ _ (by decide), zmu_same], by rw [zmu_same]; omega⟩⟩
        · refine zaload_7_0 dX5_tryNext_93 ?_
          refine zc_Rows_156 rfl dX5_tryNext_94 (by decide) (Nat.le_of_ble_eq_true rfl) (sp_Rows_isCandidateNew M83 q N Ws S C hr1 hN (by rw [hf 5 (by decide)]; exact h56) (fun w' hw' => hcd w' hw')) (fun r94 M94 hq94 => ?_)
          refine z_withR (fun hR => ?_)
          obtain ⟨rfl, hc9⟩ := hq94
          refine z_if_eq (tgt := 126) (by omega) dX5_tryNext_97 (by decide) (fun h97 => ?_) (fun h97 => ?_)
          · have hn : ¬ (M 6 13 < rrN q C ∧ ¬ oldP q N S C) := fun h9 => h9.2 (hc9.resolve_left (fun h8 => by omega)).2
            refine z_vret rfl ?_ dX5_tryNext_126
            rw [hpost]
            first
            | exact ⟨hf.up (by decide), fun i _ _ => by rw [hf 6 (by decide)], Or.inr ⟨hn, h13, h12⟩⟩
            | exact ⟨((hf.up (by decide)).mu (by decide)).mu (by decide), fun i i1 i2 => by rw [zmu_ne _ _ _ _ i1, zmu_ne _ _ _ _ i2, hf 6 (by decide)], Or.inl ⟨by omega, hnew, by rw [zmu_ne _ _ _ _ (by decide), zmu_same], by rw [zmu_same]; omega⟩⟩
          · have hnew := (hc9.resolve_right (fun h8 => h97 h8.1)).2
            refine zaload_7_0 dX5_tryNext_100 ?_
            refine zaload_7_0 dX5_tryNext_101 ?_
            refine ziload_7_4 dX5_tryNext_102 ?_
            refine zc_Rows_153 rfl dX5_tryNext_104 (by decide) (Nat.le_of_ble_eq_true rfl) (sp_Rows_rare M94 _ _ hr1.1.2.1 hle (by omega)) (fun r104 M104 hq104 => ?_)
            refine z_withR (fun hR => ?_)
            obtain ⟨rfl, rfl⟩ := hq104
            rw [← hrr]
            refine zp_Rows_44 rfl (by first | omega | exact hR.1 _ _ (by decide) | exact zrng_toInt _) dX5_tryNext_107 ?_
            refine z_withR (fun hR => ?_)
            refine zaload_7_0 dX5_tryNext_110 ?_
            refine z_sipush dX5_tryNext_111 (by decide) ?_
            refine ziload_7_1 dX5_tryNext_114 ?_
            refine z_imul dX5_tryNext_115 ?_
            refine z_bipush dX5_tryNext_116 (by decide) ?_
            refine ziload_7_2 dX5_tryNext_118 ?_
            refine z_imul dX5_tryNext_119 ?_
            refine z_iadd dX5_tryNext_120 ?_
            refine ziload_7_3 dX5_tryNext_121 ?_
            refine z_iadd dX5_tryNext_122 ?_
            refine zp_Rows_41 rfl (by first | omega | exact hR.1 _ _ (by decide) | exact zrng_toInt _) dX5_tryNext_123 ?_
            refine z_withR (fun hR => ?_)
            refine z_vret rfl ?_ dX5_tryNext_126
            rw [hpost]
            first
            | exact ⟨hf.up (by decide), fun i _ _ => by rw [hf 6 (by decide)], Or.inr ⟨hn, h13, h12⟩⟩
            | exact ⟨((hf.up (by decide)).mu (by decide)).mu (by decide), fun i i1 i2 => by rw [zmu_ne _ _ _ _ i1, zmu_ne _ _ _ _ i2, hf 6 (by decide)], Or.inl ⟨by omega, hnew, by rw [zmu_ne _ _ _ _ (by decide), zmu_same], by rw [zmu_same]; omega⟩⟩
      · omega
    | succ c ih =>
      intro v M1 g hv hf hcd
      have hr1 : rdy M1 q N Ws S := h.ext hN hf (by decide) (by decide) (by decide) (h.2.1.fr hf (by decide)) h.2.2.1 (fun _ _ _ _ h => h)
      have e66 := hr1.1.1
      have hq9 := lQ_le q v
      have hc := lC_le9 q C v
      have hfc := fb_ct_le (C v) (lQ q v)
      have bC := bm512 (C v) hq9.1
      have e1 : lC q C (v + 1) = lC q C v + fb_ct (C v) (lQ q v) := rfl
      have k31 : ∀ G : Nat → Bool, (∀ j, mkR w (eSz (lE q v)) (S (lE q v) a) G j = C v j) → ∀ g : Option zAV, zV zd_Rows_tryNext 4 31 [some (zr 6), some (zi w), some (zi a), some (zi b), some (zi (lC q C v)), some (zi v), g] [zi (bm G (lQ q v))] M1 post := by
        intro G hG g
        refine z_withR (fun hR => ?_)
        refine zistore_7_6 dX5_tryNext_31 ?_
        refine zaload_7_0 dX5_tryNext_33 ?_
        refine zg_Rows_38 rfl dX5_tryNext_34 ?_
        refine ziload_7_5 dX5_tryNext_37 ?_
        refine ziload_7_1 dX5_tryNext_39 ?_
        refine zaload_7_0 dX5_tryNext_40 ?_
        refine ziload_7_5 dX5_tryNext_41 ?_
        refine zc_Rows_150 rfl dX5_tryNext_43 (by decide) (Nat.le_of_ble_eq_true rfl) (sp_Rows_sizeAt M1 q v hr1.1 (by omega)) (fun r43 M43 hq43 => ?_)
        refine z_withR (fun hR => ?_)
        obtain ⟨rfl, rfl⟩ := hq43
        refine zaload_7_0 dX5_tryNext_46 ?_
        refine ziload_7_2 dX5_tryNext_47 ?_
        refine ziload_7_5 dX5_tryNext_48 ?_
        refine zc_Rows_116 rfl dX5_tryNext_50 (by decide) (Nat.le_of_ble_eq_true rfl) (sp_Rows_at M43 q N Ws S a v hr1 hN ha (by omega)) (fun r50 M50 hq50 => ?_)
        refine z_withR (fun hR => ?_)
        obtain ⟨rfl, rfl⟩ := hq50
        refine ziload_7_6 dX5_tryNext_53 ?_
        refine zc_Rows_110 rfl dX5_tryNext_55 (by decide) (Nat.le_of_ble_eq_true rfl) (sp_Bits_made M50 w (eSz (lE q v)) (S (lE q v) a) G (okn_eSz _) hw) (fun r55 M55 hq55 => ?_)
        refine z_withR (fun hR => ?_)
        obtain ⟨rfl, rfl⟩ := hq55
        rw [show bm (mkR w (eSz (lE q v)) (S (lE q v) a) G) (eSz (lE q v) * eSz (lE q v)) = bm (C v) (lQ q v) from bm_congr (fun j _ => hG j)]
        refine z_iast (v) (by decide) rfl (by decide) (by decide) (by omega) (by omega) (by first | omega | exact hR.1 _ _ (by decide) | exact zrng_toInt _) dX5_tryNext_58 ?_
        refine z_withR (fun hR => ?_)
        refine ziload_7_4 dX5_tryNext_59 ?_
        refine zaload_7_0 dX5_tryNext_61 ?_
        refine zg_Rows_38 rfl dX5_tryNext_62 ?_
        refine ziload_7_5 dX5_tryNext_65 ?_
        refine z_iald (v) rfl (by decide) (by decide) (by omega) (by omega) dX5_tryNext_67 ?_
        refine z_top (zmu_same _ _ _ _) ?_
        refine zc_Rows_119 rfl dX5_tryNext_68 (by decide) (Nat.le_of_ble_eq_true rfl) (sp_Integer_bitCount _ (C v) (lQ q v) hq9.1) (fun r68 M68 hq68 => ?_)
        refine z_withR (fun hR => ?_)
        obtain ⟨rfl, rfl⟩ := hq68
        refine z_iadd dX5_tryNext_71 ?_
        refine z_top (y := ((lC q C (v + 1) : Nat) : Int)) (by rw [e1]; omega) ?_
        refine zistore_7_4 dX5_tryNext_72 ?_
        refine ziinc_7_5 dX5_tryNext_74 ?_
        refine z_goto (tgt := 6) dX5_tryNext_77 (by decide) ?_
        refine ih (v + 1) _ _ (by omega) (hf.mu (by decide)) (fun v' h1 => ?_)
        rcases Nat.lt_or_ge v' v with q1 | q1
        · rw [zmu_ne _ _ _ _ (by omega)]; exact hcd v' q1
        · rw [show v' = v by omega, zmu_same]
      have hz : bm (fun _ => false) (lQ q v) = 0 := (bm_eq_zero _ _).mpr (fun ⟨z, _, h9⟩ => by cases h9)
      refine z_withR (fun hR => ?_)
      refine ziload_7_5 dX5_tryNext_6 ?_
      refine zaload_7_0 dX5_tryNext_8 ?_
      refine zg_Rows_18 rfl dX5_tryNext_9 ?_
      refine z_top e66 ?_
      refine z_icmp_ge (tgt := 80) (by first | omega | exact hR.1 _ _ (by decide) | exact zrng_toInt _) (by first | omega | exact hR.1 _ _ (by decide) | exact zrng_toInt _) dX5_tryNext_12 (by decide) (fun h12 => ?_) (fun h12 => ?_)
      · omega
      · refine ziload_7_1 dX5_tryNext_15 ?_
        refine z_iconst dX5_tryNext_16 ?_
        refine z_icmp_ne (tgt := 30) (by first | omega | exact hR.1 _ _ (by decide) | exact zrng_toInt _) (by first | omega | exact hR.1 _ _ (by decide) | exact zrng_toInt _) dX5_tryNext_17 (by decide) (fun h17 => ?_) (fun h17 => ?_)
        · have hne : ¬ w = 2 := by omega
          refine z_iconst dX5_tryNext_30 ?_
          refine z_top (y := ((bm (fun _ => false) (lQ q v) : Nat) : Int)) (by rw [hz]; rfl) ?_
          first
            | exact k31 (S (lE q v) b) (fun j => by rw [hC]; rfl) g
            | exact k31 (fun _ => false) (fun j => by
                rw [hC]
                unfold tC
                rcases (show w = 1 ∨ w = 3 ∨ w = 4 ∨ w = 5 ∨ w = 6 by omega) with e | e | e | e | e <;> rw [e] <;> rfl) g
        · refine zaload_7_0 dX5_tryNext_20 ?_
          refine ziload_7_3 dX5_tryNext_21 ?_
          refine ziload_7_5 dX5_tryNext_22 ?_
          refine zc_Rows_116 rfl dX5_tryNext_24 (by decide) (Nat.le_of_ble_eq_true rfl) (sp_Rows_at M1 q N Ws S b v hr1 hN hb (by omega)) (fun r24 M24 hq24 => ?_)
          refine z_withR (fun hR => ?_)
          obtain ⟨rfl, rfl⟩ := hq24
          refine z_goto (tgt := 31) dX5_tryNext_27 (by decide) ?_
          first
            | exact k31 (S (lE q v) b) (fun j => by rw [hC]; rfl) g
            | exact k31 (fun _ => false) (fun j => by
                rw [hC]
                unfold tC
                rcases (show w = 1 ∨ w = 3 ∨ w = 4 ∨ w = 5 ∨ w = 6 by omega) with e | e | e | e | e <;> rw [e] <;> rfl) g
  refine z_iconst dX5_tryNext_0 ?_
  refine zistore_7_4 dX5_tryNext_1 ?_
  refine z_iconst dX5_tryNext_3 ?_
  refine zistore_7_5 dX5_tryNext_4 ?_
  exact loop (lS q) 0 M none (by omega) zfr.rf (fun v' h1 => absurd h1 (Nat.not_lt_zero _))
/-- THE NEXT, trial by trial: the best code and its rareness so far -/
noncomputable def nxR (q : Nat → Bool) (N : Nat) (S : Nat → Nat → Nat → Bool) (w a b : Nat) : Int := @ite _ (oldP q N S (tC q S w a b)) (Classical.propDecidable _) (-1) (rrN q (tC q S w a b) : Int)
noncomputable def nxS (q : Nat → Bool) (N : Nat) (S : Nat → Nat → Nat → Bool) (aw : Nat → Bool) : Nat → Int × Int
  | 0 => (-9, -1)
  | m + 1 =>
    let p := nxS q N S aw m
    let w := (144 + m) / 144
    let a := (144 + m) / 12 % 12
    let b := (144 + m) % 12
    if mayB N aw w a b then (if p.2 < nxR q N S w a b then (((10000 * w + 100 * a + b : Nat) : Int), nxR q N S w a b) else p) else p
theorem nxR_ge {q : Nat → Bool} {N : Nat} {S : Nat → Nat → Nat → Bool} {w a b : Nat} : -1 ≤ nxR q N S w a b ∧ nxR q N S w a b ≤ 400 := by
  unfold nxR
  have h1 : rrN q (tC q S w a b) ≤ 360 := by
    have h2 := lC_le9 q (tC q S w a b) (lS q)
    have h3 := lS_le q
    unfold rrN; omega
  split
  · omega
  · omega
theorem nxS_ge {q : Nat → Bool} {N : Nat} {S : Nat → Nat → Nat → Bool} {aw : Nat → Bool} : ∀ m, -1 ≤ (nxS q N S aw m).2 ∧ (nxS q N S aw m).2 ≤ 400 ∧ (m ≤ 864 → -9 ≤ (nxS q N S aw m).1 ∧ (nxS q N S aw m).1 ≤ 70000)
  | 0 => by rw [nxS]; exact ⟨by decide, by decide, fun _ => by decide⟩
  | m + 1 => by
    have ih := nxS_ge (q := q) (N := N) (S := S) (aw := aw) m
    rw [nxS]
    split
    · split
      · exact ⟨nxR_ge.1, nxR_ge.2, fun h => by constructor <;> dsimp only <;> omega⟩
      · exact ⟨ih.1, ih.2.1, fun h => ih.2.2 (by omega)⟩
    · exact ⟨ih.1, ih.2.1, fun h => ih.2.2 (by omega)⟩
theorem nx_wab {w a b : Nat} (hw : 1 ≤ w) (ha : a < 12) (hb : b < 12) : (144 + (144 * (w - 1) + 12 * a + b)) / 144 = w ∧ (144 + (144 * (w - 1) + 12 * a + b)) / 12 % 12 = a ∧ (144 + (144 * (w - 1) + 12 * a + b)) % 12 = b := by
  refine ⟨by omega, by omega, by omega⟩
theorem nxS_step {q : Nat → Bool} {N : Nat} {S : Nat → Nat → Nat → Bool} {aw : Nat → Bool} {w a b : Nat} (hw : 1 ≤ w) (ha : a < 12) (hb : b < 12) : nxS q N S aw (144 * (w - 1) + 12 * a + b + 1) = if mayB N aw w a b then (if (nxS q N S aw (144 * (w - 1) + 12 * a + b)).2 < nxR q N S w a b then (((10000 * w + 100 * a + b : Nat) : Int), nxR q N S w a b) else nxS q N S aw (144 * (w - 1) + 12 * a + b)) else nxS q N S aw (144 * (w - 1) + 12 * a + b) := by
  obtain ⟨h1, h2, h3⟩ := nx_wab hw ha hb
  rw [nxS, h1, h2, h3]
theorem nxS_skipB {q : Nat → Bool} {N : Nat} {S : Nat → Nat → Nat → Bool} {aw : Nat → Bool} {w a : Nat} (hw : 1 ≤ w) (ha : a < 12) (hN : 1 ≤ N) : ∀ d b, b + d = 12 → N ≤ b → nxS q N S aw (144 * (w - 1) + 12 * a + 12) = nxS q N S aw (144 * (w - 1) + 12 * a + b)
  | 0, b, h, _ => by rw [show b = 12 by omega]
  | d + 1, b, h, hb => by
    rw [nxS_skipB hw ha hN d (b + 1) (by omega) (by omega), ← Nat.add_assoc, nxS_step hw ha (by omega), if_neg]
    unfold mayB
    have h1 : ¬ b < N := by omega
    have h2 : ¬ b = 0 := by omega
    simp [h1, h2]
theorem nxS_skipA {q : Nat → Bool} {N : Nat} {S : Nat → Nat → Nat → Bool} {aw : Nat → Bool} {w : Nat} (hw : 1 ≤ w) : ∀ d m, m + d = 144 → 12 * N ≤ m → nxS q N S aw (144 * (w - 1) + 144) = nxS q N S aw (144 * (w - 1) + m)
  | 0, m, h, _ => by rw [show m = 144 by omega]
  | d + 1, m, h, hm => by
    rw [nxS_skipA hw d (m + 1) (by omega) (by omega), ← Nat.add_assoc]
    have h2 := nxS_step (q := q) (N := N) (S := S) (aw := aw) (w := w) (a := m / 12) (b := m % 12) hw (by omega) (by omega)
    rw [show 144 * (w - 1) + 12 * (m / 12) + m % 12 = 144 * (w - 1) + m by omega] at h2
    rw [h2, if_neg]
    unfold mayB
    have h1 : ¬ m / 12 < N := by omega
    simp [h1]
theorem sp_Rows_seekNext (M : zMem) (q : Nat → Bool) (N : Nat) (Ws : Nat → Nat) (S : Nat → Nat → Nat → Bool) (aw : Nat → Bool) (h : rdy M q N Ws S) (hN : N ≤ 12) (h56 : M 5 6 = N) (haw : awM M N aw) : zSp zd_Rows_seekNext 5 [zr 6] M (fun r M' => zfr [6, 30] M M' ∧ (∀ i, i ≠ 12 → i ≠ 13 → M' 6 i = M 6 i) ∧ r = (nxS q N S aw 864).1) := by
  refine zSp_in 3 [some (zr 6), none, none, none] rfl rfl (by decide +kernel) rfl ?_
  refine z_withR (fun hR => ?_)
  have st : ∀ M1 : zMem, zfr [6, 30] M M1 → (∀ i, i ≠ 12 → i ≠ 13 → M1 6 i = M 6 i) → rdy M1 q N Ws S ∧ M1 5 6 = N ∧ awM M1 N aw := by
    intro M1 hf h6
    refine ⟨⟨?_, h.2.1.fr hf (by decide), h.2.2⟩, by rw [hf 5 (by decide)]; exact h56, fun i hi => by rw [hf 26 (by decide)]; exact haw i hi⟩
    unfold lsOK
    rw [h6 6 (by decide) (by decide), h6 7 (by decide) (by decide), hf 27 (by decide), hf 28 (by decide)]
    exact h.1
  obtain ⟨post, hpost⟩ : ∃ post : Int → zMem → Prop, post = (fun (r : Int) M' => zfr [6, 30] M M' ∧ (∀ i, i ≠ 12 → i ≠ 13 → M' 6 i = M 6 i) ∧ r = (nxS q N S aw 864).1) := ⟨_, rfl⟩
  rw [← hpost]
  have inner : ∀ (w a : Nat), 1 ≤ w → w ≤ 6 → a < N → (∀ (M2 : zMem) (g : Option zAV), zfr [6, 30] M M2 → (∀ i, i ≠ 12 → i ≠ 13 → M2 6 i = M 6 i) → M2 6 12 = (nxS q N S aw (144 * (w - 1) + 12 * a + 12)).1 → M2 6 13 = (nxS q N S aw (144 * (w - 1) + 12 * a + 12)).2 → zV zd_Rows_seekNext 5 68 [some (zr 6), some (zi w), some (zi a), g] [] M2 post) →
      ∀ (c b : Nat) (M1 : zMem), b + c = N → zfr [6, 30] M M1 → (∀ i, i ≠ 12 → i ≠ 13 → M1 6 i = M 6 i) → M1 6 12 = (nxS q N S aw (144 * (w - 1) + 12 * a + b)).1 → M1 6 13 = (nxS q N S aw (144 * (w - 1) + 12 * a + b)).2 → zV zd_Rows_seekNext 5 34 [some (zr 6), some (zi w), some (zi a), some (zi b)] [] M1 post := by
    intro w a hw1 hw6 ha kk c
    induction c with
    | zero =>
      intro b M1 hb hf h6 h12 h13
      obtain ⟨r1, r2, r3⟩ := st M1 hf h6
      have hsk := nxS_skipB (q := q) (N := N) (S := S) (aw := aw) (w := w) (a := a) hw1 (by omega) (by omega) (12 - b) b (by omega) (by omega)
      refine z_withR (fun hR => ?_)
      refine ziload_4_3 dX5_seekNext_34 ?_
      refine zaload_4_0 dX5_seekNext_35 ?_
      refine zg_Rows_55 rfl dX5_seekNext_36 ?_
      refine zg_Rows_67 rfl dX5_seekNext_39 ?_
      refine z_top r2 ?_
      refine z_icmp_ge (tgt := 68) (by first | omega | exact hR.1 _ _ (by decide) | exact zrng_toInt _) (by first | omega | exact hR.1 _ _ (by decide) | exact zrng_toInt _) dX5_seekNext_42 (by decide) (fun h42 => ?_) (fun h42 => ?_)
      · exact kk M1 _ hf h6 (by rw [hsk]; exact h12) (by rw [hsk]; exact h13)
      · omega
    | succ c ih =>
      intro b M1 hb hf h6 h12 h13
      obtain ⟨r1, r2, r3⟩ := st M1 hf h6
      have hst := nxS_step (q := q) (N := N) (S := S) (aw := aw) (w := w) (a := a) (b := b) hw1 (by omega) (by omega)
      have hge := (nxS_ge (q := q) (N := N) (S := S) (aw := aw) (144 * (w - 1) + 12 * a + b)).1
      refine z_withR (fun hR => ?_)
      refine ziload_4_3 dX5_seekNext_34 ?_
      refine zaload_4_0 dX5_seekNext_35 ?_
      refine zg_Rows_55 rfl dX5_seekNext_36 ?_
      refine zg_Rows_67 rfl dX5_seekNext_39 ?_
      refine z_top r2 ?_
      refine z_icmp_ge (tgt := 68) (by first | omega | exact hR.1 _ _ (by decide) | exact zrng_toInt _) (by first | omega | exact hR.1 _ _ (by decide) | exact zrng_toInt _) dX5_seekNext_42 (by decide) (fun h42 => ?_) (fun h42 => ?_)
      · omega
      · refine zaload_4_0 dX5_seekNext_45 ?_
        refine ziload_4_1 dX5_seekNext_46 ?_
        refine ziload_4_2 dX5_seekNext_47 ?_
        refine ziload_4_3 dX5_seekNext_48 ?_
        refine zc_Rows_142 rfl dX5_seekNext_49 (by decide) (Nat.le_of_ble_eq_true rfl) (sp_Rows_mightBeMade M1 N aw w a b hN r3 hw6 ha (by omega)) (fun r49 M49 hq49 => ?_)
        refine z_withR (fun hR => ?_)
        obtain ⟨rfl, rfl⟩ := hq49
        refine z_if_eq (tgt := 62) (by split <;> omega) dX5_seekNext_52 (by decide) (fun h52 => ?_) (fun h52 => ?_)
        · have hm : mayB N aw w a b = false := by revert h52; cases mayB N aw w a b <;> simp
          rw [hm, if_neg (by decide)] at hst
          refine ziinc_4_3 dX5_seekNext_62 ?_
          refine z_goto (tgt := 34) dX5_seekNext_65 (by decide) ?_
          first
            | exact ih (b + 1) _ (by omega) hf h6 (by rw [← Nat.add_assoc, hst]; exact h12) (by rw [← Nat.add_assoc, hst]; exact h13)
            | exact ih (b + 1) _ (by omega) hf3 h63 hfin.1 hfin.2
        · have hm : mayB N aw w a b = true := by revert h52; cases mayB N aw w a b <;> simp
          rw [hm, if_pos rfl] at hst
          refine zaload_4_0 dX5_seekNext_55 ?_
          refine ziload_4_1 dX5_seekNext_56 ?_
          refine ziload_4_2 dX5_seekNext_57 ?_
          refine ziload_4_3 dX5_seekNext_58 ?_
          refine zc_Rows_146 rfl dX5_seekNext_59 (by decide) (Nat.le_of_ble_eq_true rfl) (sp_Rows_tryNext M49 q N Ws S w a b r1 hN r2 ⟨hw1, hw6⟩ ha (by omega)) (fun r59 M59 hq59 => ?_)
          refine z_withR (fun hR => ?_)
          obtain ⟨hf2, h62, hcase⟩ := hq59
          have hf3 : zfr [6, 30] M M59 := hf.tr hf2 (fun _ h => h) (fun _ h => h)
          have h63 : ∀ i, i ≠ 12 → i ≠ 13 → M59 6 i = M 6 i := fun i i1 i2 => (h62 i i1 i2).trans (h6 i i1 i2)
          have hfin : M59 6 12 = (nxS q N S aw (144 * (w - 1) + 12 * a + (b + 1))).1 ∧ M59 6 13 = (nxS q N S aw (144 * (w - 1) + 12 * a + (b + 1))).2 := by
            rw [← Nat.add_assoc, hst]
            rcases hcase with ⟨c1, c2, c3, c4⟩ | ⟨c1, c2, c3⟩
            · have hr : nxR q N S w a b = rrN q (tC q S w a b) := if_neg c2
              rw [if_pos (by rw [hr, ← h13]; exact c1)]
              exact ⟨c4, by rw [c3, hr]⟩
            · rw [if_neg (fun h9 => c1 (by
                by_cases ho : oldP q N S (tC q S w a b)
                · have hr : nxR q N S w a b = -1 := if_pos ho
                  omega
                · have hr : nxR q N S w a b = rrN q (tC q S w a b) := if_neg ho
                  exact ⟨by omega, ho⟩))]
              exact ⟨by rw [c3]; exact h12, by rw [c2]; exact h13⟩
          refine ziinc_4_3 dX5_seekNext_62 ?_
          refine z_goto (tgt := 34) dX5_seekNext_65 (by decide) ?_
          first
            | exact ih (b + 1) _ (by omega) hf h6 (by rw [← Nat.add_assoc, hst]; exact h12) (by rw [← Nat.add_assoc, hst]; exact h13)
            | exact ih (b + 1) _ (by omega) hf3 h63 hfin.1 hfin.2
  have mid : ∀ (w : Nat), 1 ≤ w → w ≤ 6 → (∀ (M2 : zMem) (g g2 : Option zAV), zfr [6, 30] M M2 → (∀ i, i ≠ 12 → i ≠ 13 → M2 6 i = M 6 i) → M2 6 12 = (nxS q N S aw (144 * (w - 1) + 144)).1 → M2 6 13 = (nxS q N S aw (144 * (w - 1) + 144)).2 → zV zd_Rows_seekNext 5 74 [some (zr 6), some (zi w), g, g2] [] M2 post) →
      ∀ (c a : Nat) (M1 : zMem) (g : Option zAV), a + c = N → zfr [6, 30] M M1 → (∀ i, i ≠ 12 → i ≠ 13 → M1 6 i = M 6 i) → M1 6 12 = (nxS q N S aw (144 * (w - 1) + 12 * a)).1 → M1 6 13 = (nxS q N S aw (144 * (w - 1) + 12 * a)).2 → zV zd_Rows_seekNext 5 21 [some (zr 6), some (zi w), some (zi a), g] [] M1 post := by
    intro w hw1 hw6 kk c
    induction c with
    | zero =>
      intro a M1 g ha hf h6 h12 h13
      obtain ⟨r1, r2, r3⟩ := st M1 hf h6
      have hsk := nxS_skipA (q := q) (N := N) (S := S) (aw := aw) (w := w) hw1 (144 - 12 * a) (12 * a) (by omega) (by omega)
      refine z_withR (fun hR => ?_)
      refine ziload_4_2 dX5_seekNext_21 ?_
      refine zaload_4_0 dX5_seekNext_22 ?_
      refine zg_Rows_55 rfl dX5_seekNext_23 ?_
      refine zg_Rows_67 rfl dX5_seekNext_26 ?_
      refine z_top r2 ?_
      refine z_icmp_ge (tgt := 74) (by first | omega | exact hR.1 _ _ (by decide) | exact zrng_toInt _) (by first | omega | exact hR.1 _ _ (by decide) | exact zrng_toInt _) dX5_seekNext_29 (by decide) (fun h29 => ?_) (fun h29 => ?_)
      · exact kk M1 _ _ hf h6 (by rw [hsk]; exact h12) (by rw [hsk]; exact h13)
      · omega
    | succ c ih =>
      intro a M1 g ha hf h6 h12 h13
      obtain ⟨r1, r2, r3⟩ := st M1 hf h6
      have k68 : ∀ (M2 : zMem) (g : Option zAV), zfr [6, 30] M M2 → (∀ i, i ≠ 12 → i ≠ 13 → M2 6 i = M 6 i) → M2 6 12 = (nxS q N S aw (144 * (w - 1) + 12 * a + 12)).1 → M2 6 13 = (nxS q N S aw (144 * (w - 1) + 12 * a + 12)).2 → zV zd_Rows_seekNext 5 68 [some (zr 6), some (zi w), some (zi a), g] [] M2 post := by
        intro M2 g hf2 h62 h122 h132
        refine ziinc_4_2 dX5_seekNext_68 ?_
        refine z_goto (tgt := 21) dX5_seekNext_71 (by decide) ?_
        exact ih (a + 1) M2 _ (by omega) hf2 h62 h122 h132
      refine z_withR (fun hR => ?_)
      refine ziload_4_2 dX5_seekNext_21 ?_
      refine zaload_4_0 dX5_seekNext_22 ?_
      refine zg_Rows_55 rfl dX5_seekNext_23 ?_
      refine zg_Rows_67 rfl dX5_seekNext_26 ?_
      refine z_top r2 ?_
      refine z_icmp_ge (tgt := 74) (by first | omega | exact hR.1 _ _ (by decide) | exact zrng_toInt _) (by first | omega | exact hR.1 _ _ (by decide) | exact zrng_toInt _) dX5_seekNext_29 (by decide) (fun h29 => ?_) (fun h29 => ?_)
      · omega
      · refine z_iconst dX5_seekNext_32 ?_
        refine zistore_4_3 dX5_seekNext_33 ?_
        exact inner w a hw1 hw6 (by omega) k68 N 0 M1 (by omega) hf h6 h12 h13
  have outer : ∀ (c w : Nat) (M1 : zMem) (g g2 : Option zAV), w + c = 7 → 1 ≤ w → zfr [6, 30] M M1 → (∀ i, i ≠ 12 → i ≠ 13 → M1 6 i = M 6 i) → M1 6 12 = (nxS q N S aw (144 * (w - 1))).1 → M1 6 13 = (nxS q N S aw (144 * (w - 1))).2 → zV zd_Rows_seekNext 5 13 [some (zr 6), some (zi w), g, g2] [] M1 post := by
    intro c
    induction c with
    | zero =>
      intro w M1 g g2 hw hw1 hf h6 h12 h13
      refine z_withR (fun hR => ?_)
      rw [show w = 7 by omega] at *
      refine ziload_4_1 dX5_seekNext_13 ?_
      refine z_bipush dX5_seekNext_14 (by decide) ?_
      refine z_icmp_gt (tgt := 80) (by first | omega | exact hR.1 _ _ (by decide) | exact zrng_toInt _) (by first | omega | exact hR.1 _ _ (by decide) | exact zrng_toInt _) dX5_seekNext_16 (by decide) (fun h16 => ?_) (fun h16 => ?_)
      · refine zaload_4_0 dX5_seekNext_80 ?_
        refine zg_Rows_41 rfl dX5_seekNext_81 ?_
        refine z_iret rfl ?_ dX5_seekNext_84
        rw [hpost]
        exact ⟨hf, h6, h12⟩
      · omega
    | succ c ih =>
      intro w M1 g g2 hw hw1 hf h6 h12 h13
      have k74 : ∀ (M2 : zMem) (g g2 : Option zAV), zfr [6, 30] M M2 → (∀ i, i ≠ 12 → i ≠ 13 → M2 6 i = M 6 i) → M2 6 12 = (nxS q N S aw (144 * (w - 1) + 144)).1 → M2 6 13 = (nxS q N S aw (144 * (w - 1) + 144)).2 → zV zd_Rows_seekNext 5 74 [some (zr 6), some (zi w), g, g2] [] M2 post := by
        intro M2 g g2 hf2 h62 h122 h132
        rw [show 144 * (w - 1) + 144 = 144 * (w + 1 - 1) by omega] at h122 h132
        refine ziinc_4_1 dX5_seekNext_74 ?_
        refine z_goto (tgt := 13) dX5_seekNext_77 (by decide) ?_
        exact ih (w + 1) M2 _ _ (by omega) (by omega) hf2 h62 h122 h132
      refine z_withR (fun hR => ?_)
      refine ziload_4_1 dX5_seekNext_13 ?_
      refine z_bipush dX5_seekNext_14 (by decide) ?_
      refine z_icmp_gt (tgt := 80) (by first | omega | exact hR.1 _ _ (by decide) | exact zrng_toInt _) (by first | omega | exact hR.1 _ _ (by decide) | exact zrng_toInt _) dX5_seekNext_16 (by decide) (fun h16 => ?_) (fun h16 => ?_)
      · omega
      · refine z_iconst dX5_seekNext_19 ?_
        refine zistore_4_2 dX5_seekNext_20 ?_
        exact mid w hw1 (by omega) k74 N 0 M1 _ (by omega) hf h6 h12 h13
  refine zaload_4_0 dX5_seekNext_0 ?_
  refine z_bipush dX5_seekNext_1 (by decide) ?_
  refine zp_Rows_41 rfl (by first | omega | exact hR.1 _ _ (by decide) | exact zrng_toInt _) dX5_seekNext_3 ?_
  refine z_withR (fun hR => ?_)
  refine zaload_4_0 dX5_seekNext_6 ?_
  refine z_iconst dX5_seekNext_7 ?_
  refine zp_Rows_44 rfl (by first | omega | exact hR.1 _ _ (by decide) | exact zrng_toInt _) dX5_seekNext_8 ?_
  refine z_withR (fun hR => ?_)
  refine z_iconst dX5_seekNext_11 ?_
  refine zistore_4_1 dX5_seekNext_12 ?_
  exact outer 6 1 _ _ _ (by omega) (by omega) ((zfr.rf.mu (by decide)).mu (by decide)) (fun i i1 i2 => by rw [zmu_ne _ _ _ _ i2, zmu_ne _ _ _ _ i1]) rfl rfl
