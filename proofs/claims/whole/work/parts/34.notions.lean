/-! notions -/
def soF (L R W A Bb : Nat → Nat) (n k : Nat) : Nat → Nat → Nat → Bool
  | 0, _, _ => false
  | f + 1, i, j => if W i = 0 then alz L R n k (A i) (Bb i) j else mkR (W i) n (soF L R W A Bb n k f (A i)) (soF L R W A Bb n k f (Bb i)) j
def so (L R W A Bb : Nat → Nat) (n k i : Nat) : Nat → Bool := soF L R W A Bb n k (i + 1) i
def wfN (T N : Nat) (W A Bb : Nat → Nat) : Prop := ∀ i, i < N → W i ≤ 6 ∧ (W i = 0 → A i < T ∧ Bb i < T) ∧ (¬ W i = 0 → A i < i ∧ Bb i < i)
theorem soF_fuel {L R W A Bb : Nat → Nat} {n k T N : Nat} (hw : wfN T N W A Bb) : ∀ (f g i : Nat), i < f → i < g → i < N → soF L R W A Bb n k f i = soF L R W A Bb n k g i
  | 0, _, _, h, _, _ => by omega
  | _, 0, _, _, h, _ => by omega
  | f + 1, g + 1, i, h1, h2, h3 => by
    funext j
    rw [soF, soF]
    by_cases h : W i = 0
    · rw [if_pos h, if_pos h]
    · obtain ⟨ha, hb⟩ := (hw i h3).2.2 h
      rw [if_neg h, if_neg h, soF_fuel hw f g (A i) (by omega) (by omega) (by omega), soF_fuel hw f g (Bb i) (by omega) (by omega) (by omega)]
theorem so_0 {L R W A Bb : Nat → Nat} {n k i : Nat} (h : W i = 0) : so L R W A Bb n k i = alz L R n k (A i) (Bb i) := by
  funext j; unfold so; rw [soF, if_pos h]
theorem so_n {L R W A Bb : Nat → Nat} {n k T N i : Nat} (hw : wfN T N W A Bb) (hi : i < N) (h : ¬ W i = 0) : so L R W A Bb n k i = mkR (W i) n (so L R W A Bb n k (A i)) (so L R W A Bb n k (Bb i)) := by
  obtain ⟨ha, hb⟩ := (hw i hi).2.2 h
  funext j
  unfold so
  rw [soF, if_neg h, soF_fuel hw i (A i + 1) (A i) ha (by omega) (by omega), soF_fuel hw i (Bb i + 1) (Bb i) hb (by omega) (by omega)]
theorem so_ind {T N : Nat} {W A Bb : Nat → Nat} (hw : wfN T N W A Bb) (P : Nat → Prop) (h0 : ∀ i, i < N → W i = 0 → P i) (hs : ∀ i, i < N → ¬ W i = 0 → P (A i) → P (Bb i) → P i) : ∀ i, i < N → P i := by
  intro i
  induction i using Nat.strongRecOn with
  | ind i ih =>
    intro hi
    by_cases h : W i = 0
    · exact h0 i hi h
    · obtain ⟨ha, hb⟩ := (hw i hi).2.2 h
      exact hs i hi h (ih _ ha (by omega)) (ih _ hb (by omega))
theorem alz_congr {L R L' R' : Nat → Nat} {n k T a b : Nat} (hw : wfT L R T) (he : ∀ t, 3 ≤ t → t < T → L' t = L t ∧ R' t = R t) (ha : a < T) (hb : b < T) : alz L' R' n k a b = alz L R n k a b := by
  funext j
  unfold alz
  simp only [ev_congr hw he ha, ev_congr hw he hb]
theorem so_congr {L R L' R' W A Bb W' A' Bb' : Nat → Nat} {n k T N : Nat} (hT : wfT L R T) (hw : wfN T N W A Bb) (he : ∀ t, 3 ≤ t → t < T → L' t = L t ∧ R' t = R t) (hn : ∀ i, i < N → W' i = W i ∧ A' i = A i ∧ Bb' i = Bb i) : ∀ i, i < N → so L' R' W' A' Bb' n k i = so L R W A Bb n k i := by
  have hw' : wfN T N W' A' Bb' := fun i hi => by rw [(hn i hi).1, (hn i hi).2.1, (hn i hi).2.2]; exact hw i hi
  refine so_ind hw (fun i => so L' R' W' A' Bb' n k i = so L R W A Bb n k i) (fun i hi h => ?_) (fun i hi h ha hb => ?_)
  · obtain ⟨h1, h2⟩ := (hw i hi).2.1 h
    show so L' R' W' A' Bb' n k i = so L R W A Bb n k i
    rw [so_0 h, so_0 (by rw [(hn i hi).1]; exact h), (hn i hi).2.1, (hn i hi).2.2, alz_congr hT he h1 h2]
  · show so L' R' W' A' Bb' n k i = so L R W A Bb n k i
    rw [so_n hw hi h, so_n hw' hi (by rw [(hn i hi).1]; exact h), (hn i hi).1, (hn i hi).2.1, (hn i hi).2.2, ha, hb]
/-- which notions a notion is made of, and how deep it is -/
def nnF (W A Bb : Nat → Nat) : Nat → Nat → Nat
  | 0, _ => 0
  | f + 1, i => (2 ^ i ||| (if W i = 0 then 0 else nnF W A Bb f (A i))) ||| (if W i = 2 then nnF W A Bb f (Bb i) else 0)
def nn (W A Bb : Nat → Nat) (i : Nat) : Nat := nnF W A Bb (i + 1) i
def dpF (W A Bb : Nat → Nat) : Nat → Nat → Nat
  | 0, _ => 0
  | f + 1, i => 1 + (if W i = 0 then 0 else dpF W A Bb f (A i)) + (if W i = 2 then dpF W A Bb f (Bb i) else 0)
def dp (W A Bb : Nat → Nat) (i : Nat) : Nat := dpF W A Bb (i + 1) i
theorem nnF_fuel {T N : Nat} {W A Bb : Nat → Nat} (hw : wfN T N W A Bb) : ∀ (f g i : Nat), i < f → i < g → i < N → nnF W A Bb f i = nnF W A Bb g i ∧ dpF W A Bb f i = dpF W A Bb g i
  | 0, _, _, h, _, _ => by omega
  | _, 0, _, _, h, _ => by omega
  | f + 1, g + 1, i, h1, h2, h3 => by
    rw [nnF, nnF, dpF, dpF]
    by_cases h : W i = 0
    · rw [h]; simp
    · obtain ⟨ha, hb⟩ := (hw i h3).2.2 h
      obtain ⟨a1, a2⟩ := nnF_fuel hw f g (A i) (by omega) (by omega) (by omega)
      obtain ⟨b1, b2⟩ := nnF_fuel hw f g (Bb i) (by omega) (by omega) (by omega)
      rw [a1, a2, b1, b2]
      exact ⟨rfl, rfl⟩
theorem nn_rec {T N i : Nat} {W A Bb : Nat → Nat} (hw : wfN T N W A Bb) (hi : i < N) : nn W A Bb i = (2 ^ i ||| (if W i = 0 then 0 else nn W A Bb (A i))) ||| (if W i = 2 then nn W A Bb (Bb i) else 0) := by
  unfold nn
  rw [nnF]
  by_cases h : W i = 0
  · rw [h]; rfl
  · obtain ⟨ha, hb⟩ := (hw i hi).2.2 h
    rw [(nnF_fuel hw i (A i + 1) (A i) ha (by omega) (by omega)).1, (nnF_fuel hw i (Bb i + 1) (Bb i) hb (by omega) (by omega)).1]
theorem dp_rec {T N i : Nat} {W A Bb : Nat → Nat} (hw : wfN T N W A Bb) (hi : i < N) : dp W A Bb i = 1 + (if W i = 0 then 0 else dp W A Bb (A i)) + (if W i = 2 then dp W A Bb (Bb i) else 0) := by
  unfold dp
  rw [dpF]
  by_cases h : W i = 0
  · rw [h]; rfl
  · obtain ⟨ha, hb⟩ := (hw i hi).2.2 h
    rw [(nnF_fuel hw i (A i + 1) (A i) ha (by omega) (by omega)).2, (nnF_fuel hw i (Bb i + 1) (Bb i) hb (by omega) (by omega)).2]
theorem nd_dp_congr {T N : Nat} {W A Bb W' A' Bb' : Nat → Nat} (hw : wfN T N W A Bb) (hn : ∀ i, i < N → W' i = W i ∧ A' i = A i ∧ Bb' i = Bb i) : ∀ i, i < N → nn W' A' Bb' i = nn W A Bb i ∧ dp W' A' Bb' i = dp W A Bb i := by
  have hw' : wfN T N W' A' Bb' := fun i hi => by rw [(hn i hi).1, (hn i hi).2.1, (hn i hi).2.2]; exact hw i hi
  refine so_ind hw (fun i => nn W' A' Bb' i = nn W A Bb i ∧ dp W' A' Bb' i = dp W A Bb i) (fun i hi h => ?_) (fun i hi h ha hb => ?_)
  · rw [nn_rec hw hi, nn_rec hw' hi, dp_rec hw hi, dp_rec hw' hi, (hn i hi).1, h]
    exact ⟨rfl, rfl⟩
  · rw [nn_rec hw hi, nn_rec hw' hi, dp_rec hw hi, dp_rec hw' hi, (hn i hi).1, (hn i hi).2.1, (hn i hi).2.2, ha.1, ha.2, hb.1, hb.2]
    exact ⟨rfl, rfl⟩
theorem nn_lt {T N : Nat} {W A Bb : Nat → Nat} (hw : wfN T N W A Bb) : ∀ i, i < N → nn W A Bb i < 2 ^ (i + 1) ∧ dp W A Bb i + 1 ≤ 2 ^ (i + 1) ∧ 1 ≤ dp W A Bb i := by
  intro i
  induction i using Nat.strongRecOn with
  | ind i ih =>
    intro hi
    rw [nn_rec hw hi, dp_rec hw hi]
    have hp : 2 ^ i < 2 ^ (i + 1) := Nat.pow_lt_pow_right (by decide) (by omega)
    by_cases h : W i = 0
    · rw [h]
      have e02 : ¬ (0 = 2) := by decide
      simp only [if_true, if_neg e02, Nat.or_zero]
      have := Nat.one_le_two_pow (n := i)
      refine ⟨hp, ?_, by omega⟩
      rw [Nat.pow_succ]
      show 1 + 0 + 0 + 1 ≤ _
      omega
    · obtain ⟨ha, hb⟩ := (hw i hi).2.2 h
      obtain ⟨a1, a2, a3⟩ := ih _ ha (by omega)
      obtain ⟨b1, b2, b3⟩ := ih _ hb (by omega)
      have p1 : 2 ^ (A i + 1) ≤ 2 ^ i := Nat.pow_le_pow_right (by decide) (by omega)
      have p2 : 2 ^ (Bb i + 1) ≤ 2 ^ i := Nat.pow_le_pow_right (by decide) (by omega)
      rw [if_neg h, if_neg h]
      refine ⟨Nat.or_lt_two_pow (Nat.or_lt_two_pow hp (by omega)) ?_, ?_, by omega⟩
      · split <;> omega
      · rw [Nat.pow_succ]
        split <;> omega
theorem nn_self {T N i : Nat} {W A Bb : Nat → Nat} (hw : wfN T N W A Bb) (hi : i < N) : (nn W A Bb i).testBit i = true := by
  rw [nn_rec hw hi, Nat.testBit_or, Nat.testBit_or, Nat.testBit_two_pow_self]; rfl
theorem nn_closed {T N : Nat} {W A Bb : Nat → Nat} (hw : wfN T N W A Bb) : ∀ i, i < N → ∀ u, (nn W A Bb i).testBit u = true → u ≤ i ∧ (¬ W u = 0 → (nn W A Bb i).testBit (A u) = true) ∧ (W u = 2 → (nn W A Bb i).testBit (Bb u) = true) := by
  intro i
  induction i using Nat.strongRecOn with
  | ind i ih =>
    intro hi u hu
    rw [nn_rec hw hi] at hu ⊢
    simp only [Nat.testBit_or, Nat.testBit_two_pow, Bool.or_eq_true, decide_eq_true_eq] at hu ⊢
    by_cases h : W i = 0
    · rw [h] at hu ⊢
      simp at hu
      subst hu
      exact ⟨Nat.le_refl _, fun h9 => absurd h h9, fun h9 => by rw [h] at h9; cases h9⟩
    · obtain ⟨ha, hb⟩ := (hw i hi).2.2 h
      rw [if_neg h] at hu ⊢
      rcases hu with (rfl | hu) | hu
      · refine ⟨Nat.le_refl _, fun _ => Or.inl (Or.inr (nn_self hw (by omega))), fun h2 => Or.inr ?_⟩
        rw [if_pos h2]; exact nn_self hw (by omega)
      · obtain ⟨q1, q2, q3⟩ := ih _ ha (by omega) u hu
        exact ⟨by omega, fun h9 => Or.inl (Or.inr (q2 h9)), fun h9 => Or.inl (Or.inr (q3 h9))⟩
      · by_cases h2 : W i = 2
        · rw [if_pos h2] at hu ⊢
          obtain ⟨q1, q2, q3⟩ := ih _ hb (by omega) u hu
          exact ⟨by omega, fun h9 => Or.inr (q2 h9), fun h9 => Or.inr (q3 h9)⟩
        · rw [if_neg h2] at hu; simp at hu
/-- the class's notions -/
def ntC (M : zMem) (T N : Nat) (W A Bb : Nat → Nat) : Prop := M 5 6 = N ∧ N ≤ 12 ∧ wfN T N W A Bb ∧ ∀ i, i < N → (M 21 i = W i ∧ M 22 i = A i ∧ M 23 i = Bb i) ∧ M 24 i = nn W A Bb i ∧ M 25 i = dp W A Bb i
theorem ntC.fr {S : List Nat} {M M' : zMem} {T N : Nat} {W A Bb : Nat → Nat} (h : ntC M T N W A Bb) (hf : zfr S M M') (h5 : 5 ∉ S) (h21 : 21 ∉ S) (h22 : 22 ∉ S) (h23 : 23 ∉ S) (h24 : 24 ∉ S) (h25 : 25 ∉ S) : ntC M' T N W A Bb := by
  unfold ntC at *
  rw [hf 5 h5, hf 21 h21, hf 22 h22, hf 23 h23, hf 24 h24, hf 25 h25]
  exact h
def fup (f : Nat → Nat) (N v : Nat) : Nat → Nat := fun i => if i = N then v else f i
theorem fup_s {f : Nat → Nat} {N v : Nat} : fup f N v N = v := by simp [fup]
theorem fup_n {f : Nat → Nat} {N v i : Nat} (h : i ≠ N) : fup f N v i = f i := by simp [fup, h]
theorem sp_Notions_addPart (M : zMem) (i o : Nat) (hi : i < 12) (ho : o < 12) (hb : zrng (M 25 i + M 25 o)) : zSp zd_Notions_addPart 0 [zr 5, zi i, zi o] M (fun _ M' => M' = zmu (zmu M 25 i (M 25 i + M 25 o)) 24 i (zOr (M 24 i) (M 24 o))) := by
  refine zSp_in 0 [some (zr 5), some (zi i), some (zi o)] rfl rfl (by decide +kernel) rfl ?_
  refine z_withR (fun hR => ?_)
  refine zaload_3_0 dX2_addPart_0 ?_
  refine zg_Notions_24 rfl dX2_addPart_1 ?_
  refine ziload_3_1 dX2_addPart_4 ?_
  refine z_dup2 (fun _ => rfl) (fun _ => rfl) dX2_addPart_5 ?_
  refine z_iald _ rfl (by decide) (by decide) rfl (by omega) dX2_addPart_6 ?_
  refine zaload_3_0 dX2_addPart_7 ?_
  refine zg_Notions_24 rfl dX2_addPart_8 ?_
  refine ziload_3_2 dX2_addPart_11 ?_
  refine z_iald _ rfl (by decide) (by decide) rfl (by omega) dX2_addPart_12 ?_
  refine z_iadd dX2_addPart_13 ?_
  refine z_iast _ (by decide) rfl (by decide) (by decide) rfl (by omega) hb dX2_addPart_14 ?_
  refine z_withR (fun hR => ?_)
  refine zaload_3_0 dX2_addPart_15 ?_
  refine zg_Notions_21 rfl dX2_addPart_16 ?_
  refine ziload_3_1 dX2_addPart_19 ?_
  refine z_dup2 (fun _ => rfl) (fun _ => rfl) dX2_addPart_20 ?_
  refine z_iald _ rfl (by decide) (by decide) rfl (by omega) dX2_addPart_21 ?_
  refine zaload_3_0 dX2_addPart_22 ?_
  refine zg_Notions_21 rfl dX2_addPart_23 ?_
  refine ziload_3_2 dX2_addPart_26 ?_
  refine z_iald _ rfl (by decide) (by decide) rfl (by omega) dX2_addPart_27 ?_
  refine z_ior dX2_addPart_28 ?_
  refine z_iast _ (by decide) rfl (by decide) (by decide) rfl (by omega) (by first | omega | exact hR.1 _ _ (by decide) | exact zrng_toInt _) dX2_addPart_29 ?_
  refine z_withR (fun hR => ?_)
  refine z_vret rfl ?_ dX2_addPart_30
  rfl
theorem wfN.add {T N how one other : Nat} {W A Bb : Nat → Nat} (hw : wfN T N W A Bb) (h : how ≤ 6 ∧ (how = 0 → one < T ∧ other < T) ∧ (¬ how = 0 → one < N ∧ other < N)) : wfN T (N + 1) (fup W N how) (fup A N one) (fup Bb N other) := by
  intro i hi
  by_cases e : i = N
  · subst e; rw [fup_s, fup_s, fup_s]; exact h
  · rw [fup_n e, fup_n e, fup_n e]; exact hw i (by omega)
theorem sp_Notions_add (M : zMem) (T N : Nat) (W A Bb : Nat → Nat) (how one other : Nat) (hnt : ntC M T N W A Bb) (hT : T ≤ 20) (hwf : how ≤ 6 ∧ (how = 0 → one < T ∧ other < T) ∧ (¬ how = 0 → one < N ∧ other < N)) : zSp zd_Notions_add 1 [zr 5, zi how, zi one, zi other] M (fun r M' => (N = 12 ∧ r = -4 ∧ M' = M) ∨ (N < 12 ∧ r = N ∧ zfr [5, 21, 22, 23, 24, 25, 26] M M' ∧ ntC M' T (N + 1) (fup W N how) (fup A N one) (fup Bb N other) ∧ M' 26 = fun i => if i = N then 1 else M 26 i)) := by
  refine zSp_in 1 [some (zr 5), some (zi how), some (zi one), some (zi other), none] rfl rfl (by decide +kernel) rfl ?_
  refine z_withR (fun hR => ?_)
  obtain ⟨h56, hN, hw, hc⟩ := id hnt
  have hw' := hw.add hwf
  have hcg := nd_dp_congr (W' := fup W N how) (A' := fup A N one) (Bb' := fup Bb N other) hw (fun i hi => ⟨fup_n (by omega), fup_n (by omega), fup_n (by omega)⟩)
  have ho20 : one < 20 ∧ other < 20 := by
    by_cases h : how = 0
    · have := hwf.2.1 h; omega
    · have := hwf.2.2 h; omega
  have hnr := nn_rec hw' (show N < N + 1 by omega)
  have hdr := dp_rec hw' (show N < N + 1 by omega)
  rw [fup_s, fup_s, fup_s] at hnr hdr
  have hlt := nn_lt hw' N (by omega)
  have hpN : 2 ^ (N + 1) ≤ 2 ^ 13 := Nat.pow_le_pow_right (by decide) (by omega)
  have hpN1 : 2 ^ N < 2 ^ (N + 1) := Nat.pow_lt_pow_right (by decide) (by omega)
  obtain ⟨post, hpost⟩ : ∃ post : Int → zMem → Prop, post = (fun (r : Int) M' => (N = 12 ∧ r = -4 ∧ M' = M) ∨ (N < 12 ∧ r = N ∧ zfr [5, 21, 22, 23, 24, 25, 26] M M' ∧ ntC M' T (N + 1) (fup W N how) (fup A N one) (fup Bb N other) ∧ M' 26 = fun i => if i = N then 1 else M 26 i)) := ⟨_, rfl⟩
  rw [← hpost]
  have k99 : ∀ M1 : zMem, N < 12 → zfr [5, 21, 22, 23, 24, 25, 26] M M1 → M1 5 6 = ((N + 1 : Nat) : Int) → (∀ i, i ≠ N → M1 21 i = M 21 i ∧ M1 22 i = M 22 i ∧ M1 23 i = M 23 i ∧ M1 24 i = M 24 i ∧ M1 25 i = M 25 i) → (M1 21 N = how ∧ M1 22 N = one ∧ M1 23 N = other) → M1 24 N = nn (fup W N how) (fup A N one) (fup Bb N other) N → M1 25 N = dp (fup W N how) (fup A N one) (fup Bb N other) N → M1 26 = (fun i => if i = N then 1 else M 26 i) → zV zd_Notions_add 1 99 [some (zr 5), some (zi how), some (zi one), some (zi other), some (zi N)] [] M1 post := by
    intro M1 hN12 hf e5 eo e3 e24 e25 e26
    refine z_withR (fun hR => ?_)
    refine ziload_5_4 dX2_add_99 ?_
    refine z_iret rfl ?_ dX2_add_101
    rw [hpost]
    refine Or.inr ⟨hN12, rfl, hf, ⟨e5, by omega, hw', fun i hi => ?_⟩, e26⟩
    by_cases e : i = N
    · subst e; rw [fup_s, fup_s, fup_s]; exact ⟨e3, e24, e25⟩
    · obtain ⟨o1, o2, o3, o4, o5⟩ := eo i e
      rw [fup_n e, fup_n e, fup_n e, o1, o2, o3, o4, o5, (hcg i (by omega)).1, (hcg i (by omega)).2]
      exact hc i (by omega)
  have k87 : ∀ (M1 : zMem) (m d : Nat), N < 12 → zfr [5, 21, 22, 23, 24, 25, 26] M M1 → M1 5 6 = ((N + 1 : Nat) : Int) → (∀ i, i ≠ N → M1 21 i = M 21 i ∧ M1 22 i = M 22 i ∧ M1 23 i = M 23 i ∧ M1 24 i = M 24 i ∧ M1 25 i = M 25 i) → (M1 21 N = how ∧ M1 22 N = one ∧ M1 23 N = other) → M1 24 N = m → m = (2 ^ N ||| if how = 0 then 0 else nn (fup W N how) (fup A N one) (fup Bb N other) one) → M1 25 N = d → d = (1 + if how = 0 then 0 else dp (fup W N how) (fup A N one) (fup Bb N other) one) → M1 26 = (fun i => if i = N then 1 else M 26 i) → zV zd_Notions_add 1 87 [some (zr 5), some (zi how), some (zi one), some (zi other), some (zi N)] [] M1 post := by
    intro M1 m d hN12 hf e5 eo e3 e24 hm e25 hd e26
    refine z_withR (fun hR => ?_)
    rw [← hm] at hnr
    rw [← hd] at hdr
    by_cases h2 : how = 2
    · have hon := hwf.2.2 (by omega)
      rw [if_pos h2] at hnr hdr
      have q24 : M1 24 other = nn (fup W N how) (fup A N one) (fup Bb N other) other := by rw [(eo other (by omega)).2.2.2.1, (hcg other (by omega)).1]; exact (hc other (by omega)).2.1
      have q25 : M1 25 other = dp (fup W N how) (fup A N one) (fup Bb N other) other := by rw [(eo other (by omega)).2.2.2.2, (hcg other (by omega)).2]; exact (hc other (by omega)).2.2
      have b1 := nn_lt hw' other (by omega)
      have b2 : 2 ^ (other + 1) ≤ 2 ^ 12 := Nat.pow_le_pow_right (by decide) (by omega)
      have b3 : m ≤ nn (fup W N how) (fup A N one) (fup Bb N other) N := by rw [hnr]; exact Nat.left_le_or
      refine ziload_5_1 dX2_add_87 ?_
      refine z_iconst dX2_add_88 ?_
      refine z_icmp_ne (tgt := 99) (by first | omega | exact hR.1 _ _ (by decide) | exact zrng_toInt _) (by first | omega | exact hR.1 _ _ (by decide) | exact zrng_toInt _) dX2_add_89 (by decide) (fun h89 => ?_) (fun h89 => ?_)
      · omega
      · refine zaload_5_0 dX2_add_92 ?_
        refine ziload_5_4 dX2_add_93 ?_
        refine ziload_5_3 dX2_add_95 ?_
        refine zc_Notions_35 rfl dX2_add_96 (by decide) (Nat.le_of_ble_eq_true rfl) (sp_Notions_addPart M1 N other (by omega) (by omega) (by rw [e25, q25]; omega)) (fun r96 M96 hq96 => ?_)
        refine z_withR (fun hR => ?_)
        subst hq96
        refine k99 _ hN12 ((hf.mu (by decide)).mu (by decide)) e5 (fun i hi => ?_) e3 ?_ ?_ e26
        · obtain ⟨o1, o2, o3, o4, o5⟩ := eo i hi
          refine ⟨o1, o2, o3, ?_, ?_⟩
          · rw [zmu_ne _ _ _ _ hi]; exact o4
          · rw [zmu_other _ _ _ _ (by decide), zmu_ne _ _ _ _ hi]; exact o5
        · rw [zmu_same, e24, q24, zOr_nat (by omega) (by omega), hnr]
        · rw [zmu_other _ _ _ _ (by decide), zmu_same, e25, q25, hdr]; omega
    · rw [if_neg h2] at hnr hdr
      refine ziload_5_1 dX2_add_87 ?_
      refine z_iconst dX2_add_88 ?_
      refine z_icmp_ne (tgt := 99) (by first | omega | exact hR.1 _ _ (by decide) | exact zrng_toInt _) (by first | omega | exact hR.1 _ _ (by decide) | exact zrng_toInt _) dX2_add_89 (by decide) (fun h89 => ?_) (fun h89 => ?_)
      · exact k99 M1 hN12 hf e5 eo e3 (by rw [e24, hnr, Nat.or_zero]) (by rw [e25, hdr, Nat.add_zero]) e26
      · omega
  refine zaload_5_0 dX2_add_0 ?_
  refine zg_Notions_31 rfl dX2_add_1 ?_
  refine z_top h56 ?_
  refine z_bipush dX2_add_4 (by decide) ?_
  refine z_icmp_lt (tgt := 12) (by first | omega | exact hR.1 _ _ (by decide) | exact zrng_toInt _) (by first | omega | exact hR.1 _ _ (by decide) | exact zrng_toInt _) dX2_add_6 (by decide) (fun h6 => ?_) (fun h6 => ?_)
  · refine zaload_5_0 dX2_add_12 ?_
    refine z_dup (fun _ => rfl) dX2_add_13 ?_
    refine zg_Notions_31 rfl dX2_add_14 ?_
    refine z_top h56 ?_
    refine z_dup_x1 (fun _ => rfl) (fun _ => rfl) dX2_add_17 ?_
    refine z_iconst dX2_add_18 ?_
    refine z_iadd dX2_add_19 ?_
    refine zp_Notions_31 rfl (by omega) dX2_add_20 ?_
    refine z_withR (fun hR => ?_)
    refine zistore_5_4 dX2_add_23 ?_
    refine zaload_5_0 dX2_add_25 ?_
    refine zg_Notions_11 rfl dX2_add_26 ?_
    refine ziload_5_4 dX2_add_29 ?_
    refine ziload_5_1 dX2_add_31 ?_
    refine z_iast (N) (by decide) rfl (by decide) (by decide) (by omega) (by omega) (by first | omega | exact hR.1 _ _ (by decide) | exact zrng_toInt _) dX2_add_32 ?_
    refine z_withR (fun hR => ?_)
    refine zaload_5_0 dX2_add_33 ?_
    refine zg_Notions_15 rfl dX2_add_34 ?_
    refine ziload_5_4 dX2_add_37 ?_
    refine ziload_5_2 dX2_add_39 ?_
    refine z_iast (N) (by decide) rfl (by decide) (by decide) (by omega) (by omega) (by first | omega | exact hR.1 _ _ (by decide) | exact zrng_toInt _) dX2_add_40 ?_
    refine z_withR (fun hR => ?_)
    refine zaload_5_0 dX2_add_41 ?_
    refine zg_Notions_18 rfl dX2_add_42 ?_
    refine ziload_5_4 dX2_add_45 ?_
    refine ziload_5_3 dX2_add_47 ?_
    refine z_iast (N) (by decide) rfl (by decide) (by decide) (by omega) (by omega) (by first | omega | exact hR.1 _ _ (by decide) | exact zrng_toInt _) dX2_add_48 ?_
    refine z_withR (fun hR => ?_)
    refine zaload_5_0 dX2_add_49 ?_
    refine zg_Notions_27 rfl dX2_add_50 ?_
    refine ziload_5_4 dX2_add_53 ?_
    refine z_iconst dX2_add_55 ?_
    refine z_zast (N) (by decide) rfl (by decide) (by decide) (by omega) (by omega) (by first | omega | exact hR.1 _ _ (by decide) | exact zrng_toInt _) dX2_add_56 ?_
    refine z_withR (fun hR => ?_)
    refine zaload_5_0 dX2_add_57 ?_
    refine zg_Notions_24 rfl dX2_add_58 ?_
    refine ziload_5_4 dX2_add_61 ?_
    refine z_iconst dX2_add_63 ?_
    refine z_iast (N) (by decide) rfl (by decide) (by decide) (by omega) (by omega) (by first | omega | exact hR.1 _ _ (by decide) | exact zrng_toInt _) dX2_add_64 ?_
    refine z_withR (fun hR => ?_)
    refine zaload_5_0 dX2_add_65 ?_
    refine zg_Notions_21 rfl dX2_add_66 ?_
    refine ziload_5_4 dX2_add_69 ?_
    refine z_iconst dX2_add_71 ?_
    refine ziload_5_4 dX2_add_72 ?_
    refine z_ishl dX2_add_74 ?_
    refine z_iast (N) (by decide) rfl (by decide) (by decide) (by omega) (by omega) (by first | omega | exact hR.1 _ _ (by decide) | exact zrng_toInt _) dX2_add_75 ?_
    refine z_withR (fun hR => ?_)
    refine ziload_5_1 dX2_add_76 ?_
    obtain ⟨Mx, hMx⟩ : ∃ Mx, Mx = zmu (zmu (zmu (zmu (zmu (zmu (zmu M 5 6 ((N : Int) + 1)) 21 N how) 22 N one) 23 N other) 26 N 1) 25 N 1) 24 N (zShl 1 N) := ⟨_, rfl⟩
    rw [← hMx]
    have f1 : zfr [5, 21, 22, 23, 24, 25, 26] M Mx := by rw [hMx]; exact ((((((zfr.rf.mu (by decide)).mu (by decide)).mu (by decide)).mu (by decide)).mu (by decide)).mu (by decide)).mu (by decide)
    have f2 : Mx 5 6 = ((N + 1 : Nat) : Int) := by rw [hMx]; rfl
    have f3 : ∀ i, i ≠ N → Mx 21 i = M 21 i ∧ Mx 22 i = M 22 i ∧ Mx 23 i = M 23 i ∧ Mx 24 i = M 24 i ∧ Mx 25 i = M 25 i := by intro i hi; rw [hMx]; simp [zmu, hi]
    have f4 : Mx 21 N = how ∧ Mx 22 N = one ∧ Mx 23 N = other := by rw [hMx]; simp [zmu]
    have f5 : Mx 24 N = ((2 ^ N : Nat) : Int) := by rw [hMx, zmu_same, zShl_one (by omega)]
    have f6 : Mx 25 N = ((1 : Nat) : Int) := by rw [hMx]; simp [zmu]
    have f7 : Mx 26 = (fun i => if i = N then 1 else M 26 i) := by rw [hMx]; rfl
    rw [← hMx] at hR
    clear hMx
    refine z_if_eq (tgt := 87) (by first | omega | exact hR.1 _ _ (by decide) | exact zrng_toInt _) dX2_add_77 (by decide) (fun h77 => ?_) (fun h77 => ?_)
    · first
        | exact k87 Mx _ _ (by omega) f1 f2 f3 f4 f5 (by rw [if_pos (by omega), Nat.or_zero]) f6 (by rw [if_pos (by omega)]) f7
        | (subst hq84
           exact k87 _ (2 ^ N ||| nn (fup W N how) (fup A N one) (fup Bb N other) one) (1 + dp (fup W N how) (fup A N one) (fup Bb N other) one) (by omega) ((f1.mu (by decide)).mu (by decide)) f2 (fun i hi => by
             obtain ⟨o1, o2, o3, o4, o5⟩ := f3 i hi
             refine ⟨o1, o2, o3, ?_, ?_⟩
             · rw [zmu_ne _ _ _ _ hi]; exact o4
             · rw [zmu_other _ _ _ _ (by decide), zmu_ne _ _ _ _ hi]; exact o5) f4 (by rw [zmu_same, f5, q24, zOr_nat (by omega) (by omega)]) (by rw [if_neg h77]) (by rw [zmu_other _ _ _ _ (by decide), zmu_same, f6, q25]; omega) (by rw [if_neg h77]) f7)
    · have hno : ¬ how = 0 := by omega
      have h77 := hno
      have hon := hwf.2.2 hno
      have q24 : Mx 24 one = nn (fup W N how) (fup A N one) (fup Bb N other) one := by rw [(f3 one (by omega)).2.2.2.1, (hcg one (by omega)).1]; exact (hc one (by omega)).2.1
      have q25 : Mx 25 one = dp (fup W N how) (fup A N one) (fup Bb N other) one := by rw [(f3 one (by omega)).2.2.2.2, (hcg one (by omega)).2]; exact (hc one (by omega)).2.2
      have b1 := nn_lt hw' one (by omega)
      have b2 : 2 ^ (one + 1) ≤ 2 ^ 12 := Nat.pow_le_pow_right (by decide) (by omega)
      refine zaload_5_0 dX2_add_80 ?_
      refine ziload_5_4 dX2_add_81 ?_
      refine ziload_5_2 dX2_add_83 ?_
      refine zc_Notions_35 rfl dX2_add_84 (by decide) (Nat.le_of_ble_eq_true rfl) (sp_Notions_addPart Mx N one (by omega) (by omega) (by rw [f6, q25]; omega)) (fun r84 M84 hq84 => ?_)
      refine z_withR (fun hR => ?_)
      first
        | exact k87 Mx _ _ (by omega) f1 f2 f3 f4 f5 (by rw [if_pos (by omega), Nat.or_zero]) f6 (by rw [if_pos (by omega)]) f7
        | (subst hq84
           exact k87 _ (2 ^ N ||| nn (fup W N how) (fup A N one) (fup Bb N other) one) (1 + dp (fup W N how) (fup A N one) (fup Bb N other) one) (by omega) ((f1.mu (by decide)).mu (by decide)) f2 (fun i hi => by
             obtain ⟨o1, o2, o3, o4, o5⟩ := f3 i hi
             refine ⟨o1, o2, o3, ?_, ?_⟩
             · rw [zmu_ne _ _ _ _ hi]; exact o4
             · rw [zmu_other _ _ _ _ (by decide), zmu_ne _ _ _ _ hi]; exact o5) f4 (by rw [zmu_same, f5, q24, zOr_nat (by omega) (by omega)]) (by rw [if_neg h77]) (by rw [zmu_other _ _ _ _ (by decide), zmu_same, f6, q25]; omega) (by rw [if_neg h77]) f7)
  · refine z_bipush dX2_add_9 (by decide) ?_
    refine z_iret rfl ?_ dX2_add_11
    rw [hpost]
    exact Or.inl ⟨by omega, rfl, rfl⟩
