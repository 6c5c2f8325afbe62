def sT (n : Nat) : Nat := if n = 1 then 0 else if n = 2 then 1 else 11
def cC (n : Nat) : Nat := if n = 1 then 1 else if n = 2 then 10 else 3330
def cc (n m : Nat) : Nat := fb_ct (fun k => lst n k == k) m
theorem cN_pow {n : Nat} (hn : okn n) : cN n = n ^ (n * n) := by rcases hn with rfl | rfl | rfl <;> rfl
theorem cc_all {n : Nat} (hn : okn n) : cc n (cN n) = cC n := by
  rcases hn with rfl | rfl | rfl
  · exact cc1
  · exact cc2
  · exact cc3
theorem okn_eSz (e : Nat) : okn (eSz e) := by unfold eSz okn; (repeat' split) <;> omega
theorem eSz_of {n i : Nat} (hn : okn n) (hi : i < cC n) : eSz (sT n + i) = n ∧ sT n + i < 3341 := by
  rcases hn with rfl | rfl | rfl
  · have : cC 1 = 1 := rfl
    have : sT 1 = 0 := rfl
    unfold eSz; (repeat' split) <;> omega
  · have : cC 2 = 10 := rfl
    have : sT 2 = 1 := rfl
    unfold eSz; (repeat' split) <;> omega
  · have : cC 3 = 3330 := rfl
    have : sT 3 = 11 := rfl
    unfold eSz; (repeat' split) <;> omega
theorem eSz_at {e : Nat} (he : e < 3341) : sT (eSz e) ≤ e ∧ e - sT (eSz e) < cC (eSz e) := by
  unfold eSz
  split
  · exact ⟨by show 0 ≤ e; omega, by show e - 0 < 1; omega⟩
  · split
    · exact ⟨by show 1 ≤ e; omega, by show e - 1 < 10; omega⟩
    · exact ⟨by show 11 ≤ e; omega, by show e - 11 < 3330; omega⟩
theorem ex_k {e : Nat} (he : e < 3341) : ∃ k, k < cN (eSz e) ∧ lst (eSz e) k = k ∧ sT (eSz e) + cc (eSz e) k = e := by
  obtain ⟨h1, h2⟩ := eSz_at he
  rw [← cc_all (okn_eSz e)] at h2
  obtain ⟨k, h3, h4, h5⟩ := fb_ct_kth h2
  exact ⟨k, h3, by simpa using h4, by unfold cc; omega⟩
/-- the number of an entry of the catalog -/
noncomputable def eK (e : Nat) : Nat := if h : e < 3341 then Classical.choose (ex_k h) else 0
theorem eK_ok {e : Nat} (he : e < 3341) : eK e < cN (eSz e) ∧ lst (eSz e) (eK e) = eK e ∧ sT (eSz e) + cc (eSz e) (eK e) = e := by
  unfold eK
  rw [dif_pos he]
  exact Classical.choose_spec (ex_k he)
theorem cc_lt {n k : Nat} (hn : okn n) (hk : k < cN n) (hl : lst n k = k) : cc n k < cC n := by
  have h1 : cc n (k + 1) = cc n k + 1 := by unfold cc; rw [fb_ct_succ]; simp [hl]
  have h2 : cc n (k + 1) ≤ cc n (cN n) := fb_ct_mono _ hk
  rw [cc_all hn] at h2
  omega
/-- the entry of a world that has the least number -/
def eI (n k : Nat) : Nat := sT n + cc n k
theorem eI_ok {n k : Nat} (hn : okn n) (hk : k < cN n) (hl : lst n k = k) : eI n k < 3341 ∧ eSz (eI n k) = n ∧ eK (eI n k) = k := by
  have h1 := cc_lt hn hk hl
  obtain ⟨h2, h3⟩ := eSz_of hn h1
  have h3' : eI n k < 3341 := h3
  have h2' : eSz (eI n k) = n := h2
  obtain ⟨h4, h5, h6⟩ := eK_ok h3'
  rw [h2'] at h4 h5 h6
  refine ⟨h3', h2', ?_⟩
  have h7 : cc n (eK (eI n k)) = cc n k := by unfold eI at h6 ⊢; omega
  exact fb_ct_kth_one (p := fun k => lst n k == k) (by simpa using h5) (by simpa using hl) h7
theorem eK_mono {e e' : Nat} (he' : e' < 3341) (hlt : e < e') (hs : eSz e = eSz e') : eK e < eK e' := by
  have h1 := (eK_ok (show e < 3341 by omega)).2.2
  have h2 := (eK_ok he').2.2
  rw [hs] at h1
  rcases Nat.lt_or_ge (eK e) (eK e') with q | q
  · exact q
  · have := fb_ct_mono (fun k => lst (eSz e') k == k) q
    unfold cc at h1 h2
    omega
theorem stb_ok {n k : Nat} (hn : okn n) (hk : k < cN n) : 1 ≤ stb n k ∧ stb n k ≤ RN n := by
  refine ⟨?_, fb_ct_le _ _⟩
  have h01 : fb_ct (fun r => rho n r k == k) 1 = 1 := by simp [fb_ct, rho_0 hn (by rw [← cN_pow hn]; exact hk)]
  have := fb_ct_mono (fun r => rho n r k == k) (show 1 ≤ RN n from RN_pos hn)
  unfold stb; omega
theorem likes_pos {n k : Nat} (hn : okn n) (hk : k < cN n) : (0 < likes n k ↔ lst n k = k) ∧ likes n k ≤ 6 := by
  obtain ⟨h1, h2⟩ := stb_ok hn hk
  have h6 := RN_le hn
  have h7 : RN n / stb n k ≤ RN n := Nat.div_le_self _ _
  have h8 : 0 < RN n / stb n k := Nat.div_pos h2 h1
  unfold likes
  split
  · exact ⟨⟨fun _ => by assumption, fun _ => h8⟩, by omega⟩
  · exact ⟨⟨fun h => by omega, fun h => by contradiction⟩, by omega⟩
/-- the catalog as it stands once it is made -/
def catF (M : zMem) : Prop := ∀ e, e < 3341 → M 17 e = eK e ∧ M 18 e = likes (eSz e) (eK e)
