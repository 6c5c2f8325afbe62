def zent : List zAV → List (Option zAV)
  | [] => []
  | .inl x :: r => some (zi x) :: zent r
  | .inr (.inl x) :: r => some (zl x) :: none :: zent r
  | .inr (.inr x) :: r => some (zr x) :: zent r
theorem zent_in (as : Nat → Nat) : ∀ (av : List zAV) (o i : Nat) (v : zAV), (zent av)[i]? = some (some v) → (o + i, zcv as v) ∈ lv_args o (av.map (zcv as))
  | [], o, i, v, h => by simp [zent] at h
  | .inl x :: r, o, 0, v, h => by
    simp [zent] at h; subst h
    exact List.mem_cons_self
  | .inl x :: r, o, i + 1, v, h => by
    simp only [zent, List.getElem?_cons_succ] at h
    have := zent_in as r (o + 1) i v h
    refine List.mem_cons_of_mem _ ?_
    rw [show o + (i + 1) = o + 1 + i by omega]
    exact this
  | .inr (.inr x) :: r, o, 0, v, h => by
    simp [zent] at h; subst h
    exact List.mem_cons_self
  | .inr (.inr x) :: r, o, i + 1, v, h => by
    simp only [zent, List.getElem?_cons_succ] at h
    have := zent_in as r (o + 1) i v h
    refine List.mem_cons_of_mem _ ?_
    rw [show o + (i + 1) = o + 1 + i by omega]
    exact this
  | .inr (.inl x) :: r, o, 0, v, h => by
    simp [zent] at h; subst h
    exact List.mem_cons_self
  | .inr (.inl x) :: r, o, 1, v, h => by
    simp [zent] at h
  | .inr (.inl x) :: r, o, i + 2, v, h => by
    simp only [zent, List.getElem?_cons_succ] at h
    have := zent_in as r (o + 2) i v h
    refine List.mem_cons_of_mem _ ?_
    rw [show o + (i + 2) = o + 2 + i by omega]
    exact this
theorem zent_len (as : Nat → Nat) : ∀ av : List zAV, (lg_sl (av.map (zcv as))).length = (zent av).length
  | [] => rfl
  | .inl x :: r => by
    have := zent_len as r
    simp only [List.map, lg_sl, List.flatMap_cons, List.length_append, zent, List.length_cons] at this ⊢
    rw [← this]
    exact Nat.add_comm _ _
  | .inr (.inl x) :: r => by
    have := zent_len as r
    simp only [List.map, lg_sl, List.flatMap_cons, List.length_append, zent, List.length_cons] at this ⊢
    rw [← this]
    exact Nat.add_comm _ _
  | .inr (.inr x) :: r => by
    have := zent_len as r
    simp only [List.map, lg_sl, List.flatMap_cons, List.length_append, zent, List.length_cons] at this ⊢
    rw [← this]
    exact Nat.add_comm _ _
theorem zSp_in {μ : zD} {d : Nat} {av : List zAV} {M : zMem} {post : Int → zMem → Prop} (k : Nat) (ls0 : List (Option zAV)) (h0 : zent av ++ List.replicate k none = ls0) (hl : ls0.length = μ.2.2.1) (hy : plainName μ.2.2.2.2.cls = true) (ho : μ.2.2.2.2.cls = μ.1) (kk : zV μ d 0 ls0 [] M post) : zSp μ d av M post := by
  have hlen : (zent av).length ≤ μ.2.2.1 := by rw [← hl, ← h0, List.length_append]; omega
  refine zSp_of_V ls0 hy ho (fun as => by rw [zent_len]; exact hlen) (fun as lsA h => ⟨h.1, h.2.1, hl, fun i v h1 _ => ?_⟩) kk
  rw [← h0] at h1
  by_cases hi : i < (zent av).length
  · rw [List.getElem?_append_left hi] at h1
    have := h.2.2 _ (zent_in as av 0 i v h1)
    simpa using this
  · rw [List.getElem?_append_right (by omega)] at h1
    have h2 := List.mem_of_getElem? h1
    rw [List.mem_replicate] at h2
    cases h2.2
/-- copying the first n places of cell 31 to cell 32 -/
def zcp (M : zMem) (n : Nat) : zMem := fun c => if c = 32 then (fun i => if i < n then M 31 i else M 32 i) else M c
theorem z_copy {μ : zD} {d pc : Nat} {ls : List (Option zAV)} {st : List zAV} {M : zMem} {post : Int → zMem → Prop} {x : Int} (j : Nat) (hx : x = (j : Int) ∧ j ≤ 20) (ho : μ.1 = RX4) (hdd : 1 ≤ d) (hst : zcat st ≤ 2) (hd : decode μ.2.1 pc = .ok (.invokestatic 41, 3)) (k : zV μ d (pc + 3) ls st (zcp M j) post) : zV μ d pc ls (zi x :: zi 0 :: zr 32 :: zi 0 :: zr 31 :: st) M post := by
  intro hR l dC dI as cA p e s m args below meth c H locs lsA hC hP hD hS hL
  obtain ⟨rfl, hj⟩ := hx
  have e0 : Int32.ofInt (j : Int) = nI j := rfl
  have ej : (nI j).toNatClampNeg = j := nI_clamp (by omega)
  have e1 : (Int32.ofInt 0).toNatClampNeg = 0 := rfl
  simp only [List.map, zcv]
  have hroom : ((st.map (zcv as)).map fun v => v.category).sum + (nativeFrameWords "java/lang/System" "arraycopy" 5 + 11) ≤ (zrm d).locals := by
    have h1 := zcat_sum as st
    have h2 : nativeFrameWords "java/lang/System" "arraycopy" 5 ≤ 16 := by decide +kernel
    show _ ≤ 30 * d
    omega
  have hw1 : Cond.methodLink μ.1 41 arraycopyName ∈ zAll := by rw [ho]; exact zAll_of 785 (by decide +kernel) (by decide +kernel)
  refine va_copyi (index := 41) (sp := Int32.ofInt 0) (dp := Int32.ofInt 0) (n := Int32.ofInt (j : Int)) (ty := .int) hC.1 hC.2.1 (hC.2.2.1.trans hL.1.symm) hC.2.2.2.1 (hC.2.2.2.2.1 _ hw1) (hC.2.2.2.2.1 _ (zAll_of 787 (by decide +kernel) (by decide +kernel))) (hC.2.2.2.2.1 _ (zAll_of 786 (by decide +kernel) (by decide +kernel))) (hC.2.2.2.2.1 _ (zAll_of 79 (by decide +kernel) (by decide +kernel))) hC.2.2.2.2.2.2.2.1 hP hD hS 31 32 0 0 (by rw [zw_at as cA M (by decide), zE_i as cA M (n := 20) rfl]) (by rw [zw_at as cA M (by decide), zE_i as cA M (n := 20) rfl]) rfl rfl rfl (by decide) (by decide) (by rw [e0]; exact nI_pos (by omega)) (by rw [e1, e0, ej]; omega) (by rw [e1, e0, ej]; omega) (fun _ _ => rfl) hdd hroom hd (fun H1 locs1 hP1 hD1 hS1 => ?_)
  rw [e1, e0, ej] at hP1 hD1
  have hc : (fun i => Int32.ofInt (zcp M j 32 i)) = va_cpy (fun i => Int32.ofInt (M 31 i)) (fun i => Int32.ofInt (M 32 i)) 0 0 j := by
    funext i
    by_cases hi : i < j
    · rw [pk_cpy_in (Nat.zero_le _) (by omega)]
      simp [zcp, hi]
    · rw [pk_cpy_out (by omega)]
      simp [zcp, hi]
  rw [← hc] at hP1 hD1
  have hze := zw_set as cA M (zcp M j) _ (c := 32) (by decide) (zE_i as cA (zcp M j) (n := 20) rfl).symm (fun c' h => by simp [zcp, h])
  rw [hze] at hP1 hD1
  refine k ⟨fun c' i h => ?_, fun i => ?_⟩ l dC dI as cA p e s m args below meth c H1 locs1 lsA hC hP1 hD1 hS1 hL
  · by_cases h32 : c' = 32
    · subst h32
      simp only [zcp, if_pos]
      split
      · exact hR.1 _ _ (by decide)
      · exact hR.1 _ _ (by decide)
    · simp only [zcp, if_neg h32]
      exact hR.1 _ _ h
  · exact hR.2 i
