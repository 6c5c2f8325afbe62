/-! the law over the made world -/
def lCx (p : Program) (s : State) (m : MethodId) (meth : Method) (c : Code) (b L : Nat) (xs : Nat → Int32) (dC : Nat → ClassId) (dI : Nat → Nat → Nat) (as : Nat → Nat) (cA : Nat → ClassId) : Prop := lw_At p s m meth c b L xs ∧ as 75 = b ∧ zCx dC dI as cA (fun q => s.heap.size ≤ q) s s.heap ∧ ∀ c, c < 65 → s.heap.size ≤ as c
def lV (L : Nat) (xs : Nat → Int32) (pc : Nat) (ls : List (Option zAV)) (st : List zAV) (M : zMem) : Prop :=
  zR M → ∀ (p : Program) (l : Launch) (e : Env) (s : State) (m : MethodId) (below : List Frame) (meth : Method) (c : Code) (b : Nat) (dC : Nat → ClassId) (dI : Nat → Nat → Nat) (as : Nat → Nat) (cA : Nat → ClassId) (H : Heap) (locs : List Loc) (lsA : Array Slot),
    lCx p s m meth c b L xs dC dI as cA → va_P (dC, dI) vwCl (zw as cA M) H → va_D (fun q => s.heap.size ≤ q) (zw as cA M) → va_S (fun q => s.heap.size ≤ q) s.heap H locs → zL as lsA 4 ls →
    W p l e room_1 s m #[Value.ref b] below meth c H locs 65 86280 (lw_Z below #[Value.ref b] s) (F0 m pc lsA (st.map (zcv as)))
theorem lz_hT {p : Program} {s : State} {m : MethodId} {meth : Method} {c : Code} {b L : Nat} {xs : Nat → Int32} (h : lw_At p s m meth c b L xs) : ∀ w ∈ zAll, w.before #[Value.ref b] s = true := fun w hw => h.2.2.2.2.2.1 w (List.mem_filter.mp hw).1
theorem l_aload {L : Nat} {xs : Nat → Int32} {pc : Nat} {ls : List (Option zAV)} {st : List zAV} {M : zMem} {n : Fin 4} {i x : Nat} (hi : (n : Nat) = i) (hd : decode code pc = .ok (.aload_n n, 1)) (hl : ls[i]? = some (some (zr x))) (k : lV L xs (pc + 1) ls (zr x :: st) M) : lV L xs pc ls st M := by
  intro hR p l e s m below meth c b dC dI as cA H locs lsA hC hP hD hS hL
  exact lv_aload_n hC.1.1 hC.1.2.1 hd hi (hL.2.2.2 _ _ hl (Or.inr (Or.inl ⟨_, rfl⟩))) (k hR p l e s m below meth c b dC dI as cA H locs lsA hC hP hD hS hL)
theorem l_iload {L : Nat} {xs : Nat → Int32} {pc : Nat} {ls : List (Option zAV)} {st : List zAV} {M : zMem} {n : Fin 4} {i : Nat} {x : Int} (hi : (n : Nat) = i) (hd : decode code pc = .ok (.iload_n n, 1)) (hl : ls[i]? = some (some (zi x))) (k : lV L xs (pc + 1) ls (zi x :: st) M) : lV L xs pc ls st M := by
  intro hR p l e s m below meth c b dC dI as cA H locs lsA hC hP hD hS hL
  exact lv_iload_n hC.1.1 hC.1.2.1 hd hi (hL.2.2.2 _ _ hl (Or.inl rfl)) (k hR p l e s m below meth c b dC dI as cA H locs lsA hC hP hD hS hL)
theorem l_iconst {L : Nat} {xs : Nat → Int32} {pc : Nat} {ls : List (Option zAV)} {st : List zAV} {M : zMem} {n : Int} (hd : decode code pc = .ok (.iconst n, 1)) (k : lV L xs (pc + 1) ls (zi n :: st) M) : lV L xs pc ls st M := by
  intro hR p l e s m below meth c b dC dI as cA H locs lsA hC hP hD hS hL
  exact lv_iconst hC.1.1 hC.1.2.1 hd rfl (k hR p l e s m below meth c b dC dI as cA H locs lsA hC hP hD hS hL)
theorem l_bipush {L : Nat} {xs : Nat → Int32} {pc : Nat} {ls : List (Option zAV)} {st : List zAV} {M : zMem} {n : Int} (hd : decode code pc = .ok (.bipush n, 2)) (hn : (Int8.ofInt n).toInt32 = Int32.ofInt n) (k : lV L xs (pc + 2) ls (zi n :: st) M) : lV L xs pc ls st M := by
  intro hR p l e s m below meth c b dC dI as cA H locs lsA hC hP hD hS hL
  exact lv_bipush hC.1.1 hC.1.2.1 hd hn (k hR p l e s m below meth c b dC dI as cA H locs lsA hC hP hD hS hL)
theorem l_iadd {L : Nat} {xs : Nat → Int32} {pc : Nat} {ls : List (Option zAV)} {st : List zAV} {M : zMem} {x y : Int} (hd : decode code pc = .ok (.iadd, 1)) (k : lV L xs (pc + 1) ls (zi (x + y) :: st) M) : lV L xs pc ls (zi y :: zi x :: st) M := by
  intro hR p l e s m below meth c b dC dI as cA H locs lsA hC hP hD hS hL
  have k := k hR p l e s m below meth c b dC dI as cA H locs lsA hC hP hD hS hL
  simp only [List.map, zcv] at k ⊢
  refine lv_iadd hC.1.1 hC.1.2.1 hd ?_
  rw [← Int32.ofInt_add]
  exact k
theorem l_isub {L : Nat} {xs : Nat → Int32} {pc : Nat} {ls : List (Option zAV)} {st : List zAV} {M : zMem} {x y : Int} (hd : decode code pc = .ok (.isub, 1)) (k : lV L xs (pc + 1) ls (zi (x - y) :: st) M) : lV L xs pc ls (zi y :: zi x :: st) M := by
  intro hR p l e s m below meth c b dC dI as cA H locs lsA hC hP hD hS hL
  have k := k hR p l e s m below meth c b dC dI as cA H locs lsA hC hP hD hS hL
  simp only [List.map, zcv] at k ⊢
  refine lv_isub hC.1.1 hC.1.2.1 hd ?_
  rw [← Int32.ofInt_sub]
  exact k
theorem l_iand {L : Nat} {xs : Nat → Int32} {pc : Nat} {ls : List (Option zAV)} {st : List zAV} {M : zMem} {x y : Int} (hd : decode code pc = .ok (.iand, 1)) (k : lV L xs (pc + 1) ls (zi (zAnd x y) :: st) M) : lV L xs pc ls (zi y :: zi x :: st) M := by
  intro hR p l e s m below meth c b dC dI as cA H locs lsA hC hP hD hS hL
  have k := k hR p l e s m below meth c b dC dI as cA H locs lsA hC hP hD hS hL
  simp only [List.map, zcv] at k ⊢
  refine lv_iand hC.1.1 hC.1.2.1 hd ?_
  simp only [zAnd, Int32.ofInt_toInt] at k
  exact k
theorem l_slen {L : Nat} {xs : Nat → Int32} {pc : Nat} {ls : List (Option zAV)} {st : List zAV} {M : zMem} (hd : decode code pc = .ok (.arraylength, 1)) (k : lV L xs (pc + 1) ls (zi (L : Int) :: st) M) : lV L xs pc ls (zr 75 :: st) M := by
  intro hR p l e s m below meth c b dC dI as cA H locs lsA hC hP hD hS hL
  have k := k hR p l e s m below meth c b dC dI as cA H locs lsA hC hP hD hS hL
  simp only [List.map, zcv] at k ⊢
  rw [hC.2.1]
  exact va_slen hC.1.1 hC.1.2.1 hC.1.2.2.2.2.2.2.1 hC.1.2.2.2.2.2.2.2.1 (Nat.not_le.mpr hC.1.2.2.2.2.2.2.2.1) hS hd k
theorem l_sald {L : Nat} {xs : Nat → Int32} {pc : Nat} {ls : List (Option zAV)} {st : List zAV} {M : zMem} {x : Int} (j : Nat) (hx : x = (j : Int)) (hj : j < L) (hL2 : L ≤ 2560) (hd : decode code pc = .ok (.iaload, 1)) (k : lV L xs (pc + 1) ls (zi (xs j).toInt :: st) M) : lV L xs pc ls (zi x :: zr 75 :: st) M := by
  intro hR p l e s m below meth c b dC dI as cA H locs lsA hC hP hD hS hL
  obtain ⟨h1, h2⟩ := z_in hx hj (by omega)
  have k := k hR p l e s m below meth c b dC dI as cA H locs lsA hC hP hD hS hL
  simp only [List.map, zcv] at k ⊢
  rw [hC.2.1]
  refine va_sld hC.1.1 hC.1.2.1 hC.1.2.2.2.2.2.2.1 hC.1.2.2.2.2.2.2.2.1 (Nat.not_le.mpr hC.1.2.2.2.2.2.2.2.1) hS h1 hd ?_
  rw [h2]
  rw [Int32.ofInt_toInt] at k
  exact k
theorem l_same {L : Nat} {xs : Nat → Int32} {pc : Nat} {ls : List (Option zAV)} {st : List zAV} {M : zMem} {x off : Int} {tgt : Nat} (hd : decode code pc = .ok (.if_icmp .eq off, 3)) (ht : (pc : Int) + off = (tgt : Int)) (k : lV L xs tgt ls st M) : lV L xs pc ls (zi x :: zi x :: st) M := by
  intro hR p l e s m below meth c b dC dI as cA H locs lsA hC hP hD hS hL
  exact lv_icmp_eq hC.1.1 hC.1.2.1 hd ht (fun _ => k hR p l e s m below meth c b dC dI as cA H locs lsA hC hP hD hS hL) (fun q => absurd rfl q)
theorem l_gt {L : Nat} {xs : Nat → Int32} {pc : Nat} {ls : List (Option zAV)} {st : List zAV} {M : zMem} {x y off : Int} {tgt : Nat} (hx : zrng x) (hy : zrng y) (hd : decode code pc = .ok (.if_icmp .gt off, 3)) (ht : (pc : Int) + off = (tgt : Int)) (kt : y < x → lV L xs tgt ls st M) (kf : ¬ y < x → lV L xs (pc + 3) ls st M) : lV L xs pc ls (zi y :: zi x :: st) M := by
  intro hR p l e s m below meth c b dC dI as cA H locs lsA hC hP hD hS hL
  exact lv_icmp_gt hC.1.1 hC.1.2.1 hd ht (fun q => kt ((z_lt hy hx).mp q) hR p l e s m below meth c b dC dI as cA H locs lsA hC hP hD hS hL) (fun q => kf (fun z => q ((z_lt hy hx).mpr z)) hR p l e s m below meth c b dC dI as cA H locs lsA hC hP hD hS hL)
theorem l_ifeq {L : Nat} {xs : Nat → Int32} {pc : Nat} {ls : List (Option zAV)} {st : List zAV} {M : zMem} {x off : Int} {tgt : Nat} (hx : zrng x) (hd : decode code pc = .ok (.ifCond .eq off, 3)) (ht : (pc : Int) + off = (tgt : Int)) (kt : x = 0 → lV L xs tgt ls st M) (kf : ¬ x = 0 → lV L xs (pc + 3) ls st M) : lV L xs pc ls (zi x :: st) M := by
  intro hR p l e s m below meth c b dC dI as cA H locs lsA hC hP hD hS hL
  exact lv_if_eq hC.1.1 hC.1.2.1 hd ht (fun q => kt ((z_eq hx z_rng0).mp q) hR p l e s m below meth c b dC dI as cA H locs lsA hC hP hD hS hL) (fun q => kf (fun z => q ((z_eq hx z_rng0).mpr z)) hR p l e s m below meth c b dC dI as cA H locs lsA hC hP hD hS hL)
theorem l_goto {L : Nat} {xs : Nat → Int32} {pc : Nat} {ls : List (Option zAV)} {st : List zAV} {M : zMem} {off : Int} {tgt : Nat} (hd : decode code pc = .ok (.goto off, 3)) (ht : (pc : Int) + off = (tgt : Int)) (k : lV L xs tgt ls st M) : lV L xs pc ls st M := by
  intro hR p l e s m below meth c b dC dI as cA H locs lsA hC hP hD hS hL
  exact lv_goto hC.1.1 hC.1.2.1 hd ht (k hR p l e s m below meth c b dC dI as cA H locs lsA hC hP hD hS hL)
theorem l_swIn {L : Nat} {xs : Nat → Int32} {pc : Nat} {ls : List (Option zAV)} {st : List zAV} {M : zMem} {dflt lo hi off x : Int} {offs : Array Int} {len tgt : Nat} (n : Nat) (hx : zrng x) (hn : x = lo + n) (hd : decode code pc = .ok (.tableswitch dflt lo hi offs, len)) (hh : lo + (n : Int) ≤ hi) (ho : offs[n]? = some off) (ht : (pc : Int) + off = (tgt : Int)) (k : lV L xs tgt ls st M) : lV L xs pc ls (zi x :: st) M := by
  intro hR p l e s m below meth c b dC dI as cA H locs lsA hC hP hD hS hL
  refine lv_tableIn hC.1.1 hC.1.2.1 hd (by rw [z_toInt hx]; omega) (by rw [z_toInt hx]; omega) (by rw [z_toInt hx, show (x - lo).toNat = n by omega]; exact ho) ht (k hR p l e s m below meth c b dC dI as cA H locs lsA hC hP hD hS hL)
theorem l_swOut {L : Nat} {xs : Nat → Int32} {pc : Nat} {ls : List (Option zAV)} {st : List zAV} {M : zMem} {dflt lo hi x : Int} {offs : Array Int} {len tgt : Nat} (hx : zrng x) (hd : decode code pc = .ok (.tableswitch dflt lo hi offs, len)) (hh : x < lo ∨ hi < x) (ht : (pc : Int) + dflt = (tgt : Int)) (k : lV L xs tgt ls st M) : lV L xs pc ls (zi x :: st) M := by
  intro hR p l e s m below meth c b dC dI as cA H locs lsA hC hP hD hS hL
  refine lv_tableOut hC.1.1 hC.1.2.1 hd (by rw [z_toInt hx]; exact hh) ht (k hR p l e s m below meth c b dC dI as cA H locs lsA hC hP hD hS hL)
theorem l_iinc {L : Nat} {xs : Nat → Int32} {pc : Nat} {a0 a1 a2 : Option zAV} {st : List zAV} {M : zMem} {x n : Int} (hd : decode code pc = .ok (.iinc 3 n, 3)) (k : lV L xs (pc + 3) [a0, a1, a2, some (zi (x + n))] st M) : lV L xs pc [a0, a1, a2, some (zi x)] st M := by
  intro hR p l e s m below meth c b dC dI as cA H locs lsA hC hP hD hS hL
  have hg := hL.2.2.2 3 (zi x) rfl (Or.inl rfl)
  obtain ⟨lsA', e', hz'⟩ := hL.set (i := 3) (v := zi (x + n)) (by decide) rfl
  have k := k hR p l e s m below meth c b dC dI as cA H locs lsA' hC hP hD hS hz'
  intro T hT X
  obtain ⟨t, a, b⟩ := k T hT X
  refine ⟨t, ?_, b⟩
  simp only [zcv, Int32.ofInt_add] at e' hg
  jvm_step X.here [X.here.top, ↓top_set X.here.top, hC.1.1, hC.1.2.1, hd, hg, e']
  exact a
theorem l_ret {L : Nat} {xs : Nat → Int32} {pc : Nat} {ls : List (Option zAV)} {M : zMem} (hd : decode code pc = .ok (.ireturn, 1)) : lV L xs pc ls [zi 1] M := by
  intro hR p l e s m below meth c b dC dI as cA H locs lsA hC hP hD hS hL
  refine va_forget (fun q hq => hS.2.2 q hq) ?_
  exact lw_ret hC.1.1 hC.1.2.1 hC.1.2.2.1 hC.1.2.2.2.2.2.2.2.2.1 hd
theorem lz_A {p : Program} {s : State} {m : MethodId} {meth : Method} {c : Code} {b L : Nat} {xs : Nat → Int32} {dC : Nat → ClassId} {dI : Nat → Nat → Nat} {as : Nat → Nat} {cA : Nat → ClassId} {H : Heap} (hC : lCx p s m meth c b L xs dC dI as cA) (hz : s.heap.size ≤ H.size) : ∀ q, zA as H.size q → s.heap.size ≤ q := by
  rintro q (⟨c', h1, rfl⟩ | h)
  · exact hC.2.2.2 c' h1
  · exact Nat.le_trans hz h
theorem l_callV {L : Nat} {xs : Nat → Int32} {μ' : zD} {d' pc idx n q ci N : Nat} {ls : List (Option zAV)} {st av : List zAV} {M : zMem} {post' : Int → zMem → Prop} {rs : List (Option Nat)} {C : String} {Tt : u_T} (hsh : zsh q = .inr (ci, rs)) (hq : q < 65) (hcl : vwCl[ci]? = some (C, Tt, N)) (w1 : Cond.methodLink R_law idx μ'.2.2.2.2 ∈ zAll) (w2 : Cond.instanceMethod μ'.2.2.2.2 ∈ zAll) (w3 : Cond.selects C μ'.2.2.2.2 μ'.2.2.2.2 ∈ zAll) (w4 : Cond.initialized C ∈ zAll) (w5 : Cond.code μ'.2.2.2.2 μ'.2.1 μ'.2.2.1 μ'.2.2.2.1 ∈ zAll) (hy : μ'.2.2.2.2.cls = C ∧ μ'.2.2.2.2.cls ≠ "java/lang/invoke/MethodHandle" ∧ μ'.2.2.2.2.cls ≠ "java/lang/invoke/VarHandle" ∧ (parseMethodDescriptor μ'.2.2.2.2.desc).map (fun d => d.parameters.length) = some n) (hlen : av.length = n) (hnl : μ'.2.2.1 ≤ 11) (hret : ∃ ty, μ'.2.2.2.1 = some ty) (hd : decode code pc = .ok (.invokevirtual idx, 3)) (hdd : d' ≤ 7) (hst : zcat st ≤ 8) (hSp : zSp μ' d' (zr q :: av) M post') (kk : ∀ r M', post' r M' → lV L xs (pc + 3) ls (zi r :: st) M') : lV L xs pc ls (av.reverse ++ zr q :: st) M := by
  intro hR p l e s m below meth c b dC dI as cA H locs lsA hC hP hD hS hL
  have hM := hSp hR l dC dI as cA H.size
  have hT := lz_hT hC.1
  have hA := lz_A hC hS.1
  have run : va_Run p l e room_1 s m #[Value.ref b] below meth c H locs 65 86280 0 0 (F0 m pc lsA ((av.reverse ++ zr q :: st).map (zcv as))) (st.map (zcv as)) (zQ μ'.2.2.2.1 dC dI as cA (zA as H.size) post' ((zr q :: av).map (zcv as)).toArray) (zA as H.size) :=
    va_runV (As := av.map (zcv as)) (b := as q) (nL := 4) (Ts := zAll) (own := R_law) (n := n) ⟨hC.1.1, hC.1.2.1, hC.1.2.2.2.1, hC.1.2.2.2.2.1, hT⟩ hM
      (cwV (C := C) n hT (z_goodV w1 w2 w3 w4 w5) rfl rfl rfl hy ⟨by show d' + 1 ≤ 9; omega, by show 8 + (μ'.2.2.1 + 11) + 30 * d' ≤ 356; omega⟩)
      ⟨zPc_blind, va_recv hC.2.2.1.1 hP hcl (by rw [zw_at as cA M hq, zE_o as cA M hsh]), fun U hU hW => ⟨rfl, by rw [hU], by rw [hU]; exact hP, ⟨va_K.moved hW.alike hC.2.2.1.1, by rw [hU]; exact ((hC.2.2.1.2.1.kept (H1 := H) hS.2.1).moved hW.alike).narrow hA, hC.2.2.1.2.2.warm hW⟩, hD.weaken (fun _ _ _ _ => trivial)⟩⟩
      rfl (by rw [List.length_map]; exact hlen) hL.1 (by simp [zcv]) (z_room as hst) hd ⟨Nat.le_refl _, Nat.le_refl _⟩
  obtain ⟨own', cc', nl', ret', y'⟩ := μ'
  obtain ⟨ty, hty⟩ := hret
  cases hty
  refine va_calli (a := ((zr q :: av).map (zcv as)).toArray) run hS (fun q _ h => hA q h) hA (fun r u t H1 locs1 ht hvm hw hB hz1 hk1 hS1 => ?_)
  obtain ⟨x, M1⟩ := u
  obtain ⟨rfl, hp1, hr1⟩ := hw
  obtain ⟨hP1, hD1⟩ := hB
  rw [ht] at hP1
  exact kk x M1 hp1 hr1 p l e s m below meth c b dC dI as cA H1 locs1 lsA hC hP1 (hD1.weaken (fun _ q _ h => hA q.1 h)) hS1 hL
