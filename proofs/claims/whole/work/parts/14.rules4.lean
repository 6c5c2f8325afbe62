def zcat (st : List zAV) : Nat := match st with
  | [] => 0
  | .inr (.inl _) :: r => 2 + zcat r
  | _ :: r => 1 + zcat r
theorem zcat_sum (as : Nat → Nat) : ∀ st : List zAV, ((st.map (zcv as)).map fun v => v.category).sum = zcat st
  | [] => rfl
  | .inl x :: r => by simp only [List.map, List.sum_cons, zcat_sum as r, zcat]; rfl
  | .inr (.inl x) :: r => by simp only [List.map, List.sum_cons, zcat_sum as r, zcat]; rfl
  | .inr (.inr x) :: r => by simp only [List.map, List.sum_cons, zcat_sum as r, zcat]; rfl
def zres (ret : Option FieldType) (r : Int) : List zAV := match ret with
  | none => []
  | some _ => [zi r]
theorem zA_le {as : Nat → Nat} {a b : Nat} (h : a ≤ b) : ∀ q, zA as b q → zA as a q := fun q hq => hq.imp id (fun z => Nat.le_trans h z)
theorem zPc_blind {dC : Nat → ClassId} {dI : Nat → Nat → Nat} {as : Nat → Nat} {cA : Nat → ClassId} {sz : Nat} {av : List zAV} {M : zMem} : FrameBlind (zPc dC dI as cA sz av M) := by
  intro a U g mk q
  obtain ⟨q0, q1, qP, ⟨qK, qX, qN⟩, qD⟩ := q
  exact ⟨q0, q1, qP, ⟨va_K.moved (u := U) (U := U.calling g mk a) (Vm.Alike.refl U.vm) qK, zX.moved (u := U) (U := U.calling g mk a) (Vm.Alike.refl U.vm) qX, zN.same (s := U) (U := U.calling g mk a) rfl qN⟩, qD⟩
theorem zPc_at {dC : Nat → ClassId} {dI : Nat → Nat → Nat} {as : Nat → Nat} {cA : Nat → ClassId} {av : List zAV} {M : zMem} {s : State} {H : Heap} {locs : List Loc} (hCx : zCx dC dI as cA (zA as s.heap.size) s s.heap) (hP : va_P (dC, dI) vwCl (zw as cA M) H) (hD : va_D (zA as s.heap.size) (zw as cA M)) (hS : va_S (zA as s.heap.size) s.heap H locs) (U : State) (hU : U.heap = H) (hW : s.WarmedH U.vm) : zPc dC dI as cA H.size av M (av.map (zcv as)).toArray U :=
  ⟨rfl, by rw [hU], by rw [hU]; exact hP, ⟨va_K.moved hW.alike hCx.1, by rw [hU]; exact ((hCx.2.1.kept (H1 := H) hS.2.1).moved hW.alike).narrow (zA_le hS.1), hCx.2.2.warm hW⟩, hD.weaken (fun _ _ _ _ => trivial)⟩
theorem zcall_go {μ μ' : zD} {d pc : Nat} {ls : List (Option zAV)} {st st0 : List zAV} {post post' : Int → zMem → Prop} {a : Array Value}
    {l : Launch} {dC : Nat → ClassId} {dI : Nat → Nat → Nat} {as : Nat → Nat} {cA : Nat → ClassId} {p : Program} {e : Env} {s : State} {m : MethodId} {args : Array Value} {below : List Frame} {meth : Method} {c : Code} {H : Heap} {locs : List Loc} {lsA : Array Slot}
    (hC : zC μ dC dI as cA p s m args meth c) (hS : va_S (zA as s.heap.size) s.heap H locs) (hL : zL as lsA μ.2.2.1 ls)
    (hr : va_Run p l e (zrm d) s m args below meth c H locs 0 0 0 0 (F0 m pc lsA (st0.map (zcv as))) (st.map (zcv as)) (zQ μ'.2.2.2.1 dC dI as cA (zA as H.size) post' a) (zA as H.size))
    (kk : ∀ r M', post' r M' → zV μ d (pc + 3) ls (zres μ'.2.2.2.1 r ++ st) M' post) :
    W p l e (zrm d) s m args below meth c H locs 0 0 (MQ below (zQ μ.2.2.2.1 dC dI as cA (zA as s.heap.size) post) args s 0 0 (zA as s.heap.size)) (F0 m pc lsA (st0.map (zcv as))) := by
  obtain ⟨own', cc', nl', ret', y'⟩ := μ'
  cases ret' with
  | none =>
    refine va_callv (a := a) hr hS (fun q _ h => zA_le hS.1 q h) (zA_le hS.1) (fun u t H1 locs1 ht hvm hw hB hz1 hk1 hS1 => ?_)
    obtain ⟨hp1, hr1⟩ := hw
    obtain ⟨hP1, hD1⟩ := hB
    rw [ht] at hP1
    exact kk 0 u hp1 hr1 l dC dI as cA p e s m args below meth c H1 locs1 lsA hC hP1 (hD1.weaken (fun _ q _ h => zA_le hS.1 q.1 h)) hS1 hL
  | some ty =>
    refine va_calli (a := a) hr hS (fun q _ h => zA_le hS.1 q h) (zA_le hS.1) (fun r u t H1 locs1 ht hvm hw hB hz1 hk1 hS1 => ?_)
    obtain ⟨x, M1⟩ := u
    obtain ⟨rfl, hp1, hr1⟩ := hw
    obtain ⟨hP1, hD1⟩ := hB
    rw [ht] at hP1
    exact kk x M1 hp1 hr1 l dC dI as cA p e s m args below meth c H1 locs1 lsA hC hP1 (hD1.weaken (fun _ q _ h => zA_le hS.1 q.1 h)) hS1 hL
theorem z_room {m : MethodId} {pc : Nat} {lsA : Array Slot} {x : List Value} (as : Nat → Nat) {st : List zAV} (h : zcat st ≤ 8) : 2 * (F0 m pc lsA x).monitorRoom + ((st.map (zcv as)).map fun v => v.category).sum ≤ 8 := lv_room (by rw [zcat_sum]; exact h)
theorem zAll_In : ∀ w ∈ zAll, w ∈ zAll := fun _ h => h
theorem z_goodV {own : String} {idx : Nat} {C : String} {μ' : zD} (w1 : Cond.methodLink own idx μ'.2.2.2.2 ∈ zAll) (w2 : Cond.instanceMethod μ'.2.2.2.2 ∈ zAll) (w3 : Cond.selects C μ'.2.2.2.2 μ'.2.2.2.2 ∈ zAll) (w4 : Cond.initialized C ∈ zAll) (w5 : Cond.code μ'.2.2.2.2 μ'.2.1 μ'.2.2.1 μ'.2.2.2.1 ∈ zAll) : GoodIn zAll (wsV own idx C μ'.2.2.2.2 (zws μ')) := by
  intro w hw
  unfold wsV at hw
  rcases List.mem_append.mp hw with h | h
  · have : w ∈ zAll := by
      simp only [List.mem_cons, List.not_mem_nil, or_false] at h
      rcases h with rfl | rfl | rfl | rfl <;> assumption
    exact ⟨this, zAll_good this⟩
  · exact zws_good zAll_In w5 w h
theorem z_goodS {own : String} {idx : Nat} {μ' : zD} (w1 : Cond.methodLink own idx μ'.2.2.2.2 ∈ zAll) (w2 : Cond.static μ'.2.2.2.2 ∈ zAll) (w4 : Cond.initialized μ'.2.2.2.2.cls ∈ zAll) (w5 : Cond.code μ'.2.2.2.2 μ'.2.1 μ'.2.2.1 μ'.2.2.2.1 ∈ zAll) : GoodIn zAll (va_wsS own idx μ'.2.2.2.2 (zws μ')) := by
  intro w hw
  unfold va_wsS at hw
  rcases List.mem_append.mp hw with h | h
  · have : w ∈ zAll := by
      simp only [List.mem_cons, List.not_mem_nil, or_false] at h
      rcases h with rfl | rfl | rfl <;> assumption
    exact ⟨this, zAll_good this⟩
  · exact zws_good zAll_In w5 w h
theorem z_callV {μ μ' : zD} {d d' pc idx n : Nat} {ls : List (Option zAV)} {st av : List zAV} {M : zMem} {post post' : Int → zMem → Prop} {q ci N : Nat} {rs : List (Option Nat)} {C : String} {Tt : u_T} (hsh : zsh q = .inr (ci, rs)) (hq : q < 65) (hcl : vwCl[ci]? = some (C, Tt, N)) (w1 : Cond.methodLink μ.1 idx μ'.2.2.2.2 ∈ zAll) (w2 : Cond.instanceMethod μ'.2.2.2.2 ∈ zAll) (w3 : Cond.selects C μ'.2.2.2.2 μ'.2.2.2.2 ∈ zAll) (w4 : Cond.initialized C ∈ zAll) (w5 : Cond.code μ'.2.2.2.2 μ'.2.1 μ'.2.2.1 μ'.2.2.2.1 ∈ zAll) (hy : μ'.2.2.2.2.cls = C ∧ μ'.2.2.2.2.cls ≠ "java/lang/invoke/MethodHandle" ∧ μ'.2.2.2.2.cls ≠ "java/lang/invoke/VarHandle" ∧ (parseMethodDescriptor μ'.2.2.2.2.desc).map (fun d => d.parameters.length) = some n) (hlen : av.length = n) (hnl : μ'.2.2.1 ≤ 11) (hd : decode μ.2.1 pc = .ok (.invokevirtual idx, 3)) (hdd : d' + 1 ≤ d) (hst : zcat st ≤ 8) (hSp : zSp μ' d' (zr q :: av) M post') (kk : ∀ r M', post' r M' → zV μ d (pc + 3) ls (zres μ'.2.2.2.1 r ++ st) M' post) : zV μ d pc ls (av.reverse ++ zr q :: st) M post := by
  intro hR l dC dI as cA p e s m args below meth c H locs lsA hC hP hD hS hL
  have hM := hSp hR l dC dI as cA H.size
  refine zcall_go (μ' := μ') (post' := post') (a := ((zr q :: av).map (zcv as)).toArray) hC hS hL ?_ kk
  exact va_runV (As := av.map (zcv as)) (b := as q) (nL := μ.2.2.1) (Ts := zAll) (own := μ.1) (n := n) ⟨hC.1, hC.2.1, hC.2.2.1, hC.2.2.2.1, hC.2.2.2.2.1⟩ hM
    (cwV (C := C) n hC.2.2.2.2.1 (z_goodV w1 w2 w3 w4 w5) rfl rfl rfl hy ⟨hdd, by show 8 + (μ'.2.2.1 + 11) + 30 * d' ≤ 30 * d; omega⟩)
    ⟨zPc_blind, va_recv hC.2.2.2.2.2.2.2.1 hP hcl (by rw [zw_at as cA M hq, zE_o as cA M hsh]), fun U hU hW => zPc_at (av := zr q :: av) hC.2.2.2.2.2.2.2 hP hD hS U hU hW⟩
    rfl (by rw [List.length_map]; exact hlen) hL.1 (by simp [zcv]) (z_room as hst) hd ⟨Nat.le_refl 0, Nat.le_refl 0⟩
theorem z_callS {μ μ' : zD} {d d' pc idx n : Nat} {ls : List (Option zAV)} {st av : List zAV} {M : zMem} {post post' : Int → zMem → Prop} (w1 : Cond.methodLink μ.1 idx μ'.2.2.2.2 ∈ zAll) (w2 : Cond.static μ'.2.2.2.2 ∈ zAll) (w4 : Cond.initialized μ'.2.2.2.2.cls ∈ zAll) (w5 : Cond.code μ'.2.2.2.2 μ'.2.1 μ'.2.2.1 μ'.2.2.2.1 ∈ zAll) (hy : μ'.2.2.2.2.cls ≠ "java/lang/invoke/MethodHandle" ∧ μ'.2.2.2.2.cls ≠ "java/lang/invoke/VarHandle" ∧ (parseMethodDescriptor μ'.2.2.2.2.desc).map (fun d => d.parameters.length) = some n) (hlen : av.length = n) (hnl : μ'.2.2.1 ≤ 11) (hd : decode μ.2.1 pc = .ok (.invokestatic idx, 3)) (hdd : d' + 1 ≤ d) (hst : zcat st ≤ 8) (hSp : zSp μ' d' av M post') (kk : ∀ r M', post' r M' → zV μ d (pc + 3) ls (zres μ'.2.2.2.1 r ++ st) M' post) : zV μ d pc ls (av.reverse ++ st) M post := by
  intro hR l dC dI as cA p e s m args below meth c H locs lsA hC hP hD hS hL
  have hM := hSp hR l dC dI as cA H.size
  refine zcall_go (μ' := μ') (post' := post') (a := (av.map (zcv as)).toArray) hC hS hL ?_ kk
  exact va_runS (As := av.map (zcv as)) (nL := μ.2.2.1) (Ts := zAll) (own := μ.1) (n := n) ⟨hC.1, hC.2.1, hC.2.2.1, hC.2.2.2.1, hC.2.2.2.2.1⟩ hM
    (va_cwS n hC.2.2.2.2.1 (z_goodS w1 w2 w4 w5) rfl rfl rfl hy ⟨hdd, by show 8 + (μ'.2.2.1 + 11) + 30 * d' ≤ 30 * d; omega⟩)
    ⟨zPc_blind, fun U hU hW => zPc_at hC.2.2.2.2.2.2.2 hP hD hS U hU hW⟩
    rfl (by rw [List.length_map]; exact hlen) hL.1 (by simp) (z_room as hst) hd ⟨Nat.le_refl 0, Nat.le_refl 0⟩
theorem z_callSN {μ μ' : zD} {d d' pc idx n : Nat} {ls : List (Option zAV)} {st av : List zAV} {M : zMem} {post post' : Int → zMem → Prop} {host : String} (hl : ∀ U, zN U → va_Nw (.methodLinkNest μ.1 idx μ'.2.2.2.2 host) U) (w2 : Cond.static μ'.2.2.2.2 ∈ zAll) (w4 : Cond.initialized μ'.2.2.2.2.cls ∈ zAll) (w5 : Cond.code μ'.2.2.2.2 μ'.2.1 μ'.2.2.1 μ'.2.2.2.1 ∈ zAll) (hy : μ'.2.2.2.2.cls ≠ "java/lang/invoke/MethodHandle" ∧ μ'.2.2.2.2.cls ≠ "java/lang/invoke/VarHandle" ∧ (parseMethodDescriptor μ'.2.2.2.2.desc).map (fun d => d.parameters.length) = some n) (hlen : av.length = n) (hnl : μ'.2.2.1 ≤ 11) (hd : decode μ.2.1 pc = .ok (.invokestatic idx, 3)) (hdd : d' + 1 ≤ d) (hst : zcat st ≤ 8) (hSp : zSp μ' d' av M post') (kk : ∀ r M', post' r M' → zV μ d (pc + 3) ls (zres μ'.2.2.2.1 r ++ st) M' post) : zV μ d pc ls (av.reverse ++ st) M post := by
  intro hR l dC dI as cA p e s m args below meth c H locs lsA hC hP hD hS hL
  have hM := hSp hR l dC dI as cA H.size
  refine zcall_go (μ' := μ') (post' := post') (a := (av.map (zcv as)).toArray) hC hS hL ?_ kk
  exact va_runSN (As := av.map (zcv as)) (nL := μ.2.2.1) (Ts := zAll) (own := μ.1) (n := n) (host := host) ⟨hC.1, hC.2.1, hC.2.2.1, hC.2.2.2.1, hC.2.2.2.2.1⟩ hM
    ⟨va_cnB n hC.2.2.2.2.1 (zws_good zAll_In w5) rfl rfl rfl (hl s hC.2.2.2.2.2.2.2.2.2) (hC.2.2.2.2.1 _ w4) hy ⟨hdd, by show 8 + (μ'.2.2.1 + 11) + 30 * d' ≤ 30 * d; omega⟩, hC.2.2.2.2.1 _ w2, trivial⟩
    ⟨zPc_blind, fun U hU hW => zPc_at hC.2.2.2.2.2.2.2 hP hD hS U hU hW⟩
    rfl (by rw [List.length_map]; exact hlen) hL.1 (by simp) (z_room as hst) hd ⟨Nat.le_refl 0, Nat.le_refl 0⟩
theorem z_max {μ : zD} {d pc idx : Nat} {ls : List (Option zAV)} {st : List zAV} {M : zMem} {post : Int → zMem → Prop} {x y : Int} (hx : zrng x) (hy : zrng y) (w1 : Cond.methodLink μ.1 idx Lib.Math.max.name ∈ zAll) (w2 : Cond.static Lib.Math.max.name ∈ zAll) (w4 : Cond.initialized "java/lang/Math" ∈ zAll) (w5 : Cond.code Lib.Math.max.name Lib.Math.max.code 2 (some .int) ∈ zAll) (hd : decode μ.2.1 pc = .ok (.invokestatic idx, 3)) (hdd : 1 ≤ d) (hst : zcat st ≤ 8) (k : zV μ d (pc + 3) ls (zi (if x < y then y else x) :: st) M post) : zV μ d pc ls (zi y :: zi x :: st) M post := by
  intro hR l dC dI as cA p e s m args below meth c H locs lsA hC hP hD hS hL
  have k := k hR l dC dI as cA p e s m args below meth c H locs lsA hC hP hD hS hL
  simp only [List.map, zcv] at k ⊢
  refine va_mmax hC.1 hC.2.1 (hC.2.2.1.trans hL.1.symm) hC.2.2.2.1 (hC.2.2.2.2.1 _ w1) (hC.2.2.2.2.1 _ w2) (hC.2.2.2.2.1 _ w4) (hC.2.2.2.2.1 _ w5) hdd (by have := zcat_sum as st; show _ ≤ 30 * d; omega) (Nat.le_refl 0) (Nat.le_refl 0) hd ?_
  have h9 : (if Int32.ofInt x < Int32.ofInt y then Int32.ofInt y else Int32.ofInt x) = Int32.ofInt (if x < y then y else x) := by
    simp only [z_lt hx hy, z_lt hy hx]
    split <;> rfl
  rw [h9]
  exact k
theorem z_min {μ : zD} {d pc idx : Nat} {ls : List (Option zAV)} {st : List zAV} {M : zMem} {post : Int → zMem → Prop} {x y : Int} (hx : zrng x) (hy : zrng y) (w1 : Cond.methodLink μ.1 idx Lib.Math.min.name ∈ zAll) (w2 : Cond.static Lib.Math.min.name ∈ zAll) (w4 : Cond.initialized "java/lang/Math" ∈ zAll) (w5 : Cond.code Lib.Math.min.name Lib.Math.min.code 2 (some .int) ∈ zAll) (hd : decode μ.2.1 pc = .ok (.invokestatic idx, 3)) (hdd : 1 ≤ d) (hst : zcat st ≤ 8) (k : zV μ d (pc + 3) ls (zi (if y < x then y else x) :: st) M post) : zV μ d pc ls (zi y :: zi x :: st) M post := by
  intro hR l dC dI as cA p e s m args below meth c H locs lsA hC hP hD hS hL
  have k := k hR l dC dI as cA p e s m args below meth c H locs lsA hC hP hD hS hL
  simp only [List.map, zcv] at k ⊢
  refine va_mmin hC.1 hC.2.1 (hC.2.2.1.trans hL.1.symm) hC.2.2.2.1 (hC.2.2.2.2.1 _ w1) (hC.2.2.2.2.1 _ w2) (hC.2.2.2.2.1 _ w4) (hC.2.2.2.2.1 _ w5) hdd (by have := zcat_sum as st; show _ ≤ 30 * d; omega) (Nat.le_refl 0) (Nat.le_refl 0) hd ?_
  have h9 : (if Int32.ofInt y < Int32.ofInt x then Int32.ofInt y else Int32.ofInt x) = Int32.ofInt (if y < x then y else x) := by
    simp only [z_lt hx hy, z_lt hy hx]
    split <;> rfl
  rw [h9]
  exact k
