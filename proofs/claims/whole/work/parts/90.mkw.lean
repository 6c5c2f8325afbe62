theorem zm_aint : Cond.arrayClass .int ∈ zAll := zAll_of 116 (by decide +kernel) (by decide +kernel)
theorem zm_along : Cond.arrayClass .long ∈ zAll := zAll_of 287 (by decide +kernel) (by decide +kernel)
theorem zm_aboolean : Cond.arrayClass .boolean ∈ zAll := zAll_of 234 (by decide +kernel) (by decide +kernel)
theorem zm_oi : Cond.instanceMethod Lib.objectInit ∈ zAll := zAll_of 86 (by decide +kernel) (by decide +kernel)
set_option maxRecDepth 40000 in
theorem zm_oc : Cond.code Lib.objectInit ⟨#[0xb1]⟩ 1 none ∈ zAll := zAll_of 87 rfl rfl
theorem zm_ol_Terms : Cond.methodLink RX7 3 Lib.objectInit ∈ zAll := zAll_of 93 (by decide +kernel) (by decide +kernel)
set_option maxRecDepth 40000 in
theorem zm_code_Terms : Cond.code yX7_init cX7_init 2 none ∈ zAll := zAll_of 92 rfl rfl
theorem zm_im_Terms : Cond.instanceMethod yX7_init ∈ zAll := zAll_of 91 (by decide +kernel) (by decide +kernel)
theorem zm_in_Terms : Cond.instantiable RX7 4 ∈ zAll := zAll_of 89 (by decide +kernel) (by decide +kernel)
theorem zm_ol_Page : Cond.methodLink RX3 3 Lib.objectInit ∈ zAll := zAll_of 122 (by decide +kernel) (by decide +kernel)
set_option maxRecDepth 40000 in
theorem zm_code_Page : Cond.code yX3_init cX3_init 1 none ∈ zAll := zAll_of 121 rfl rfl
theorem zm_im_Page : Cond.instanceMethod yX3_init ∈ zAll := zAll_of 120 (by decide +kernel) (by decide +kernel)
theorem zm_in_Page : Cond.instantiable RX3 3 ∈ zAll := zAll_of 118 (by decide +kernel) (by decide +kernel)
theorem zm_ol_Table : Cond.methodLink RX6 3 Lib.objectInit ∈ zAll := zAll_of 147 (by decide +kernel) (by decide +kernel)
set_option maxRecDepth 40000 in
theorem zm_code_Table : Cond.code yX6_init cX6_init 1 none ∈ zAll := zAll_of 146 rfl rfl
theorem zm_im_Table : Cond.instanceMethod yX6_init ∈ zAll := zAll_of 145 (by decide +kernel) (by decide +kernel)
theorem zm_in_Table : Cond.instantiable RX6 3 ∈ zAll := zAll_of 143 (by decide +kernel) (by decide +kernel)
theorem zm_ol_Catalog : Cond.methodLink RX1 3 Lib.objectInit ∈ zAll := zAll_of 163 (by decide +kernel) (by decide +kernel)
set_option maxRecDepth 40000 in
theorem zm_code_Catalog : Cond.code yX1_init cX1_init 2 none ∈ zAll := zAll_of 162 rfl rfl
theorem zm_im_Catalog : Cond.instanceMethod yX1_init ∈ zAll := zAll_of 161 (by decide +kernel) (by decide +kernel)
theorem zm_in_Catalog : Cond.instantiable RX1 8 ∈ zAll := zAll_of 159 (by decide +kernel) (by decide +kernel)
theorem zm_ol_Notions : Cond.methodLink RX2 3 Lib.objectInit ∈ zAll := zAll_of 202 (by decide +kernel) (by decide +kernel)
set_option maxRecDepth 40000 in
theorem zm_code_Notions : Cond.code yX2_init cX2_init 1 none ∈ zAll := zAll_of 201 rfl rfl
theorem zm_im_Notions : Cond.instanceMethod yX2_init ∈ zAll := zAll_of 200 (by decide +kernel) (by decide +kernel)
theorem zm_in_Notions : Cond.instantiable RX2 7 ∈ zAll := zAll_of 198 (by decide +kernel) (by decide +kernel)
theorem zm_ol_Rows : Cond.methodLink RX5 5 Lib.objectInit ∈ zAll := zAll_of 240 (by decide +kernel) (by decide +kernel)
set_option maxRecDepth 40000 in
theorem zm_code_Rows : Cond.code yX5_init cX5_init 5 none ∈ zAll := zAll_of 239 rfl rfl
theorem zm_im_Rows : Cond.instanceMethod yX5_init ∈ zAll := zAll_of 238 (by decide +kernel) (by decide +kernel)
theorem zm_in_Rows : Cond.instantiable RX5 14 ∈ zAll := zAll_of 236 (by decide +kernel) (by decide +kernel)
theorem zm_ol_Rounds : Cond.methodLink RX4 3 Lib.objectInit ∈ zAll := zAll_of 293 (by decide +kernel) (by decide +kernel)
set_option maxRecDepth 40000 in
theorem zm_code_Rounds : Cond.code yX4_init cX4_init 1 none ∈ zAll := zAll_of 292 rfl rfl
theorem zm_im_Rounds : Cond.instanceMethod yX4_init ∈ zAll := zAll_of 291 (by decide +kernel) (by decide +kernel)
theorem zm_in_Rounds : Cond.instantiable RX4 6 ∈ zAll := zAll_of 289 (by decide +kernel) (by decide +kernel)
theorem zm_ol_S : Cond.methodLink RX8 1 Lib.objectInit ∈ zAll := zAll_of 85 (by decide +kernel) (by decide +kernel)
set_option maxRecDepth 40000 in
theorem zm_code_S : Cond.code yX8_init cX8_init 1 none ∈ zAll := zAll_of 84 rfl rfl
theorem zm_im_S : Cond.instanceMethod yX8_init ∈ zAll := zAll_of 83 (by decide +kernel) (by decide +kernel)
theorem zm_in_S : Cond.instantiable RX8 8 ∈ zAll := zAll_of 81 (by decide +kernel) (by decide +kernel)
theorem zm_ol_Model : Cond.methodLink RX9 1 Lib.objectInit ∈ zAll := zAll_of 845 (by decide +kernel) (by decide +kernel)
set_option maxRecDepth 40000 in
theorem zm_code_Model : Cond.code yX9_init cX9_init 2 none ∈ zAll := zAll_of 844 rfl rfl
theorem zm_im_Model : Cond.instanceMethod yX9_init ∈ zAll := zAll_of 843 (by decide +kernel) (by decide +kernel)
theorem zm_in_Model : Cond.instantiable RX9 38 ∈ zAll := zAll_of 841 (by decide +kernel) (by decide +kernel)
theorem zm_cl_S_7 : Cond.classLink RX8 7 RX7 ∈ zAll := zAll_of 88 (by decide +kernel) (by decide +kernel)
theorem zm_ml_9 : Cond.methodLink RX8 9 yX7_init ∈ zAll := zAll_of 90 (by decide +kernel) (by decide +kernel)
theorem zm_cl_S_16 : Cond.classLink RX8 16 RX3 ∈ zAll := zAll_of 117 (by decide +kernel) (by decide +kernel)
theorem zm_cl_S_23 : Cond.classLink RX8 23 RX6 ∈ zAll := zAll_of 142 (by decide +kernel) (by decide +kernel)
theorem zm_cl_S_30 : Cond.classLink RX8 30 RX1 ∈ zAll := zAll_of 158 (by decide +kernel) (by decide +kernel)
theorem zm_ml_32 : Cond.methodLink RX8 32 yX1_init ∈ zAll := zAll_of 160 (by decide +kernel) (by decide +kernel)
theorem zm_cl_S_39 : Cond.classLink RX8 39 RX2 ∈ zAll := zAll_of 197 (by decide +kernel) (by decide +kernel)
theorem zm_cl_S_46 : Cond.classLink RX8 46 RX5 ∈ zAll := zAll_of 235 (by decide +kernel) (by decide +kernel)
theorem zm_ml_48 : Cond.methodLink RX8 48 yX5_init ∈ zAll := zAll_of 237 (by decide +kernel) (by decide +kernel)
theorem zm_cl_S_55 : Cond.classLink RX8 55 RX4 ∈ zAll := zAll_of 288 (by decide +kernel) (by decide +kernel)
theorem zm_ms_Catalog_39 : Cond.methodLink RX1 39 yX1_slotBit ∈ zAll := zAll_of 164 (by decide +kernel) (by decide +kernel)
theorem zm_ms_Catalog_43 : Cond.methodLink RX1 43 yJ7_fill_53178 ∈ zAll := zAll_of 167 (by decide +kernel) (by decide +kernel)
theorem zm_ms_S_66 : Cond.methodLink RX8 66 yJ7_fill_53178 ∈ zAll := zAll_of 315 (by decide +kernel) (by decide +kernel)
theorem zm_ms_Rounds_59 : Cond.methodLink RX4 59 yJ7_fill_53178 ∈ zAll := zAll_of 784 (by decide +kernel) (by decide +kernel)
/-! making the world -/
abbrev zz : Nat → Int32 := fun _ => Int32.ofInt 0
abbrev zzL : Nat → Int64 := fun _ => Int64.ofInt 0
abbrev xo (a ci : Nat) (fs : List Value) : Nat × va_E := (a, .inr (ci, fs))
abbrev xi (cA : Nat → ClassId) (a n : Nat) (f : Nat → Int32) : Nat × va_E := (a, .inl (cA 0, n, .inl f))
abbrev xz (cA : Nat → ClassId) (a n : Nat) (f : Nat → Int32) : Nat × va_E := (a, .inl (cA 2, n, .inl f))
abbrev xl (cA : Nat → ClassId) (a n : Nat) (f : Nat → Int64) : Nat × va_E := (a, .inl (cA 1, n, .inr (.inl f)))
abbrev v0 : Value := .int (Int32.ofInt 0)
def gl (u : Nat → Nat) (cA : Nat → ClassId) (M : zMem) (cs : List Nat) : va_W := cs.map (fun c => (u c, zE u cA M c))
/-- what the cells hold when both objects are made -/
def zMi : zMem := fun c => match c with
  | 1 => fun i => if i = 3 then 3 else 0
  | 3 => fun i => if i = 2 then 1 else 0
  | 6 => fun i => if i = 12 then -9 else if i = 13 then -1 else 0
  | 8 => fun i => if i < 3 then 1 else 0
  | 9 => fun i => if i = 0 then 3 else 0
  | 10 => fun i => if i < 3 then -9 else 0
  | 11 => fun i => if i < 3 then -9 else 0
  | 12 => fun i => if i < 3 then 2 ^ i else 0
  | 20 => fun i => if i < 3341 then 192 else 0
  | 37 => fun i => if i < 400 then -9 else 0
  | 54 => fun i => if i < 3 then 1 else 0
  | _ => fun _ => 0
theorem g_newa {p : Program} {l : Launch} {e : Env} {R : Room} {s : State} {m : MethodId} {args : Array Value} {below : List Frame} {meth : Method} {c : Code} {H H0 : Heap} {locs : List Loc} {cells slots : Nat} {Q : State → Prop} {cc : ByteArray} {pc : Nat} {ls : Array Slot} {rest : List Value} {D : va_G} {cl : List vw_C} {tys : List (ClassId × FieldType)} {ws : va_W} {A : Nat → Prop} {cA : ClassId} {ty : FieldType} {atype : ArrayType} {n : Int32} {N' : Nat} {a0 : vp_A} (t0 : Nat) (hexec : p.tables.exec = Jvm.exec) (hb : c.code = cc) (harr : (Cond.arrayClass ty).before args s = true) (hty : newarray.typeOf atype = ty) (ht : tys[t0]? = some (cA, ty)) (hpr : ∀ cB, va_RA s cB ty → s.vm.findClass ("[" ++ ty.toString) = some cB) (hK : va_K D cl tys s) (hP : va_P D cl ws H) (hD : va_D A ws) (hS : va_S A H0 H locs) (hA : ∀ q, H0.size ≤ q → A q) (ha : ∀ cA : ClassId, vp_cell cA a0 = arrV cA N' (fun _ => defaultValue ty)) (hn : ¬ n < 0) (hN : n.toNatClampNeg = N') (hbytes : N' * componentBytes ty ≤ 536870912) (hcells : cells + 1 ≤ R.cells) (hslots : slots + N' ≤ R.slots) (hdg : decode cc pc = .ok (.newarray atype, 2))
    (kk : ∀ (q : Nat) (H1 : Heap), va_P D cl (ws ++ [(q, .inl (cA, a0))]) H1 → va_D A (ws ++ [(q, .inl (cA, a0))]) → va_S A H0 H1 locs → W p l e R s m args below meth c H1 locs (cells + 1) (slots + N') Q (F0 m (pc + 2) ls (.ref q :: rest))) : W p l e R s m args below meth c H locs cells slots Q (F0 m pc ls (.int n :: rest)) := by
  refine va_newa hexec hb (by rw [hty]; exact harr) hty hK hP hD hS hA ha hn hN hbytes hcells hslots hdg (fun q cB H1 hK1 hP1 hD1 hS1 => ?_)
  have e : cB = cA := by
    have h1 := hpr cB (hK1.2 tys.length (cB, ty) (by rw [List.getElem?_append_right (Nat.le_refl _)]; simp)).2
    have h2 := hpr cA (hK.2 t0 _ ht).2
    rw [h1] at h2
    exact Option.some.inj h2
  subst e
  exact kk q H1 hP1 hD1 hS1

