set_option maxHeartbeats 4000000 in
set_option maxRecDepth 100000 in
theorem k_Page (l : Launch) (dC : Nat → ClassId) (dI : Nat → Nat → Nat) (cA : Nat → ClassId) (h0 sz : Nat) : Met l yX3_init (zws zd_Page_init) ({ frames := 1, cells := 2, slots := 12, locals := 30 * 1 }) (va_Pc [.ref h0] (fun U => U.heap.size = sz ∧ va_P (dC, dI) vwCl [xo h0 2 [.null, .null, v0]] U.heap ∧ va_K (dC, dI) vwCl (ztys cA) U ∧ va_D (fun _ => True) [xo h0 2 [.null, .null, v0]])) (va_Qv (fun u : Nat → Nat => u 2 = h0) (fun u t => va_P (dC, dI) vwCl (gl u cA zMi [2, 13, 14]) t.heap ∧ va_D (va_A [xo h0 2 [.null, .null, v0]] sz) (gl u cA zMi [2, 13, 14])) (va_A [xo h0 2 [.null, .null, v0]] sz)) 2 12 (va_A [xo h0 2 [.null, .null, v0]] sz) := by
  refine Met.ofW (cc := cX3_init) (maxL := 1) (ret := none) (by decide) rfl ?_
  intro p e s m args below meth c s₁ B hml hv
  obtain ⟨rfl, hsz, hP, hK, hD0⟩ := hv
  have hx := B.exec
  have hb := B.bytes
  have hr := B.returns
  have hts := atoms_spec (ws := zws zd_Page_init) B.pre
  have hT : ∀ w ∈ zAll, w.before _ s = true := fun w hw => hts w (List.mem_cons_of_mem _ hw)
  have hown : s.vm.findClass RX3 = some m.cls := findClass_of_methodNamed B.named
  have hlocks := B.notSynchronized
  have hin : meth.name = "<init>" := (name_of_methodNamed B.named B.method).1
  subst hsz
  have hD := hD0.self (sz := s.heap.size)
  generalize hAe : va_A [xo h0 2 [.null, .null, v0]] s.heap.size = A at hD ⊢
  have hA : ∀ q : Nat, s.heap.size ≤ q → A q := fun q h => by rw [← hAe]; exact Or.inr h
  have hS : va_S A s.heap s.heap [] := va_S.rf
  have hP : va_P (dC, dI) vwCl [xo h0 2 [.null, .null, v0]] s.heap := hP
  have hl := lv_entry ([.ref h0]) (n := 1) (Nat.le_of_ble_eq_true rfl)
  rw [lg_entry_eq]
  generalize (lg_sl ([.ref h0]) ++ List.replicate (1 - (lg_sl ([.ref h0])).length) Slot.unset).toArray = ls at hl ⊢
  have hl : lv_has ls 1 [(0, .ref h0)] := hl
  refine lv_aload_n hx hb dX3_init_0 rfl (lv_at hl 0 rfl) ?_
  refine W.objInit hx hb hown (hT _ zm_ol_Page) (hT _ zm_oi) (hT _ zm_oc) rfl (by rw [hml]; exact hl.1) rfl dX3_init_1 (Nat.le_of_ble_eq_true rfl) (Nat.le_of_ble_eq_true rfl) ?_
  refine W.eq (g2 := F0 m 4 ls []) rfl ?_
  refine lv_aload_n hx hb dX3_init_4 rfl (lv_at hl 0 rfl) ?_
  refine lv_bipush (v := Int32.ofInt 6) hx hb dX3_init_5 (by decide) ?_
  refine g_newa (a0 := (6, .inl zz)) (N' := 6) 0 hx hb (hT _ zm_aint) rfl rfl (fun _ h => h) hK hP hD hS hA (fun _ => rfl) (by decide) (by decide) (by decide) (Nat.le_of_ble_eq_true rfl) (Nat.le_of_ble_eq_true rfl) dX3_init_7 (fun q7 H hP hD hS => ?_)
  have hP : va_P (dC, dI) vwCl [xo h0 2 [.null, .null, v0], xi cA q7 6 zz] H := hP
  have hD : va_D A [xo h0 2 [.null, .null, v0], xi cA q7 6 zz] := hD
  refine va_putF (D := (dC, dI)) (ci := 2) (v := .ref q7) (ty := .array .int) (C := RX3) (T := TX3) (N := 3) hx hb hT zin_Page tyX3 tyX3_ok nmX3 hown hK hP hD hS 0 rfl rfl 0 (by decide) (hT _ zf_Page_11) (fun _ h9 => h9) rfl hin rfl (by decide +kernel) rfl rfl (Nat.le_of_ble_eq_true rfl) dX3_init_9 (fun H locs hP hD hS => ?_)
  have hP : va_P (dC, dI) vwCl [xo h0 2 [.ref q7, .null, v0], xi cA q7 6 zz] H := hP
  have hD : va_D A [xo h0 2 [.ref q7, .null, v0], xi cA q7 6 zz] := hD
  refine lv_aload_n hx hb dX3_init_12 rfl (lv_at hl 0 rfl) ?_
  refine lv_bipush (v := Int32.ofInt 6) hx hb dX3_init_13 (by decide) ?_
  refine g_newa (a0 := (6, .inl zz)) (N' := 6) 0 hx hb (hT _ zm_aint) rfl rfl (fun _ h => h) hK hP hD hS hA (fun _ => rfl) (by decide) (by decide) (by decide) (Nat.le_of_ble_eq_true rfl) (Nat.le_of_ble_eq_true rfl) dX3_init_15 (fun q15 H hP hD hS => ?_)
  have hP : va_P (dC, dI) vwCl [xo h0 2 [.ref q7, .null, v0], xi cA q7 6 zz, xi cA q15 6 zz] H := hP
  have hD : va_D A [xo h0 2 [.ref q7, .null, v0], xi cA q7 6 zz, xi cA q15 6 zz] := hD
  refine va_putF (D := (dC, dI)) (ci := 2) (v := .ref q15) (ty := .array .int) (C := RX3) (T := TX3) (N := 3) hx hb hT zin_Page tyX3 tyX3_ok nmX3 hown hK hP hD hS 0 rfl rfl 1 (by decide) (hT _ zf_Page_15) (fun _ h9 => h9) rfl hin rfl (by decide +kernel) rfl rfl (Nat.le_of_ble_eq_true rfl) dX3_init_17 (fun H locs hP hD hS => ?_)
  have hP : va_P (dC, dI) vwCl [xo h0 2 [.ref q7, .ref q15, v0], xi cA q7 6 zz, xi cA q15 6 zz] H := hP
  have hD : va_D A [xo h0 2 [.ref q7, .ref q15, v0], xi cA q7 6 zz, xi cA q15 6 zz] := hD
  refine lv_aload_n hx hb dX3_init_20 rfl (lv_at hl 0 rfl) ?_
  refine lv_iconst (v := Int32.ofInt 0) hx hb dX3_init_21 (by decide) ?_
  refine va_put (D := (dC, dI)) (ci := 2) (v := .int (Int32.ofInt 0)) (ty := .int) (C := RX3) (T := TX3) (N := 3) hx hb hT zin_Page tyX3 tyX3_ok nmX3 hown hK hP hD hS 0 rfl rfl 2 (by decide) (hT _ zf_Page_18) (fun _ h9 => h9) rfl (by decide +kernel) rfl rfl (Nat.le_of_ble_eq_true rfl) dX3_init_22 (fun H locs hP hD hS => ?_)
  have hP : va_P (dC, dI) vwCl [xo h0 2 [.ref q7, .ref q15, .int (Int32.ofInt 0)], xi cA q7 6 zz, xi cA q15 6 zz] H := hP
  have hD : va_D A [xo h0 2 [.ref q7, .ref q15, .int (Int32.ofInt 0)], xi cA q7 6 zz, xi cA q15 6 zz] := hD
  obtain ⟨u, hu⟩ : ∃ u : Nat → Nat, u = fun c => if c = 2 then h0 else if c = 13 then q7 else if c = 14 then q15 else 0 := ⟨_, rfl⟩
  have hw : [xo h0 2 [.ref q7, .ref q15, .int (Int32.ofInt 0)], xi cA q7 6 zz, xi cA q15 6 zz] = gl u cA zMi [2, 13, 14] := by
    subst hu
    exact rfl
  rw [hw] at hP hD
  refine W.widen (k := 2) (n := 12) (by omega) (by omega) ?_
  exact W.vret hx hb hr (fun t ht hW => ⟨⟨u, rfl, (by subst hu; exact rfl), by rw [ht]; exact hP, hD⟩, hS.F ht⟩) hS.2.2 dX3_init_25
set_option maxHeartbeats 4000000 in
set_option maxRecDepth 100000 in
theorem k_Table (l : Launch) (dC : Nat → ClassId) (dI : Nat → Nat → Nat) (cA : Nat → ClassId) (h0 sz : Nat) : Met l yX6_init (zws zd_Table_init) ({ frames := 1, cells := 2, slots := 29, locals := 30 * 1 }) (va_Pc [.ref h0] (fun U => U.heap.size = sz ∧ va_P (dC, dI) vwCl [xo h0 5 [.null, .null, v0]] U.heap ∧ va_K (dC, dI) vwCl (ztys cA) U ∧ va_D (fun _ => True) [xo h0 5 [.null, .null, v0]])) (va_Qv (fun u : Nat → Nat => u 3 = h0) (fun u t => va_P (dC, dI) vwCl (gl u cA zMi [3, 15, 16]) t.heap ∧ va_D (va_A [xo h0 5 [.null, .null, v0]] sz) (gl u cA zMi [3, 15, 16])) (va_A [xo h0 5 [.null, .null, v0]] sz)) 2 29 (va_A [xo h0 5 [.null, .null, v0]] sz) := by
  refine Met.ofW (cc := cX6_init) (maxL := 1) (ret := none) (by decide) rfl ?_
  intro p e s m args below meth c s₁ B hml hv
  obtain ⟨rfl, hsz, hP, hK, hD0⟩ := hv
  have hx := B.exec
  have hb := B.bytes
  have hr := B.returns
  have hts := atoms_spec (ws := zws zd_Table_init) B.pre
  have hT : ∀ w ∈ zAll, w.before _ s = true := fun w hw => hts w (List.mem_cons_of_mem _ hw)
  have hown : s.vm.findClass RX6 = some m.cls := findClass_of_methodNamed B.named
  have hlocks := B.notSynchronized
  have hin : meth.name = "<init>" := (name_of_methodNamed B.named B.method).1
  subst hsz
  have hD := hD0.self (sz := s.heap.size)
  generalize hAe : va_A [xo h0 5 [.null, .null, v0]] s.heap.size = A at hD ⊢
  have hA : ∀ q : Nat, s.heap.size ≤ q → A q := fun q h => by rw [← hAe]; exact Or.inr h
  have hS : va_S A s.heap s.heap [] := va_S.rf
  have hP : va_P (dC, dI) vwCl [xo h0 5 [.null, .null, v0]] s.heap := hP
  have hl := lv_entry ([.ref h0]) (n := 1) (Nat.le_of_ble_eq_true rfl)
  rw [lg_entry_eq]
  generalize (lg_sl ([.ref h0]) ++ List.replicate (1 - (lg_sl ([.ref h0])).length) Slot.unset).toArray = ls at hl ⊢
  have hl : lv_has ls 1 [(0, .ref h0)] := hl
  refine lv_aload_n hx hb dX6_init_0 rfl (lv_at hl 0 rfl) ?_
  refine W.objInit hx hb hown (hT _ zm_ol_Table) (hT _ zm_oi) (hT _ zm_oc) rfl (by rw [hml]; exact hl.1) rfl dX6_init_1 (Nat.le_of_ble_eq_true rfl) (Nat.le_of_ble_eq_true rfl) ?_
  refine W.eq (g2 := F0 m 4 ls []) rfl ?_
  refine lv_aload_n hx hb dX6_init_4 rfl (lv_at hl 0 rfl) ?_
  refine lv_bipush (v := Int32.ofInt 9) hx hb dX6_init_5 (by decide) ?_
  refine g_newa (a0 := (9, .inl zz)) (N' := 9) 0 hx hb (hT _ zm_aint) rfl rfl (fun _ h => h) hK hP hD hS hA (fun _ => rfl) (by decide) (by decide) (by decide) (Nat.le_of_ble_eq_true rfl) (Nat.le_of_ble_eq_true rfl) dX6_init_7 (fun q7 H hP hD hS => ?_)
  have hP : va_P (dC, dI) vwCl [xo h0 5 [.null, .null, v0], xi cA q7 9 zz] H := hP
  have hD : va_D A [xo h0 5 [.null, .null, v0], xi cA q7 9 zz] := hD
  refine va_putF (D := (dC, dI)) (ci := 5) (v := .ref q7) (ty := .array .int) (C := RX6) (T := TX6) (N := 3) hx hb hT zin_Table tyX6 tyX6_ok nmX6 hown hK hP hD hS 0 rfl rfl 0 (by decide) (hT _ zf_Table_9) (fun _ h9 => h9) rfl hin rfl (by decide +kernel) rfl rfl (Nat.le_of_ble_eq_true rfl) dX6_init_9 (fun H locs hP hD hS => ?_)
  have hP : va_P (dC, dI) vwCl [xo h0 5 [.ref q7, .null, v0], xi cA q7 9 zz] H := hP
  have hD : va_D A [xo h0 5 [.ref q7, .null, v0], xi cA q7 9 zz] := hD
  refine lv_aload_n hx hb dX6_init_12 rfl (lv_at hl 0 rfl) ?_
  refine lv_bipush (v := Int32.ofInt 20) hx hb dX6_init_13 (by decide) ?_
  refine g_newa (a0 := (20, .inl zz)) (N' := 20) 0 hx hb (hT _ zm_aint) rfl rfl (fun _ h => h) hK hP hD hS hA (fun _ => rfl) (by decide) (by decide) (by decide) (Nat.le_of_ble_eq_true rfl) (Nat.le_of_ble_eq_true rfl) dX6_init_15 (fun q15 H hP hD hS => ?_)
  have hP : va_P (dC, dI) vwCl [xo h0 5 [.ref q7, .null, v0], xi cA q7 9 zz, xi cA q15 20 zz] H := hP
  have hD : va_D A [xo h0 5 [.ref q7, .null, v0], xi cA q7 9 zz, xi cA q15 20 zz] := hD
  refine va_putF (D := (dC, dI)) (ci := 5) (v := .ref q15) (ty := .array .int) (C := RX6) (T := TX6) (N := 3) hx hb hT zin_Table tyX6 tyX6_ok nmX6 hown hK hP hD hS 0 rfl rfl 1 (by decide) (hT _ zf_Table_17) (fun _ h9 => h9) rfl hin rfl (by decide +kernel) rfl rfl (Nat.le_of_ble_eq_true rfl) dX6_init_17 (fun H locs hP hD hS => ?_)
  have hP : va_P (dC, dI) vwCl [xo h0 5 [.ref q7, .ref q15, v0], xi cA q7 9 zz, xi cA q15 20 zz] H := hP
  have hD : va_D A [xo h0 5 [.ref q7, .ref q15, v0], xi cA q7 9 zz, xi cA q15 20 zz] := hD
  refine lv_aload_n hx hb dX6_init_20 rfl (lv_at hl 0 rfl) ?_
  refine lv_iconst (v := Int32.ofInt 1) hx hb dX6_init_21 (by decide) ?_
  refine va_put (D := (dC, dI)) (ci := 5) (v := .int (Int32.ofInt 1)) (ty := .int) (C := RX6) (T := TX6) (N := 3) hx hb hT zin_Table tyX6 tyX6_ok nmX6 hown hK hP hD hS 0 rfl rfl 2 (by decide) (hT _ zf_Table_20) (fun _ h9 => h9) rfl (by decide +kernel) rfl rfl (Nat.le_of_ble_eq_true rfl) dX6_init_22 (fun H locs hP hD hS => ?_)
  have hP : va_P (dC, dI) vwCl [xo h0 5 [.ref q7, .ref q15, .int (Int32.ofInt 1)], xi cA q7 9 zz, xi cA q15 20 zz] H := hP
  have hD : va_D A [xo h0 5 [.ref q7, .ref q15, .int (Int32.ofInt 1)], xi cA q7 9 zz, xi cA q15 20 zz] := hD
  obtain ⟨u, hu⟩ : ∃ u : Nat → Nat, u = fun c => if c = 3 then h0 else if c = 15 then q7 else if c = 16 then q15 else 0 := ⟨_, rfl⟩
  have hw : [xo h0 5 [.ref q7, .ref q15, .int (Int32.ofInt 1)], xi cA q7 9 zz, xi cA q15 20 zz] = gl u cA zMi [3, 15, 16] := by
    subst hu
    exact rfl
  rw [hw] at hP hD
  refine W.widen (k := 2) (n := 29) (by omega) (by omega) ?_
  exact W.vret hx hb hr (fun t ht hW => ⟨⟨u, rfl, (by subst hu; exact rfl), by rw [ht]; exact hP, hD⟩, hS.F ht⟩) hS.2.2 dX6_init_25
set_option maxHeartbeats 4000000 in
set_option maxRecDepth 100000 in
theorem k_Notions (l : Launch) (dC : Nat → ClassId) (dI : Nat → Nat → Nat) (cA : Nat → ClassId) (h0 sz : Nat) : Met l yX2_init (zws zd_Notions_init) ({ frames := 1, cells := 6, slots := 72, locals := 30 * 1 }) (va_Pc [.ref h0] (fun U => U.heap.size = sz ∧ va_P (dC, dI) vwCl [xo h0 1 [.null, .null, .null, .null, .null, .null, v0]] U.heap ∧ va_K (dC, dI) vwCl (ztys cA) U ∧ va_D (fun _ => True) [xo h0 1 [.null, .null, .null, .null, .null, .null, v0]])) (va_Qv (fun u : Nat → Nat => u 5 = h0) (fun u t => va_P (dC, dI) vwCl (gl u cA zMi [5, 21, 22, 23, 24, 25, 26]) t.heap ∧ va_D (va_A [xo h0 1 [.null, .null, .null, .null, .null, .null, v0]] sz) (gl u cA zMi [5, 21, 22, 23, 24, 25, 26])) (va_A [xo h0 1 [.null, .null, .null, .null, .null, .null, v0]] sz)) 6 72 (va_A [xo h0 1 [.null, .null, .null, .null, .null, .null, v0]] sz) := by
  refine Met.ofW (cc := cX2_init) (maxL := 1) (ret := none) (by decide) rfl ?_
  intro p e s m args below meth c s₁ B hml hv
  obtain ⟨rfl, hsz, hP, hK, hD0⟩ := hv
  have hx := B.exec
  have hb := B.bytes
  have hr := B.returns
  have hts := atoms_spec (ws := zws zd_Notions_init) B.pre
  have hT : ∀ w ∈ zAll, w.before _ s = true := fun w hw => hts w (List.mem_cons_of_mem _ hw)
  have hown : s.vm.findClass RX2 = some m.cls := findClass_of_methodNamed B.named
  have hlocks := B.notSynchronized
  have hin : meth.name = "<init>" := (name_of_methodNamed B.named B.method).1
  subst hsz
  have hD := hD0.self (sz := s.heap.size)
  generalize hAe : va_A [xo h0 1 [.null, .null, .null, .null, .null, .null, v0]] s.heap.size = A at hD ⊢
  have hA : ∀ q : Nat, s.heap.size ≤ q → A q := fun q h => by rw [← hAe]; exact Or.inr h
  have hS : va_S A s.heap s.heap [] := va_S.rf
  have hP : va_P (dC, dI) vwCl [xo h0 1 [.null, .null, .null, .null, .null, .null, v0]] s.heap := hP
  have hl := lv_entry ([.ref h0]) (n := 1) (Nat.le_of_ble_eq_true rfl)
  rw [lg_entry_eq]
  generalize (lg_sl ([.ref h0]) ++ List.replicate (1 - (lg_sl ([.ref h0])).length) Slot.unset).toArray = ls at hl ⊢
  have hl : lv_has ls 1 [(0, .ref h0)] := hl
  refine lv_aload_n hx hb dX2_init_0 rfl (lv_at hl 0 rfl) ?_
  refine W.objInit hx hb hown (hT _ zm_ol_Notions) (hT _ zm_oi) (hT _ zm_oc) rfl (by rw [hml]; exact hl.1) rfl dX2_init_1 (Nat.le_of_ble_eq_true rfl) (Nat.le_of_ble_eq_true rfl) ?_
  refine W.eq (g2 := F0 m 4 ls []) rfl ?_
  refine lv_aload_n hx hb dX2_init_4 rfl (lv_at hl 0 rfl) ?_
  refine lv_bipush (v := Int32.ofInt 12) hx hb dX2_init_5 (by decide) ?_
  refine g_newa (a0 := (12, .inl zz)) (N' := 12) 0 hx hb (hT _ zm_aint) rfl rfl (fun _ h => h) hK hP hD hS hA (fun _ => rfl) (by decide) (by decide) (by decide) (Nat.le_of_ble_eq_true rfl) (Nat.le_of_ble_eq_true rfl) dX2_init_7 (fun q7 H hP hD hS => ?_)
  have hP : va_P (dC, dI) vwCl [xo h0 1 [.null, .null, .null, .null, .null, .null, v0], xi cA q7 12 zz] H := hP
  have hD : va_D A [xo h0 1 [.null, .null, .null, .null, .null, .null, v0], xi cA q7 12 zz] := hD
  refine va_putF (D := (dC, dI)) (ci := 1) (v := .ref q7) (ty := .array .int) (C := RX2) (T := TX2) (N := 7) hx hb hT zin_Notions tyX2 tyX2_ok nmX2 hown hK hP hD hS 0 rfl rfl 0 (by decide) (hT _ zf_Notions_11) (fun _ h9 => h9) rfl hin rfl (by decide +kernel) rfl rfl (Nat.le_of_ble_eq_true rfl) dX2_init_9 (fun H locs hP hD hS => ?_)
  have hP : va_P (dC, dI) vwCl [xo h0 1 [.ref q7, .null, .null, .null, .null, .null, v0], xi cA q7 12 zz] H := hP
  have hD : va_D A [xo h0 1 [.ref q7, .null, .null, .null, .null, .null, v0], xi cA q7 12 zz] := hD
  refine lv_aload_n hx hb dX2_init_12 rfl (lv_at hl 0 rfl) ?_
  refine lv_bipush (v := Int32.ofInt 12) hx hb dX2_init_13 (by decide) ?_
  refine g_newa (a0 := (12, .inl zz)) (N' := 12) 0 hx hb (hT _ zm_aint) rfl rfl (fun _ h => h) hK hP hD hS hA (fun _ => rfl) (by decide) (by decide) (by decide) (Nat.le_of_ble_eq_true rfl) (Nat.le_of_ble_eq_true rfl) dX2_init_15 (fun q15 H hP hD hS => ?_)
  have hP : va_P (dC, dI) vwCl [xo h0 1 [.ref q7, .null, .null, .null, .null, .null, v0], xi cA q7 12 zz, xi cA q15 12 zz] H := hP
  have hD : va_D A [xo h0 1 [.ref q7, .null, .null, .null, .null, .null, v0], xi cA q7 12 zz, xi cA q15 12 zz] := hD
  refine va_putF (D := (dC, dI)) (ci := 1) (v := .ref q15) (ty := .array .int) (C := RX2) (T := TX2) (N := 7) hx hb hT zin_Notions tyX2 tyX2_ok nmX2 hown hK hP hD hS 0 rfl rfl 1 (by decide) (hT _ zf_Notions_15) (fun _ h9 => h9) rfl hin rfl (by decide +kernel) rfl rfl (Nat.le_of_ble_eq_true rfl) dX2_init_17 (fun H locs hP hD hS => ?_)
  have hP : va_P (dC, dI) vwCl [xo h0 1 [.ref q7, .ref q15, .null, .null, .null, .null, v0], xi cA q7 12 zz, xi cA q15 12 zz] H := hP
  have hD : va_D A [xo h0 1 [.ref q7, .ref q15, .null, .null, .null, .null, v0], xi cA q7 12 zz, xi cA q15 12 zz] := hD
  refine lv_aload_n hx hb dX2_init_20 rfl (lv_at hl 0 rfl) ?_
  refine lv_bipush (v := Int32.ofInt 12) hx hb dX2_init_21 (by decide) ?_
  refine g_newa (a0 := (12, .inl zz)) (N' := 12) 0 hx hb (hT _ zm_aint) rfl rfl (fun _ h => h) hK hP hD hS hA (fun _ => rfl) (by decide) (by decide) (by decide) (Nat.le_of_ble_eq_true rfl) (Nat.le_of_ble_eq_true rfl) dX2_init_23 (fun q23 H hP hD hS => ?_)
  have hP : va_P (dC, dI) vwCl [xo h0 1 [.ref q7, .ref q15, .null, .null, .null, .null, v0], xi cA q7 12 zz, xi cA q15 12 zz, xi cA q23 12 zz] H := hP
  have hD : va_D A [xo h0 1 [.ref q7, .ref q15, .null, .null, .null, .null, v0], xi cA q7 12 zz, xi cA q15 12 zz, xi cA q23 12 zz] := hD
  refine va_putF (D := (dC, dI)) (ci := 1) (v := .ref q23) (ty := .array .int) (C := RX2) (T := TX2) (N := 7) hx hb hT zin_Notions tyX2 tyX2_ok nmX2 hown hK hP hD hS 0 rfl rfl 2 (by decide) (hT _ zf_Notions_18) (fun _ h9 => h9) rfl hin rfl (by decide +kernel) rfl rfl (Nat.le_of_ble_eq_true rfl) dX2_init_25 (fun H locs hP hD hS => ?_)
  have hP : va_P (dC, dI) vwCl [xo h0 1 [.ref q7, .ref q15, .ref q23, .null, .null, .null, v0], xi cA q7 12 zz, xi cA q15 12 zz, xi cA q23 12 zz] H := hP
  have hD : va_D A [xo h0 1 [.ref q7, .ref q15, .ref q23, .null, .null, .null, v0], xi cA q7 12 zz, xi cA q15 12 zz, xi cA q23 12 zz] := hD
  refine lv_aload_n hx hb dX2_init_28 rfl (lv_at hl 0 rfl) ?_
  refine lv_bipush (v := Int32.ofInt 12) hx hb dX2_init_29 (by decide) ?_
  refine g_newa (a0 := (12, .inl zz)) (N' := 12) 0 hx hb (hT _ zm_aint) rfl rfl (fun _ h => h) hK hP hD hS hA (fun _ => rfl) (by decide) (by decide) (by decide) (Nat.le_of_ble_eq_true rfl) (Nat.le_of_ble_eq_true rfl) dX2_init_31 (fun q31 H hP hD hS => ?_)
  have hP : va_P (dC, dI) vwCl [xo h0 1 [.ref q7, .ref q15, .ref q23, .null, .null, .null, v0], xi cA q7 12 zz, xi cA q15 12 zz, xi cA q23 12 zz, xi cA q31 12 zz] H := hP
  have hD : va_D A [xo h0 1 [.ref q7, .ref q15, .ref q23, .null, .null, .null, v0], xi cA q7 12 zz, xi cA q15 12 zz, xi cA q23 12 zz, xi cA q31 12 zz] := hD
  refine va_putF (D := (dC, dI)) (ci := 1) (v := .ref q31) (ty := .array .int) (C := RX2) (T := TX2) (N := 7) hx hb hT zin_Notions tyX2 tyX2_ok nmX2 hown hK hP hD hS 0 rfl rfl 3 (by decide) (hT _ zf_Notions_21) (fun _ h9 => h9) rfl hin rfl (by decide +kernel) rfl rfl (Nat.le_of_ble_eq_true rfl) dX2_init_33 (fun H locs hP hD hS => ?_)
  have hP : va_P (dC, dI) vwCl [xo h0 1 [.ref q7, .ref q15, .ref q23, .ref q31, .null, .null, v0], xi cA q7 12 zz, xi cA q15 12 zz, xi cA q23 12 zz, xi cA q31 12 zz] H := hP
  have hD : va_D A [xo h0 1 [.ref q7, .ref q15, .ref q23, .ref q31, .null, .null, v0], xi cA q7 12 zz, xi cA q15 12 zz, xi cA q23 12 zz, xi cA q31 12 zz] := hD
  refine lv_aload_n hx hb dX2_init_36 rfl (lv_at hl 0 rfl) ?_
  refine lv_bipush (v := Int32.ofInt 12) hx hb dX2_init_37 (by decide) ?_
  refine g_newa (a0 := (12, .inl zz)) (N' := 12) 0 hx hb (hT _ zm_aint) rfl rfl (fun _ h => h) hK hP hD hS hA (fun _ => rfl) (by decide) (by decide) (by decide) (Nat.le_of_ble_eq_true rfl) (Nat.le_of_ble_eq_true rfl) dX2_init_39 (fun q39 H hP hD hS => ?_)
  have hP : va_P (dC, dI) vwCl [xo h0 1 [.ref q7, .ref q15, .ref q23, .ref q31, .null, .null, v0], xi cA q7 12 zz, xi cA q15 12 zz, xi cA q23 12 zz, xi cA q31 12 zz, xi cA q39 12 zz] H := hP
  have hD : va_D A [xo h0 1 [.ref q7, .ref q15, .ref q23, .ref q31, .null, .null, v0], xi cA q7 12 zz, xi cA q15 12 zz, xi cA q23 12 zz, xi cA q31 12 zz, xi cA q39 12 zz] := hD
  refine va_putF (D := (dC, dI)) (ci := 1) (v := .ref q39) (ty := .array .int) (C := RX2) (T := TX2) (N := 7) hx hb hT zin_Notions tyX2 tyX2_ok nmX2 hown hK hP hD hS 0 rfl rfl 4 (by decide) (hT _ zf_Notions_24) (fun _ h9 => h9) rfl hin rfl (by decide +kernel) rfl rfl (Nat.le_of_ble_eq_true rfl) dX2_init_41 (fun H locs hP hD hS => ?_)
  have hP : va_P (dC, dI) vwCl [xo h0 1 [.ref q7, .ref q15, .ref q23, .ref q31, .ref q39, .null, v0], xi cA q7 12 zz, xi cA q15 12 zz, xi cA q23 12 zz, xi cA q31 12 zz, xi cA q39 12 zz] H := hP
  have hD : va_D A [xo h0 1 [.ref q7, .ref q15, .ref q23, .ref q31, .ref q39, .null, v0], xi cA q7 12 zz, xi cA q15 12 zz, xi cA q23 12 zz, xi cA q31 12 zz, xi cA q39 12 zz] := hD
  refine lv_aload_n hx hb dX2_init_44 rfl (lv_at hl 0 rfl) ?_
  refine lv_bipush (v := Int32.ofInt 12) hx hb dX2_init_45 (by decide) ?_
  refine g_newa (a0 := (12, .inl zz)) (N' := 12) 2 hx hb (hT _ zm_aboolean) rfl rfl (fun _ h => h) hK hP hD hS hA (fun _ => rfl) (by decide) (by decide) (by decide) (Nat.le_of_ble_eq_true rfl) (Nat.le_of_ble_eq_true rfl) dX2_init_47 (fun q47 H hP hD hS => ?_)
  have hP : va_P (dC, dI) vwCl [xo h0 1 [.ref q7, .ref q15, .ref q23, .ref q31, .ref q39, .null, v0], xi cA q7 12 zz, xi cA q15 12 zz, xi cA q23 12 zz, xi cA q31 12 zz, xi cA q39 12 zz, xz cA q47 12 zz] H := hP
  have hD : va_D A [xo h0 1 [.ref q7, .ref q15, .ref q23, .ref q31, .ref q39, .null, v0], xi cA q7 12 zz, xi cA q15 12 zz, xi cA q23 12 zz, xi cA q31 12 zz, xi cA q39 12 zz, xz cA q47 12 zz] := hD
  refine va_putF (D := (dC, dI)) (ci := 1) (v := .ref q47) (ty := .array .boolean) (C := RX2) (T := TX2) (N := 7) hx hb hT zin_Notions tyX2 tyX2_ok nmX2 hown hK hP hD hS 0 rfl rfl 5 (by decide) (hT _ zf_Notions_27) (fun _ h9 => h9) rfl hin rfl (by decide +kernel) rfl rfl (Nat.le_of_ble_eq_true rfl) dX2_init_49 (fun H locs hP hD hS => ?_)
  have hP : va_P (dC, dI) vwCl [xo h0 1 [.ref q7, .ref q15, .ref q23, .ref q31, .ref q39, .ref q47, v0], xi cA q7 12 zz, xi cA q15 12 zz, xi cA q23 12 zz, xi cA q31 12 zz, xi cA q39 12 zz, xz cA q47 12 zz] H := hP
  have hD : va_D A [xo h0 1 [.ref q7, .ref q15, .ref q23, .ref q31, .ref q39, .ref q47, v0], xi cA q7 12 zz, xi cA q15 12 zz, xi cA q23 12 zz, xi cA q31 12 zz, xi cA q39 12 zz, xz cA q47 12 zz] := hD
  refine lv_aload_n hx hb dX2_init_52 rfl (lv_at hl 0 rfl) ?_
  refine lv_iconst (v := Int32.ofInt 0) hx hb dX2_init_53 (by decide) ?_
  refine va_put (D := (dC, dI)) (ci := 1) (v := .int (Int32.ofInt 0)) (ty := .int) (C := RX2) (T := TX2) (N := 7) hx hb hT zin_Notions tyX2 tyX2_ok nmX2 hown hK hP hD hS 0 rfl rfl 6 (by decide) (hT _ zf_Notions_31) (fun _ h9 => h9) rfl (by decide +kernel) rfl rfl (Nat.le_of_ble_eq_true rfl) dX2_init_54 (fun H locs hP hD hS => ?_)
  have hP : va_P (dC, dI) vwCl [xo h0 1 [.ref q7, .ref q15, .ref q23, .ref q31, .ref q39, .ref q47, .int (Int32.ofInt 0)], xi cA q7 12 zz, xi cA q15 12 zz, xi cA q23 12 zz, xi cA q31 12 zz, xi cA q39 12 zz, xz cA q47 12 zz] H := hP
  have hD : va_D A [xo h0 1 [.ref q7, .ref q15, .ref q23, .ref q31, .ref q39, .ref q47, .int (Int32.ofInt 0)], xi cA q7 12 zz, xi cA q15 12 zz, xi cA q23 12 zz, xi cA q31 12 zz, xi cA q39 12 zz, xz cA q47 12 zz] := hD
  obtain ⟨u, hu⟩ : ∃ u : Nat → Nat, u = fun c => if c = 5 then h0 else if c = 21 then q7 else if c = 22 then q15 else if c = 23 then q23 else if c = 24 then q31 else if c = 25 then q39 else if c = 26 then q47 else 0 := ⟨_, rfl⟩
  have hw : [xo h0 1 [.ref q7, .ref q15, .ref q23, .ref q31, .ref q39, .ref q47, .int (Int32.ofInt 0)], xi cA q7 12 zz, xi cA q15 12 zz, xi cA q23 12 zz, xi cA q31 12 zz, xi cA q39 12 zz, xz cA q47 12 zz] = gl u cA zMi [5, 21, 22, 23, 24, 25, 26] := by
    subst hu
    exact rfl
  rw [hw] at hP hD
  refine W.widen (k := 6) (n := 72) (by omega) (by omega) ?_
  exact W.vret hx hb hr (fun t ht hW => ⟨⟨u, rfl, (by subst hu; exact rfl), by rw [ht]; exact hP, hD⟩, hS.F ht⟩) hS.2.2 dX2_init_57
set_option maxHeartbeats 4000000 in
set_option maxRecDepth 100000 in
theorem k_Rounds (l : Launch) (dC : Nat → ClassId) (dI : Nat → Nat → Nat) (cA : Nat → ClassId) (h0 sz : Nat) : Met l yX4_init (zws zd_Rounds_init) ({ frames := 1, cells := 4, slots := 460, locals := 30 * 1 }) (va_Pc [.ref h0] (fun U => U.heap.size = sz ∧ va_P (dC, dI) vwCl [xo h0 3 [.null, .null, .null, .null, v0, v0]] U.heap ∧ va_K (dC, dI) vwCl (ztys cA) U ∧ va_D (fun _ => True) [xo h0 3 [.null, .null, .null, .null, v0, v0]])) (va_Qv (fun u : Nat → Nat => u 7 = h0) (fun u t => va_P (dC, dI) vwCl (gl u cA zMi [7, 31, 32, 33, 34]) t.heap ∧ va_D (va_A [xo h0 3 [.null, .null, .null, .null, v0, v0]] sz) (gl u cA zMi [7, 31, 32, 33, 34])) (va_A [xo h0 3 [.null, .null, .null, .null, v0, v0]] sz)) 4 460 (va_A [xo h0 3 [.null, .null, .null, .null, v0, v0]] sz) := by
  refine Met.ofW (cc := cX4_init) (maxL := 1) (ret := none) (by decide) rfl ?_
  intro p e s m args below meth c s₁ B hml hv
  obtain ⟨rfl, hsz, hP, hK, hD0⟩ := hv
  have hx := B.exec
  have hb := B.bytes
  have hr := B.returns
  have hts := atoms_spec (ws := zws zd_Rounds_init) B.pre
  have hT : ∀ w ∈ zAll, w.before _ s = true := fun w hw => hts w (List.mem_cons_of_mem _ hw)
  have hown : s.vm.findClass RX4 = some m.cls := findClass_of_methodNamed B.named
  have hlocks := B.notSynchronized
  have hin : meth.name = "<init>" := (name_of_methodNamed B.named B.method).1
  subst hsz
  have hD := hD0.self (sz := s.heap.size)
  generalize hAe : va_A [xo h0 3 [.null, .null, .null, .null, v0, v0]] s.heap.size = A at hD ⊢
  have hA : ∀ q : Nat, s.heap.size ≤ q → A q := fun q h => by rw [← hAe]; exact Or.inr h
  have hS : va_S A s.heap s.heap [] := va_S.rf
  have hP : va_P (dC, dI) vwCl [xo h0 3 [.null, .null, .null, .null, v0, v0]] s.heap := hP
  have hl := lv_entry ([.ref h0]) (n := 1) (Nat.le_of_ble_eq_true rfl)
  rw [lg_entry_eq]
  generalize (lg_sl ([.ref h0]) ++ List.replicate (1 - (lg_sl ([.ref h0])).length) Slot.unset).toArray = ls at hl ⊢
  have hl : lv_has ls 1 [(0, .ref h0)] := hl
  refine lv_aload_n hx hb dX4_init_0 rfl (lv_at hl 0 rfl) ?_
  refine W.objInit hx hb hown (hT _ zm_ol_Rounds) (hT _ zm_oi) (hT _ zm_oc) rfl (by rw [hml]; exact hl.1) rfl dX4_init_1 (Nat.le_of_ble_eq_true rfl) (Nat.le_of_ble_eq_true rfl) ?_
  refine W.eq (g2 := F0 m 4 ls []) rfl ?_
  refine lv_aload_n hx hb dX4_init_4 rfl (lv_at hl 0 rfl) ?_
  refine lv_bipush (v := Int32.ofInt 20) hx hb dX4_init_5 (by decide) ?_
  refine g_newa (a0 := (20, .inl zz)) (N' := 20) 0 hx hb (hT _ zm_aint) rfl rfl (fun _ h => h) hK hP hD hS hA (fun _ => rfl) (by decide) (by decide) (by decide) (Nat.le_of_ble_eq_true rfl) (Nat.le_of_ble_eq_true rfl) dX4_init_7 (fun q7 H hP hD hS => ?_)
  have hP : va_P (dC, dI) vwCl [xo h0 3 [.null, .null, .null, .null, v0, v0], xi cA q7 20 zz] H := hP
  have hD : va_D A [xo h0 3 [.null, .null, .null, .null, v0, v0], xi cA q7 20 zz] := hD
  refine va_putF (D := (dC, dI)) (ci := 3) (v := .ref q7) (ty := .array .int) (C := RX4) (T := TX4) (N := 6) hx hb hT zin_Rounds tyX4 tyX4_ok nmX4 hown hK hP hD hS 0 rfl rfl 0 (by decide) (hT _ zf_Rounds_11) (fun _ h9 => h9) rfl hin rfl (by decide +kernel) rfl rfl (Nat.le_of_ble_eq_true rfl) dX4_init_9 (fun H locs hP hD hS => ?_)
  have hP : va_P (dC, dI) vwCl [xo h0 3 [.ref q7, .null, .null, .null, v0, v0], xi cA q7 20 zz] H := hP
  have hD : va_D A [xo h0 3 [.ref q7, .null, .null, .null, v0, v0], xi cA q7 20 zz] := hD
  refine lv_aload_n hx hb dX4_init_12 rfl (lv_at hl 0 rfl) ?_
  refine lv_bipush (v := Int32.ofInt 20) hx hb dX4_init_13 (by decide) ?_
  refine g_newa (a0 := (20, .inl zz)) (N' := 20) 0 hx hb (hT _ zm_aint) rfl rfl (fun _ h => h) hK hP hD hS hA (fun _ => rfl) (by decide) (by decide) (by decide) (Nat.le_of_ble_eq_true rfl) (Nat.le_of_ble_eq_true rfl) dX4_init_15 (fun q15 H hP hD hS => ?_)
  have hP : va_P (dC, dI) vwCl [xo h0 3 [.ref q7, .null, .null, .null, v0, v0], xi cA q7 20 zz, xi cA q15 20 zz] H := hP
  have hD : va_D A [xo h0 3 [.ref q7, .null, .null, .null, v0, v0], xi cA q7 20 zz, xi cA q15 20 zz] := hD
  refine va_putF (D := (dC, dI)) (ci := 3) (v := .ref q15) (ty := .array .int) (C := RX4) (T := TX4) (N := 6) hx hb hT zin_Rounds tyX4 tyX4_ok nmX4 hown hK hP hD hS 0 rfl rfl 1 (by decide) (hT _ zf_Rounds_17) (fun _ h9 => h9) rfl hin rfl (by decide +kernel) rfl rfl (Nat.le_of_ble_eq_true rfl) dX4_init_17 (fun H locs hP hD hS => ?_)
  have hP : va_P (dC, dI) vwCl [xo h0 3 [.ref q7, .ref q15, .null, .null, v0, v0], xi cA q7 20 zz, xi cA q15 20 zz] H := hP
  have hD : va_D A [xo h0 3 [.ref q7, .ref q15, .null, .null, v0, v0], xi cA q7 20 zz, xi cA q15 20 zz] := hD
  refine lv_aload_n hx hb dX4_init_20 rfl (lv_at hl 0 rfl) ?_
  refine lv_sipush (v := Int32.ofInt 400) hx hb dX4_init_21 (by decide) ?_
  refine g_newa (a0 := (400, .inl zz)) (N' := 400) 0 hx hb (hT _ zm_aint) rfl rfl (fun _ h => h) hK hP hD hS hA (fun _ => rfl) (by decide) (by decide) (by decide) (Nat.le_of_ble_eq_true rfl) (Nat.le_of_ble_eq_true rfl) dX4_init_24 (fun q24 H hP hD hS => ?_)
  have hP : va_P (dC, dI) vwCl [xo h0 3 [.ref q7, .ref q15, .null, .null, v0, v0], xi cA q7 20 zz, xi cA q15 20 zz, xi cA q24 400 zz] H := hP
  have hD : va_D A [xo h0 3 [.ref q7, .ref q15, .null, .null, v0, v0], xi cA q7 20 zz, xi cA q15 20 zz, xi cA q24 400 zz] := hD
  refine va_putF (D := (dC, dI)) (ci := 3) (v := .ref q24) (ty := .array .int) (C := RX4) (T := TX4) (N := 6) hx hb hT zin_Rounds tyX4 tyX4_ok nmX4 hown hK hP hD hS 0 rfl rfl 2 (by decide) (hT _ zf_Rounds_20) (fun _ h9 => h9) rfl hin rfl (by decide +kernel) rfl rfl (Nat.le_of_ble_eq_true rfl) dX4_init_26 (fun H locs hP hD hS => ?_)
  have hP : va_P (dC, dI) vwCl [xo h0 3 [.ref q7, .ref q15, .ref q24, .null, v0, v0], xi cA q7 20 zz, xi cA q15 20 zz, xi cA q24 400 zz] H := hP
  have hD : va_D A [xo h0 3 [.ref q7, .ref q15, .ref q24, .null, v0, v0], xi cA q7 20 zz, xi cA q15 20 zz, xi cA q24 400 zz] := hD
  refine lv_aload_n hx hb dX4_init_29 rfl (lv_at hl 0 rfl) ?_
  refine lv_bipush (v := Int32.ofInt 20) hx hb dX4_init_30 (by decide) ?_
  refine g_newa (a0 := (20, .inl zz)) (N' := 20) 0 hx hb (hT _ zm_aint) rfl rfl (fun _ h => h) hK hP hD hS hA (fun _ => rfl) (by decide) (by decide) (by decide) (Nat.le_of_ble_eq_true rfl) (Nat.le_of_ble_eq_true rfl) dX4_init_32 (fun q32 H hP hD hS => ?_)
  have hP : va_P (dC, dI) vwCl [xo h0 3 [.ref q7, .ref q15, .ref q24, .null, v0, v0], xi cA q7 20 zz, xi cA q15 20 zz, xi cA q24 400 zz, xi cA q32 20 zz] H := hP
  have hD : va_D A [xo h0 3 [.ref q7, .ref q15, .ref q24, .null, v0, v0], xi cA q7 20 zz, xi cA q15 20 zz, xi cA q24 400 zz, xi cA q32 20 zz] := hD
  refine va_putF (D := (dC, dI)) (ci := 3) (v := .ref q32) (ty := .array .int) (C := RX4) (T := TX4) (N := 6) hx hb hT zin_Rounds tyX4 tyX4_ok nmX4 hown hK hP hD hS 0 rfl rfl 3 (by decide) (hT _ zf_Rounds_23) (fun _ h9 => h9) rfl hin rfl (by decide +kernel) rfl rfl (Nat.le_of_ble_eq_true rfl) dX4_init_34 (fun H locs hP hD hS => ?_)
  have hP : va_P (dC, dI) vwCl [xo h0 3 [.ref q7, .ref q15, .ref q24, .ref q32, v0, v0], xi cA q7 20 zz, xi cA q15 20 zz, xi cA q24 400 zz, xi cA q32 20 zz] H := hP
  have hD : va_D A [xo h0 3 [.ref q7, .ref q15, .ref q24, .ref q32, v0, v0], xi cA q7 20 zz, xi cA q15 20 zz, xi cA q24 400 zz, xi cA q32 20 zz] := hD
  refine lv_aload_n hx hb dX4_init_37 rfl (lv_at hl 0 rfl) ?_
  refine lv_iconst (v := Int32.ofInt 0) hx hb dX4_init_38 (by decide) ?_
  refine va_put (D := (dC, dI)) (ci := 3) (v := .int (Int32.ofInt 0)) (ty := .int) (C := RX4) (T := TX4) (N := 6) hx hb hT zin_Rounds tyX4 tyX4_ok nmX4 hown hK hP hD hS 0 rfl rfl 4 (by decide) (hT _ zf_Rounds_26) (fun _ h9 => h9) rfl (by decide +kernel) rfl rfl (Nat.le_of_ble_eq_true rfl) dX4_init_39 (fun H locs hP hD hS => ?_)
  have hP : va_P (dC, dI) vwCl [xo h0 3 [.ref q7, .ref q15, .ref q24, .ref q32, .int (Int32.ofInt 0), v0], xi cA q7 20 zz, xi cA q15 20 zz, xi cA q24 400 zz, xi cA q32 20 zz] H := hP
  have hD : va_D A [xo h0 3 [.ref q7, .ref q15, .ref q24, .ref q32, .int (Int32.ofInt 0), v0], xi cA q7 20 zz, xi cA q15 20 zz, xi cA q24 400 zz, xi cA q32 20 zz] := hD
  refine lv_aload_n hx hb dX4_init_42 rfl (lv_at hl 0 rfl) ?_
  refine lv_iconst (v := Int32.ofInt 0) hx hb dX4_init_43 (by decide) ?_
  refine va_put (D := (dC, dI)) (ci := 3) (v := .int (Int32.ofInt 0)) (ty := .boolean) (C := RX4) (T := TX4) (N := 6) hx hb hT zin_Rounds tyX4 tyX4_ok nmX4 hown hK hP hD hS 0 rfl rfl 5 (by decide) (hT _ zf_Rounds_30) (fun _ h9 => h9) rfl (by decide +kernel) rfl rfl (Nat.le_of_ble_eq_true rfl) dX4_init_44 (fun H locs hP hD hS => ?_)
  have hP : va_P (dC, dI) vwCl [xo h0 3 [.ref q7, .ref q15, .ref q24, .ref q32, .int (Int32.ofInt 0), .int (Int32.ofInt 0)], xi cA q7 20 zz, xi cA q15 20 zz, xi cA q24 400 zz, xi cA q32 20 zz] H := hP
  have hD : va_D A [xo h0 3 [.ref q7, .ref q15, .ref q24, .ref q32, .int (Int32.ofInt 0), .int (Int32.ofInt 0)], xi cA q7 20 zz, xi cA q15 20 zz, xi cA q24 400 zz, xi cA q32 20 zz] := hD
  obtain ⟨u, hu⟩ : ∃ u : Nat → Nat, u = fun c => if c = 7 then h0 else if c = 31 then q7 else if c = 32 then q15 else if c = 33 then q24 else if c = 34 then q32 else 0 := ⟨_, rfl⟩
  have hw : [xo h0 3 [.ref q7, .ref q15, .ref q24, .ref q32, .int (Int32.ofInt 0), .int (Int32.ofInt 0)], xi cA q7 20 zz, xi cA q15 20 zz, xi cA q24 400 zz, xi cA q32 20 zz] = gl u cA zMi [7, 31, 32, 33, 34] := by
    subst hu
    exact rfl
  rw [hw] at hP hD
  refine W.widen (k := 4) (n := 460) (by omega) (by omega) ?_
  exact W.vret hx hb hr (fun t ht hW => ⟨⟨u, rfl, (by subst hu; exact rfl), by rw [ht]; exact hP, hD⟩, hS.F ht⟩) hS.2.2 dX4_init_47
set_option maxHeartbeats 4000000 in
set_option maxRecDepth 100000 in
theorem k_Rows (l : Launch) (dC : Nat → ClassId) (dI : Nat → Nat → Nat) (cA : Nat → ClassId) (h0 sz a1 a4 a5 a3 : Nat) : Met l yX5_init (zws zd_Rows_init) ({ frames := 1, cells := 4, slots := 6802, locals := 30 * 1 }) (va_Pc [.ref h0, .ref a1, .ref a4, .ref a5, .ref a3] (fun U => U.heap.size = sz ∧ va_P (dC, dI) vwCl [xo h0 4 [.null, .null, .null, .null, .null, .null, v0, v0, v0, v0, .null, .null, v0, v0]] U.heap ∧ va_K (dC, dI) vwCl (ztys cA) U ∧ va_D (fun _ => True) [xo h0 4 [.null, .null, .null, .null, .null, .null, v0, v0, v0, v0, .null, .null, v0, v0]])) (va_Qv (fun u : Nat → Nat => u 6 = h0 ∧ u 1 = a1 ∧ u 4 = a4 ∧ u 5 = a5 ∧ u 3 = a3) (fun u t => va_P (dC, dI) vwCl (gl u cA zMi [6, 27, 28, 29, 30]) t.heap ∧ va_D (va_A [xo h0 4 [.null, .null, .null, .null, .null, .null, v0, v0, v0, v0, .null, .null, v0, v0]] sz) (gl u cA zMi [6, 27, 28, 29, 30])) (va_A [xo h0 4 [.null, .null, .null, .null, .null, .null, v0, v0, v0, v0, .null, .null, v0, v0]] sz)) 4 6802 (va_A [xo h0 4 [.null, .null, .null, .null, .null, .null, v0, v0, v0, v0, .null, .null, v0, v0]] sz) := by
  refine Met.ofW (cc := cX5_init) (maxL := 5) (ret := none) (by decide) rfl ?_
  intro p e s m args below meth c s₁ B hml hv
  obtain ⟨rfl, hsz, hP, hK, hD0⟩ := hv
  have hx := B.exec
  have hb := B.bytes
  have hr := B.returns
  have hts := atoms_spec (ws := zws zd_Rows_init) B.pre
  have hT : ∀ w ∈ zAll, w.before _ s = true := fun w hw => hts w (List.mem_cons_of_mem _ hw)
  have hown : s.vm.findClass RX5 = some m.cls := findClass_of_methodNamed B.named
  have hlocks := B.notSynchronized
  have hin : meth.name = "<init>" := (name_of_methodNamed B.named B.method).1
  subst hsz
  have hD := hD0.self (sz := s.heap.size)
  generalize hAe : va_A [xo h0 4 [.null, .null, .null, .null, .null, .null, v0, v0, v0, v0, .null, .null, v0, v0]] s.heap.size = A at hD ⊢
  have hA : ∀ q : Nat, s.heap.size ≤ q → A q := fun q h => by rw [← hAe]; exact Or.inr h
  have hS : va_S A s.heap s.heap [] := va_S.rf
  have hP : va_P (dC, dI) vwCl [xo h0 4 [.null, .null, .null, .null, .null, .null, v0, v0, v0, v0, .null, .null, v0, v0]] s.heap := hP
  have hl := lv_entry ([.ref h0, .ref a1, .ref a4, .ref a5, .ref a3]) (n := 5) (Nat.le_of_ble_eq_true rfl)
  rw [lg_entry_eq]
  generalize (lg_sl ([.ref h0, .ref a1, .ref a4, .ref a5, .ref a3]) ++ List.replicate (5 - (lg_sl ([.ref h0, .ref a1, .ref a4, .ref a5, .ref a3])).length) Slot.unset).toArray = ls at hl ⊢
  have hl : lv_has ls 5 [(0, .ref h0), (1, .ref a1), (2, .ref a4), (3, .ref a5), (4, .ref a3)] := hl
  refine lv_aload_n hx hb dX5_init_0 rfl (lv_at hl 0 rfl) ?_
  refine W.objInit hx hb hown (hT _ zm_ol_Rows) (hT _ zm_oi) (hT _ zm_oc) rfl (by rw [hml]; exact hl.1) rfl dX5_init_1 (Nat.le_of_ble_eq_true rfl) (Nat.le_of_ble_eq_true rfl) ?_
  refine W.eq (g2 := F0 m 4 ls []) rfl ?_
  refine lv_aload_n hx hb dX5_init_4 rfl (lv_at hl 0 rfl) ?_
  refine lv_bipush (v := Int32.ofInt 40) hx hb dX5_init_5 (by decide) ?_
  refine g_newa (a0 := (40, .inl zz)) (N' := 40) 0 hx hb (hT _ zm_aint) rfl rfl (fun _ h => h) hK hP hD hS hA (fun _ => rfl) (by decide) (by decide) (by decide) (Nat.le_of_ble_eq_true rfl) (Nat.le_of_ble_eq_true rfl) dX5_init_7 (fun q7 H hP hD hS => ?_)
  have hP : va_P (dC, dI) vwCl [xo h0 4 [.null, .null, .null, .null, .null, .null, v0, v0, v0, v0, .null, .null, v0, v0], xi cA q7 40 zz] H := hP
  have hD : va_D A [xo h0 4 [.null, .null, .null, .null, .null, .null, v0, v0, v0, v0, .null, .null, v0, v0], xi cA q7 40 zz] := hD
  refine va_putF (D := (dC, dI)) (ci := 4) (v := .ref q7) (ty := .array .int) (C := RX5) (T := TX5) (N := 14) hx hb hT zin_Rows tyX5 tyX5_ok nmX5 hown hK hP hD hS 0 rfl rfl 4 (by decide) (hT _ zf_Rows_11) (fun _ h9 => h9) rfl hin rfl (by decide +kernel) rfl rfl (Nat.le_of_ble_eq_true rfl) dX5_init_9 (fun H locs hP hD hS => ?_)
  have hP : va_P (dC, dI) vwCl [xo h0 4 [.null, .null, .null, .null, .ref q7, .null, v0, v0, v0, v0, .null, .null, v0, v0], xi cA q7 40 zz] H := hP
  have hD : va_D A [xo h0 4 [.null, .null, .null, .null, .ref q7, .null, v0, v0, v0, v0, .null, .null, v0, v0], xi cA q7 40 zz] := hD
  refine lv_aload_n hx hb dX5_init_12 rfl (lv_at hl 0 rfl) ?_
  refine lv_bipush (v := Int32.ofInt 40) hx hb dX5_init_13 (by decide) ?_
  refine g_newa (a0 := (40, .inl zz)) (N' := 40) 0 hx hb (hT _ zm_aint) rfl rfl (fun _ h => h) hK hP hD hS hA (fun _ => rfl) (by decide) (by decide) (by decide) (Nat.le_of_ble_eq_true rfl) (Nat.le_of_ble_eq_true rfl) dX5_init_15 (fun q15 H hP hD hS => ?_)
  have hP : va_P (dC, dI) vwCl [xo h0 4 [.null, .null, .null, .null, .ref q7, .null, v0, v0, v0, v0, .null, .null, v0, v0], xi cA q7 40 zz, xi cA q15 40 zz] H := hP
  have hD : va_D A [xo h0 4 [.null, .null, .null, .null, .ref q7, .null, v0, v0, v0, v0, .null, .null, v0, v0], xi cA q7 40 zz, xi cA q15 40 zz] := hD
  refine va_putF (D := (dC, dI)) (ci := 4) (v := .ref q15) (ty := .array .int) (C := RX5) (T := TX5) (N := 14) hx hb hT zin_Rows tyX5 tyX5_ok nmX5 hown hK hP hD hS 0 rfl rfl 5 (by decide) (hT _ zf_Rows_15) (fun _ h9 => h9) rfl hin rfl (by decide +kernel) rfl rfl (Nat.le_of_ble_eq_true rfl) dX5_init_17 (fun H locs hP hD hS => ?_)
  have hP : va_P (dC, dI) vwCl [xo h0 4 [.null, .null, .null, .null, .ref q7, .ref q15, v0, v0, v0, v0, .null, .null, v0, v0], xi cA q7 40 zz, xi cA q15 40 zz] H := hP
  have hD : va_D A [xo h0 4 [.null, .null, .null, .null, .ref q7, .ref q15, v0, v0, v0, v0, .null, .null, v0, v0], xi cA q7 40 zz, xi cA q15 40 zz] := hD
  refine lv_aload_n hx hb dX5_init_20 rfl (lv_at hl 0 rfl) ?_
  refine lv_iconst (v := Int32.ofInt 0) hx hb dX5_init_21 (by decide) ?_
  refine va_put (D := (dC, dI)) (ci := 4) (v := .int (Int32.ofInt 0)) (ty := .int) (C := RX5) (T := TX5) (N := 14) hx hb hT zin_Rows tyX5 tyX5_ok nmX5 hown hK hP hD hS 0 rfl rfl 6 (by decide) (hT _ zf_Rows_18) (fun _ h9 => h9) rfl (by decide +kernel) rfl rfl (Nat.le_of_ble_eq_true rfl) dX5_init_22 (fun H locs hP hD hS => ?_)
  have hP : va_P (dC, dI) vwCl [xo h0 4 [.null, .null, .null, .null, .ref q7, .ref q15, .int (Int32.ofInt 0), v0, v0, v0, .null, .null, v0, v0], xi cA q7 40 zz, xi cA q15 40 zz] H := hP
  have hD : va_D A [xo h0 4 [.null, .null, .null, .null, .ref q7, .ref q15, .int (Int32.ofInt 0), v0, v0, v0, .null, .null, v0, v0], xi cA q7 40 zz, xi cA q15 40 zz] := hD
  refine lv_aload_n hx hb dX5_init_25 rfl (lv_at hl 0 rfl) ?_
  refine lv_iconst (v := Int32.ofInt 0) hx hb dX5_init_26 (by decide) ?_
  refine va_put (D := (dC, dI)) (ci := 4) (v := .int (Int32.ofInt 0)) (ty := .int) (C := RX5) (T := TX5) (N := 14) hx hb hT zin_Rows tyX5 tyX5_ok nmX5 hown hK hP hD hS 0 rfl rfl 7 (by decide) (hT _ zf_Rows_22) (fun _ h9 => h9) rfl (by decide +kernel) rfl rfl (Nat.le_of_ble_eq_true rfl) dX5_init_27 (fun H locs hP hD hS => ?_)
  have hP : va_P (dC, dI) vwCl [xo h0 4 [.null, .null, .null, .null, .ref q7, .ref q15, .int (Int32.ofInt 0), .int (Int32.ofInt 0), v0, v0, .null, .null, v0, v0], xi cA q7 40 zz, xi cA q15 40 zz] H := hP
  have hD : va_D A [xo h0 4 [.null, .null, .null, .null, .ref q7, .ref q15, .int (Int32.ofInt 0), .int (Int32.ofInt 0), v0, v0, .null, .null, v0, v0], xi cA q7 40 zz, xi cA q15 40 zz] := hD
  refine lv_aload_n hx hb dX5_init_30 rfl (lv_at hl 0 rfl) ?_
  refine lv_iconst (v := Int32.ofInt 0) hx hb dX5_init_31 (by decide) ?_
  refine va_put (D := (dC, dI)) (ci := 4) (v := .int (Int32.ofInt 0)) (ty := .boolean) (C := RX5) (T := TX5) (N := 14) hx hb hT zin_Rows tyX5 tyX5_ok nmX5 hown hK hP hD hS 0 rfl rfl 8 (by decide) (hT _ zf_Rows_25) (fun _ h9 => h9) rfl (by decide +kernel) rfl rfl (Nat.le_of_ble_eq_true rfl) dX5_init_32 (fun H locs hP hD hS => ?_)
  have hP : va_P (dC, dI) vwCl [xo h0 4 [.null, .null, .null, .null, .ref q7, .ref q15, .int (Int32.ofInt 0), .int (Int32.ofInt 0), .int (Int32.ofInt 0), v0, .null, .null, v0, v0], xi cA q7 40 zz, xi cA q15 40 zz] H := hP
  have hD : va_D A [xo h0 4 [.null, .null, .null, .null, .ref q7, .ref q15, .int (Int32.ofInt 0), .int (Int32.ofInt 0), .int (Int32.ofInt 0), v0, .null, .null, v0, v0], xi cA q7 40 zz, xi cA q15 40 zz] := hD
  refine lv_aload_n hx hb dX5_init_35 rfl (lv_at hl 0 rfl) ?_
  refine lv_iconst (v := Int32.ofInt 0) hx hb dX5_init_36 (by decide) ?_
  refine va_put (D := (dC, dI)) (ci := 4) (v := .int (Int32.ofInt 0)) (ty := .int) (C := RX5) (T := TX5) (N := 14) hx hb hT zin_Rows tyX5 tyX5_ok nmX5 hown hK hP hD hS 0 rfl rfl 9 (by decide) (hT _ zf_Rows_29) (fun _ h9 => h9) rfl (by decide +kernel) rfl rfl (Nat.le_of_ble_eq_true rfl) dX5_init_37 (fun H locs hP hD hS => ?_)
  have hP : va_P (dC, dI) vwCl [xo h0 4 [.null, .null, .null, .null, .ref q7, .ref q15, .int (Int32.ofInt 0), .int (Int32.ofInt 0), .int (Int32.ofInt 0), .int (Int32.ofInt 0), .null, .null, v0, v0], xi cA q7 40 zz, xi cA q15 40 zz] H := hP
  have hD : va_D A [xo h0 4 [.null, .null, .null, .null, .ref q7, .ref q15, .int (Int32.ofInt 0), .int (Int32.ofInt 0), .int (Int32.ofInt 0), .int (Int32.ofInt 0), .null, .null, v0, v0], xi cA q7 40 zz, xi cA q15 40 zz] := hD
  refine lv_aload_n hx hb dX5_init_40 rfl (lv_at hl 0 rfl) ?_
  refine lv_sipush (v := Int32.ofInt 6682) hx hb dX5_init_41 (by decide) ?_
  refine g_newa (a0 := (6682, .inr (.inl zzL))) (N' := 6682) 1 hx hb (hT _ zm_along) rfl rfl (fun _ h => h) hK hP hD hS hA (fun _ => rfl) (by decide) (by decide) (by decide) (Nat.le_of_ble_eq_true rfl) (Nat.le_of_ble_eq_true rfl) dX5_init_44 (fun q44 H hP hD hS => ?_)
  have hP : va_P (dC, dI) vwCl [xo h0 4 [.null, .null, .null, .null, .ref q7, .ref q15, .int (Int32.ofInt 0), .int (Int32.ofInt 0), .int (Int32.ofInt 0), .int (Int32.ofInt 0), .null, .null, v0, v0], xi cA q7 40 zz, xi cA q15 40 zz, xl cA q44 6682 zzL] H := hP
  have hD : va_D A [xo h0 4 [.null, .null, .null, .null, .ref q7, .ref q15, .int (Int32.ofInt 0), .int (Int32.ofInt 0), .int (Int32.ofInt 0), .int (Int32.ofInt 0), .null, .null, v0, v0], xi cA q7 40 zz, xi cA q15 40 zz, xl cA q44 6682 zzL] := hD
  refine va_putF (D := (dC, dI)) (ci := 4) (v := .ref q44) (ty := .array .long) (C := RX5) (T := TX5) (N := 14) hx hb hT zin_Rows tyX5 tyX5_ok nmX5 hown hK hP hD hS 0 rfl rfl 10 (by decide) (hT _ zf_Rows_34) (fun _ h9 => h9) rfl hin rfl (by decide +kernel) rfl rfl (Nat.le_of_ble_eq_true rfl) dX5_init_46 (fun H locs hP hD hS => ?_)
  have hP : va_P (dC, dI) vwCl [xo h0 4 [.null, .null, .null, .null, .ref q7, .ref q15, .int (Int32.ofInt 0), .int (Int32.ofInt 0), .int (Int32.ofInt 0), .int (Int32.ofInt 0), .ref q44, .null, v0, v0], xi cA q7 40 zz, xi cA q15 40 zz, xl cA q44 6682 zzL] H := hP
  have hD : va_D A [xo h0 4 [.null, .null, .null, .null, .ref q7, .ref q15, .int (Int32.ofInt 0), .int (Int32.ofInt 0), .int (Int32.ofInt 0), .int (Int32.ofInt 0), .ref q44, .null, v0, v0], xi cA q7 40 zz, xi cA q15 40 zz, xl cA q44 6682 zzL] := hD
  refine lv_aload_n hx hb dX5_init_49 rfl (lv_at hl 0 rfl) ?_
  refine lv_bipush (v := Int32.ofInt 40) hx hb dX5_init_50 (by decide) ?_
  refine g_newa (a0 := (40, .inl zz)) (N' := 40) 0 hx hb (hT _ zm_aint) rfl rfl (fun _ h => h) hK hP hD hS hA (fun _ => rfl) (by decide) (by decide) (by decide) (Nat.le_of_ble_eq_true rfl) (Nat.le_of_ble_eq_true rfl) dX5_init_52 (fun q52 H hP hD hS => ?_)
  have hP : va_P (dC, dI) vwCl [xo h0 4 [.null, .null, .null, .null, .ref q7, .ref q15, .int (Int32.ofInt 0), .int (Int32.ofInt 0), .int (Int32.ofInt 0), .int (Int32.ofInt 0), .ref q44, .null, v0, v0], xi cA q7 40 zz, xi cA q15 40 zz, xl cA q44 6682 zzL, xi cA q52 40 zz] H := hP
  have hD : va_D A [xo h0 4 [.null, .null, .null, .null, .ref q7, .ref q15, .int (Int32.ofInt 0), .int (Int32.ofInt 0), .int (Int32.ofInt 0), .int (Int32.ofInt 0), .ref q44, .null, v0, v0], xi cA q7 40 zz, xi cA q15 40 zz, xl cA q44 6682 zzL, xi cA q52 40 zz] := hD
  refine va_putF (D := (dC, dI)) (ci := 4) (v := .ref q52) (ty := .array .int) (C := RX5) (T := TX5) (N := 14) hx hb hT zin_Rows tyX5 tyX5_ok nmX5 hown hK hP hD hS 0 rfl rfl 11 (by decide) (hT _ zf_Rows_38) (fun _ h9 => h9) rfl hin rfl (by decide +kernel) rfl rfl (Nat.le_of_ble_eq_true rfl) dX5_init_54 (fun H locs hP hD hS => ?_)
  have hP : va_P (dC, dI) vwCl [xo h0 4 [.null, .null, .null, .null, .ref q7, .ref q15, .int (Int32.ofInt 0), .int (Int32.ofInt 0), .int (Int32.ofInt 0), .int (Int32.ofInt 0), .ref q44, .ref q52, v0, v0], xi cA q7 40 zz, xi cA q15 40 zz, xl cA q44 6682 zzL, xi cA q52 40 zz] H := hP
  have hD : va_D A [xo h0 4 [.null, .null, .null, .null, .ref q7, .ref q15, .int (Int32.ofInt 0), .int (Int32.ofInt 0), .int (Int32.ofInt 0), .int (Int32.ofInt 0), .ref q44, .ref q52, v0, v0], xi cA q7 40 zz, xi cA q15 40 zz, xl cA q44 6682 zzL, xi cA q52 40 zz] := hD
  refine lv_aload_n hx hb dX5_init_57 rfl (lv_at hl 0 rfl) ?_
  refine lv_bipush (v := Int32.ofInt (-9)) hx hb dX5_init_58 (by decide) ?_
  refine va_put (D := (dC, dI)) (ci := 4) (v := .int (Int32.ofInt (-9))) (ty := .int) (C := RX5) (T := TX5) (N := 14) hx hb hT zin_Rows tyX5 tyX5_ok nmX5 hown hK hP hD hS 0 rfl rfl 12 (by decide) (hT _ zf_Rows_41) (fun _ h9 => h9) rfl (by decide +kernel) rfl rfl (Nat.le_of_ble_eq_true rfl) dX5_init_60 (fun H locs hP hD hS => ?_)
  have hP : va_P (dC, dI) vwCl [xo h0 4 [.null, .null, .null, .null, .ref q7, .ref q15, .int (Int32.ofInt 0), .int (Int32.ofInt 0), .int (Int32.ofInt 0), .int (Int32.ofInt 0), .ref q44, .ref q52, .int (Int32.ofInt (-9)), v0], xi cA q7 40 zz, xi cA q15 40 zz, xl cA q44 6682 zzL, xi cA q52 40 zz] H := hP
  have hD : va_D A [xo h0 4 [.null, .null, .null, .null, .ref q7, .ref q15, .int (Int32.ofInt 0), .int (Int32.ofInt 0), .int (Int32.ofInt 0), .int (Int32.ofInt 0), .ref q44, .ref q52, .int (Int32.ofInt (-9)), v0], xi cA q7 40 zz, xi cA q15 40 zz, xl cA q44 6682 zzL, xi cA q52 40 zz] := hD
  refine lv_aload_n hx hb dX5_init_63 rfl (lv_at hl 0 rfl) ?_
  refine lv_iconst (v := Int32.ofInt (-1)) hx hb dX5_init_64 (by decide) ?_
  refine va_put (D := (dC, dI)) (ci := 4) (v := .int (Int32.ofInt (-1))) (ty := .int) (C := RX5) (T := TX5) (N := 14) hx hb hT zin_Rows tyX5 tyX5_ok nmX5 hown hK hP hD hS 0 rfl rfl 13 (by decide) (hT _ zf_Rows_44) (fun _ h9 => h9) rfl (by decide +kernel) rfl rfl (Nat.le_of_ble_eq_true rfl) dX5_init_65 (fun H locs hP hD hS => ?_)
  have hP : va_P (dC, dI) vwCl [xo h0 4 [.null, .null, .null, .null, .ref q7, .ref q15, .int (Int32.ofInt 0), .int (Int32.ofInt 0), .int (Int32.ofInt 0), .int (Int32.ofInt 0), .ref q44, .ref q52, .int (Int32.ofInt (-9)), .int (Int32.ofInt (-1))], xi cA q7 40 zz, xi cA q15 40 zz, xl cA q44 6682 zzL, xi cA q52 40 zz] H := hP
  have hD : va_D A [xo h0 4 [.null, .null, .null, .null, .ref q7, .ref q15, .int (Int32.ofInt 0), .int (Int32.ofInt 0), .int (Int32.ofInt 0), .int (Int32.ofInt 0), .ref q44, .ref q52, .int (Int32.ofInt (-9)), .int (Int32.ofInt (-1))], xi cA q7 40 zz, xi cA q15 40 zz, xl cA q44 6682 zzL, xi cA q52 40 zz] := hD
  refine lv_aload_n hx hb dX5_init_68 rfl (lv_at hl 0 rfl) ?_
  refine lv_aload_n hx hb dX5_init_69 rfl (lv_at hl 1 rfl) ?_
  refine va_putF (D := (dC, dI)) (ci := 4) (v := .ref a1) (ty := .object "SmallWorlds$Terms") (C := RX5) (T := TX5) (N := 14) hx hb hT zin_Rows tyX5 tyX5_ok nmX5 hown hK hP hD hS 0 rfl rfl 0 (by decide) (hT _ zf_Rows_47) (fun _ h9 => h9) rfl hin rfl (by decide +kernel) rfl rfl (Nat.le_of_ble_eq_true rfl) dX5_init_70 (fun H locs hP hD hS => ?_)
  have hP : va_P (dC, dI) vwCl [xo h0 4 [.ref a1, .null, .null, .null, .ref q7, .ref q15, .int (Int32.ofInt 0), .int (Int32.ofInt 0), .int (Int32.ofInt 0), .int (Int32.ofInt 0), .ref q44, .ref q52, .int (Int32.ofInt (-9)), .int (Int32.ofInt (-1))], xi cA q7 40 zz, xi cA q15 40 zz, xl cA q44 6682 zzL, xi cA q52 40 zz] H := hP
  have hD : va_D A [xo h0 4 [.ref a1, .null, .null, .null, .ref q7, .ref q15, .int (Int32.ofInt 0), .int (Int32.ofInt 0), .int (Int32.ofInt 0), .int (Int32.ofInt 0), .ref q44, .ref q52, .int (Int32.ofInt (-9)), .int (Int32.ofInt (-1))], xi cA q7 40 zz, xi cA q15 40 zz, xl cA q44 6682 zzL, xi cA q52 40 zz] := hD
  refine lv_aload_n hx hb dX5_init_73 rfl (lv_at hl 0 rfl) ?_
  refine lv_aload_n hx hb dX5_init_74 rfl (lv_at hl 2 rfl) ?_
  refine va_putF (D := (dC, dI)) (ci := 4) (v := .ref a4) (ty := .object "SmallWorlds$Catalog") (C := RX5) (T := TX5) (N := 14) hx hb hT zin_Rows tyX5 tyX5_ok nmX5 hown hK hP hD hS 0 rfl rfl 1 (by decide) (hT _ zf_Rows_51) (fun _ h9 => h9) rfl hin rfl (by decide +kernel) rfl rfl (Nat.le_of_ble_eq_true rfl) dX5_init_75 (fun H locs hP hD hS => ?_)
  have hP : va_P (dC, dI) vwCl [xo h0 4 [.ref a1, .ref a4, .null, .null, .ref q7, .ref q15, .int (Int32.ofInt 0), .int (Int32.ofInt 0), .int (Int32.ofInt 0), .int (Int32.ofInt 0), .ref q44, .ref q52, .int (Int32.ofInt (-9)), .int (Int32.ofInt (-1))], xi cA q7 40 zz, xi cA q15 40 zz, xl cA q44 6682 zzL, xi cA q52 40 zz] H := hP
  have hD : va_D A [xo h0 4 [.ref a1, .ref a4, .null, .null, .ref q7, .ref q15, .int (Int32.ofInt 0), .int (Int32.ofInt 0), .int (Int32.ofInt 0), .int (Int32.ofInt 0), .ref q44, .ref q52, .int (Int32.ofInt (-9)), .int (Int32.ofInt (-1))], xi cA q7 40 zz, xi cA q15 40 zz, xl cA q44 6682 zzL, xi cA q52 40 zz] := hD
  refine lv_aload_n hx hb dX5_init_78 rfl (lv_at hl 0 rfl) ?_
  refine lv_aload_n hx hb dX5_init_79 rfl (lv_at hl 3 rfl) ?_
  refine va_putF (D := (dC, dI)) (ci := 4) (v := .ref a5) (ty := .object "SmallWorlds$Notions") (C := RX5) (T := TX5) (N := 14) hx hb hT zin_Rows tyX5 tyX5_ok nmX5 hown hK hP hD hS 0 rfl rfl 2 (by decide) (hT _ zf_Rows_55) (fun _ h9 => h9) rfl hin rfl (by decide +kernel) rfl rfl (Nat.le_of_ble_eq_true rfl) dX5_init_80 (fun H locs hP hD hS => ?_)
  have hP : va_P (dC, dI) vwCl [xo h0 4 [.ref a1, .ref a4, .ref a5, .null, .ref q7, .ref q15, .int (Int32.ofInt 0), .int (Int32.ofInt 0), .int (Int32.ofInt 0), .int (Int32.ofInt 0), .ref q44, .ref q52, .int (Int32.ofInt (-9)), .int (Int32.ofInt (-1))], xi cA q7 40 zz, xi cA q15 40 zz, xl cA q44 6682 zzL, xi cA q52 40 zz] H := hP
  have hD : va_D A [xo h0 4 [.ref a1, .ref a4, .ref a5, .null, .ref q7, .ref q15, .int (Int32.ofInt 0), .int (Int32.ofInt 0), .int (Int32.ofInt 0), .int (Int32.ofInt 0), .ref q44, .ref q52, .int (Int32.ofInt (-9)), .int (Int32.ofInt (-1))], xi cA q7 40 zz, xi cA q15 40 zz, xl cA q44 6682 zzL, xi cA q52 40 zz] := hD
  refine lv_aload_n hx hb dX5_init_83 rfl (lv_at hl 0 rfl) ?_
  refine lv_aload hx hb dX5_init_84 (lv_at hl 4 rfl) ?_
  refine va_putF (D := (dC, dI)) (ci := 4) (v := .ref a3) (ty := .object "SmallWorlds$Table") (C := RX5) (T := TX5) (N := 14) hx hb hT zin_Rows tyX5 tyX5_ok nmX5 hown hK hP hD hS 0 rfl rfl 3 (by decide) (hT _ zf_Rows_59) (fun _ h9 => h9) rfl hin rfl (by decide +kernel) rfl rfl (Nat.le_of_ble_eq_true rfl) dX5_init_86 (fun H locs hP hD hS => ?_)
  have hP : va_P (dC, dI) vwCl [xo h0 4 [.ref a1, .ref a4, .ref a5, .ref a3, .ref q7, .ref q15, .int (Int32.ofInt 0), .int (Int32.ofInt 0), .int (Int32.ofInt 0), .int (Int32.ofInt 0), .ref q44, .ref q52, .int (Int32.ofInt (-9)), .int (Int32.ofInt (-1))], xi cA q7 40 zz, xi cA q15 40 zz, xl cA q44 6682 zzL, xi cA q52 40 zz] H := hP
  have hD : va_D A [xo h0 4 [.ref a1, .ref a4, .ref a5, .ref a3, .ref q7, .ref q15, .int (Int32.ofInt 0), .int (Int32.ofInt 0), .int (Int32.ofInt 0), .int (Int32.ofInt 0), .ref q44, .ref q52, .int (Int32.ofInt (-9)), .int (Int32.ofInt (-1))], xi cA q7 40 zz, xi cA q15 40 zz, xl cA q44 6682 zzL, xi cA q52 40 zz] := hD
  obtain ⟨u, hu⟩ : ∃ u : Nat → Nat, u = fun c => if c = 1 then a1 else if c = 3 then a3 else if c = 4 then a4 else if c = 5 then a5 else if c = 6 then h0 else if c = 27 then q7 else if c = 28 then q15 else if c = 29 then q44 else if c = 30 then q52 else 0 := ⟨_, rfl⟩
  have hw : [xo h0 4 [.ref a1, .ref a4, .ref a5, .ref a3, .ref q7, .ref q15, .int (Int32.ofInt 0), .int (Int32.ofInt 0), .int (Int32.ofInt 0), .int (Int32.ofInt 0), .ref q44, .ref q52, .int (Int32.ofInt (-9)), .int (Int32.ofInt (-1))], xi cA q7 40 zz, xi cA q15 40 zz, xl cA q44 6682 zzL, xi cA q52 40 zz] = gl u cA zMi [6, 27, 28, 29, 30] := by
    subst hu
    exact rfl
  rw [hw] at hP hD
  refine W.widen (k := 4) (n := 6802) (by omega) (by omega) ?_
  exact W.vret hx hb hr (fun t ht hW => ⟨⟨u, rfl, (by subst hu; exact ⟨rfl, rfl, rfl, rfl, rfl⟩), by rw [ht]; exact hP, hD⟩, hS.F ht⟩) hS.2.2 dX5_init_89
