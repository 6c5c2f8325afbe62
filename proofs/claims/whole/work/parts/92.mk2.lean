theorem mk_upd3 : (upd (upd (upd zz 0 (Int32.ofInt (-9))) 1 (Int32.ofInt (-9))) 2 (Int32.ofInt (-9))) = fun i => Int32.ofInt (zMi 10 i) := by
  funext i
  match i with
  | 0 => rfl
  | 1 => rfl
  | 2 => rfl
  | i + 3 =>
    simp only [upd, zMi]
    rw [if_neg (by omega), if_neg (by omega), if_neg (by omega), if_neg (by omega)]
theorem mk_nds : (upd (upd (upd zz 0 (Int32.ofInt 1)) 1 (Int32.ofInt 2)) 2 (Int32.ofInt 4)) = fun i => Int32.ofInt (zMi 12 i) := by
  funext i
  match i with
  | 0 => rfl
  | 1 => rfl
  | 2 => rfl
  | i + 3 =>
    simp only [upd, zMi]
    rw [if_neg (by omega), if_neg (by omega), if_neg (by omega), if_neg (by omega)]
theorem mk_kep : (fun i => if i < 3341 then Int32.ofInt 192 else zz i) = fun i => Int32.ofInt (zMi 20 i) := by
  funext i
  simp only [zMi]
  split <;> rfl
theorem mk_par : (fun i => if i < 3 then Int32.ofInt 1 else zz i) = fun i => Int32.ofInt (zMi 8 i) := by
  funext i
  simp only [zMi]
  split <;> rfl
theorem mk_par3 : (upd (upd (upd zz 0 (Int32.ofInt 1)) 1 (Int32.ofInt 1)) 2 (Int32.ofInt 1)) = fun i => Int32.ofInt (zMi 54 i) := by
  funext i
  match i with
  | 0 => rfl
  | 1 => rfl
  | 2 => rfl
  | i + 3 =>
    simp only [upd, zMi]
    rw [if_neg (by omega), if_neg (by omega), if_neg (by omega), if_neg (by omega)]
theorem mk_inc (k : Nat) : Int32.ofInt (k : Int) + Int32.ofInt 1 = Int32.ofInt ((k + 1 : Nat) : Int) := by
  rw [← Int32.ofInt_add]
  rfl
theorem mk_fup (v : Int32) (f : Nat → Int32) (k : Nat) : upd (fun i => if i < k then v else f i) k v = fun i => if i < k + 1 then v else f i := by
  funext i
  unfold upd
  by_cases e : i = k
  · rw [if_pos e, if_pos (by omega)]
  · rw [if_neg e]
    show (if i < k then v else f i) = _
    by_cases h : i < k
    · rw [if_pos h, if_pos (by omega)]
    · rw [if_neg h, if_neg (by omega)]
set_option maxHeartbeats 4000000 in
set_option maxRecDepth 100000 in
theorem k_slot (l : Launch) (x : Int32) (sz : Nat) : Met l yX1_slotBit (zws zd_Catalog_slotBit) ({ frames := 0, cells := 0, slots := 0, locals := 0 }) (va_Pc [.int x] (fun U => U.heap.size = sz)) (va_Qi (fun (r : Int32) (_ : Unit) => r = Int32.ofInt 1 <<< ((Int32.ofInt 6 + x) &&& 31)) (fun _ _ => True) (fun q => sz ≤ q)) 0 0 (fun q => sz ≤ q) := by
  refine Met.ofW (cc := cX1_slotBit) (maxL := 1) (ret := (some .int)) (by decide) rfl ?_
  intro p e s m args below meth c s₁ B hml hv
  obtain ⟨rfl, hsz⟩ := hv
  have hx := B.exec
  have hb := B.bytes
  have hr := B.returns
  have hlocks := B.notSynchronized
  subst hsz
  have hl := lv_entry ([.int x]) (n := 1) (Nat.le_of_ble_eq_true rfl)
  rw [lg_entry_eq]
  generalize (lg_sl ([.int x]) ++ List.replicate (1 - (lg_sl ([.int x])).length) Slot.unset).toArray = ls at hl ⊢
  have hl : lv_has ls 1 [(0, .int x)] := hl
  refine lv_iconst (v := Int32.ofInt 1) hx hb dX1_slotBit_0 (by decide) ?_
  refine lv_bipush (v := Int32.ofInt 6) hx hb dX1_slotBit_1 (by decide) ?_
  refine lv_iload_n hx hb dX1_slotBit_3 rfl (lv_at hl 0 rfl) ?_
  refine lv_iadd hx hb dX1_slotBit_4 ?_
  refine lv_ishl hx hb dX1_slotBit_5 ?_
  exact W.iret hx hb hr (fun t ht hW => ⟨⟨_, (), rfl, rfl, trivial⟩, (va_S.rf (A := fun q => s.heap.size ≤ q)).F ht⟩) (fun q hq => by cases hq) dX1_slotBit_6
set_option maxHeartbeats 4000000 in
set_option maxRecDepth 100000 in
theorem k_fill (l : Launch) (dC : Nat → ClassId) (dI : Nat → Nat → Nat) (cA : Nat → ClassId) (a sz n : Nat) (v : Int32) (f : Nat → Int32) (hn : n < 2147483648) : Met l yJ7_fill_53178 (zws zd_Arrays_fill) ({ frames := 0, cells := 0, slots := 0, locals := 0 }) (va_Pc [.ref a, .int v] (fun U => U.heap.size = sz ∧ va_P (dC, dI) vwCl [xi cA a n f] U.heap ∧ va_K (dC, dI) vwCl (ztys cA) U ∧ va_D (fun _ => True) [xi cA a n f])) (va_Qv (fun _ : Unit => True) (fun _ t => va_P (dC, dI) vwCl [xi cA a n (fun i => if i < n then v else f i)] t.heap ∧ va_D (va_A [xi cA a n f] sz) [xi cA a n (fun i => if i < n then v else f i)]) (va_A [xi cA a n f] sz)) 0 0 (va_A [xi cA a n f] sz) := by
  refine Met.ofW (cc := cJ7_fill_53178) (maxL := 4) (ret := none) (by decide) rfl ?_
  intro p e s m args below meth c s₁ B hml hv
  obtain ⟨rfl, hsz, hP, hK, hD0⟩ := hv
  have hx := B.exec
  have hb := B.bytes
  have hr := B.returns
  have hlocks := B.notSynchronized
  subst hsz
  have hD := hD0.self (sz := s.heap.size)
  generalize hAe : va_A [xi cA a n f] s.heap.size = A at hD ⊢
  have hS : va_S A s.heap s.heap [] := va_S.rf
  have hl := lv_entry ([.ref a, .int v]) (n := 4) (Nat.le_of_ble_eq_true rfl)
  rw [lg_entry_eq]
  generalize (lg_sl ([.ref a, .int v]) ++ List.replicate (4 - (lg_sl ([.ref a, .int v])).length) Slot.unset).toArray = ls at hl ⊢
  have hl : lv_has ls 4 [(0, .ref a), (1, .int v)] := hl
  have loop : ∀ (d k : Nat) (H : Heap) (locs : List Loc) (ls : Array Slot), k + d = n → va_P (dC, dI) vwCl [xi cA a n (fun i => if i < k then v else f i)] H → va_D A [xi cA a n (fun i => if i < k then v else f i)] → va_S A s.heap H locs → lv_has ls 4 [(2, .int (Int32.ofInt (k : Int))), (3, .int (Int32.ofInt (n : Int))), (0, .ref a), (1, .int v)] → W p l e ({ frames := 0, cells := 0, slots := 0, locals := 0 }) s m ([Value.ref a, Value.int v] : List Value).toArray below meth c H locs 0 0 (MQ below (va_Qv (fun _ : Unit => True) (fun _ t => va_P (dC, dI) vwCl [xi cA a n (fun i => if i < n then v else f i)] t.heap ∧ va_D A [xi cA a n (fun i => if i < n then v else f i)]) A) ([Value.ref a, Value.int v] : List Value).toArray s 0 0 A) (F0 m 5 ls []) := by
    intro d
    induction d with
    | zero =>
      intro k H locs ls hk hP hD hS hl
      have e : k = n := by omega
      subst e
      refine lv_iload_n hx hb dJ7_fill_53178_5 rfl (lv_at hl 0 rfl) ?_
      refine lv_iload_n hx hb dJ7_fill_53178_6 rfl (lv_at hl 1 rfl) ?_
      refine lv_icmp_ge (tgt := 20) hx hb dJ7_fill_53178_7 (by decide) (fun _ => ?_) (fun c9 => absurd ((z_le (by omega) (by omega)).mpr (Int.le_refl _)) c9)
      exact W.vret hx hb hr (fun t ht hW => ⟨⟨(), rfl, trivial, by rw [ht]; exact hP, hD⟩, hS.F ht⟩) hS.2.2 dJ7_fill_53178_20
    | succ d ih =>
      intro k H locs ls hk hP hD hS hl
      obtain ⟨h1, h2⟩ := z_in (x := (k : Int)) rfl (show k < n by omega) hn
      refine lv_iload_n hx hb dJ7_fill_53178_5 rfl (lv_at hl 0 rfl) ?_
      refine lv_iload_n hx hb dJ7_fill_53178_6 rfl (lv_at hl 1 rfl) ?_
      refine lv_icmp_ge (tgt := 20) hx hb dJ7_fill_53178_7 (by decide) (fun c9 => absurd ((z_le (by omega) (by omega)).mp c9) (by omega)) (fun _ => ?_)
      refine lv_aload_n hx hb dJ7_fill_53178_10 rfl (lv_at hl 2 rfl) ?_
      refine lv_iload_n hx hb dJ7_fill_53178_11 rfl (lv_at hl 0 rfl) ?_
      refine lv_iload_n hx hb dJ7_fill_53178_12 rfl (lv_at hl 3 rfl) ?_
      refine va_iast hx hb hK hP hD hS 0 0 rfl rfl h1 dJ7_fill_53178_13 (fun H locs hP hD hS => ?_)
      rw [h2, mk_fup] at hP hD
      refine lv_iinc (v := Int32.ofInt ((k + 1 : Nat) : Int)) (lv' := [(2, .int (Int32.ofInt ((k + 1 : Nat) : Int))), (3, .int (Int32.ofInt (n : Int))), (0, .ref a), (1, .int v)]) hx hb dJ7_fill_53178_14 hl (k := 0) rfl (mk_inc k) (by decide) rfl (fun ls hl => ?_)
      refine lv_goto (tgt := 5) hx hb dJ7_fill_53178_17 (by decide) ?_
      exact ih (k + 1) H locs ls (by omega) hP hD hS hl
  refine lv_iconst (v := Int32.ofInt 0) hx hb dJ7_fill_53178_0 (by decide) ?_
  refine lv_istore_n (lv' := [(2, .int (Int32.ofInt 0)), (0, .ref a), (1, .int v)]) hx hb dJ7_fill_53178_1 rfl hl (by decide) rfl (fun ls hl => ?_)
  refine lv_aload_n hx hb dJ7_fill_53178_2 rfl (lv_at hl 1 rfl) ?_
  refine va_alen hx hb hK hP 0 0 (x := (n, .inl f)) rfl rfl (v := Int32.ofInt (n : Int)) rfl dJ7_fill_53178_3 ?_
  refine lv_istore_n (lv' := [(3, .int (Int32.ofInt (n : Int))), (2, .int (Int32.ofInt 0)), (0, .ref a), (1, .int v)]) hx hb dJ7_fill_53178_4 rfl hl (by decide) rfl (fun ls hl => ?_)
  have e0 : (fun i => if i < 0 then v else f i) = f := by funext i; rw [if_neg (Nat.not_lt_zero _)]
  exact loop n 0 s.heap [] ls (by omega) (by rw [e0]; exact hP) (by rw [e0]; exact hD) hS (lv_sub hl [1, 0, 2, 3] rfl)
set_option maxHeartbeats 4000000 in
set_option maxRecDepth 100000 in
theorem k_Terms (l : Launch) (dC : Nat → ClassId) (dI : Nat → Nat → Nat) (cA : Nat → ClassId) (h0 sz : Nat) : Met l yX7_init (zws zd_Terms_init) ({ frames := 1, cells := 3, slots := 60, locals := 30 * 1 }) (va_Pc [.ref h0] (fun U => U.heap.size = sz ∧ va_P (dC, dI) vwCl [xo h0 6 [.null, .null, .null, v0]] U.heap ∧ va_K (dC, dI) vwCl (ztys cA) U ∧ va_D (fun _ => True) [xo h0 6 [.null, .null, .null, v0]])) (va_Qv (fun u : Nat → Nat => u 1 = h0) (fun u t => va_P (dC, dI) vwCl (gl u cA zMi [1, 10, 11, 12]) t.heap ∧ va_D (va_A [xo h0 6 [.null, .null, .null, v0]] sz) (gl u cA zMi [1, 10, 11, 12])) (va_A [xo h0 6 [.null, .null, .null, v0]] sz)) 3 60 (va_A [xo h0 6 [.null, .null, .null, v0]] sz) := by
  refine Met.ofW (cc := cX7_init) (maxL := 2) (ret := none) (by decide) rfl ?_
  intro p e s m args below meth c s₁ B hml hv
  obtain ⟨rfl, hsz, hP, hK, hD0⟩ := hv
  have hx := B.exec
  have hb := B.bytes
  have hr := B.returns
  have hts := atoms_spec (ws := zws zd_Terms_init) B.pre
  have hT : ∀ w ∈ zAll, w.before _ s = true := fun w hw => hts w (List.mem_cons_of_mem _ hw)
  have hown : s.vm.findClass RX7 = some m.cls := findClass_of_methodNamed B.named
  have hlocks := B.notSynchronized
  have hin : meth.name = "<init>" := (name_of_methodNamed B.named B.method).1
  subst hsz
  have hD := hD0.self (sz := s.heap.size)
  generalize hAe : va_A [xo h0 6 [.null, .null, .null, v0]] s.heap.size = A at hD ⊢
  have hA : ∀ q : Nat, s.heap.size ≤ q → A q := fun q h => by rw [← hAe]; exact Or.inr h
  have hS : va_S A s.heap s.heap [] := va_S.rf
  have hP : va_P (dC, dI) vwCl [xo h0 6 [.null, .null, .null, v0]] s.heap := hP
  have hl := lv_entry ([.ref h0]) (n := 2) (Nat.le_of_ble_eq_true rfl)
  rw [lg_entry_eq]
  generalize (lg_sl ([.ref h0]) ++ List.replicate (2 - (lg_sl ([.ref h0])).length) Slot.unset).toArray = ls at hl ⊢
  have hl : lv_has ls 2 [(0, .ref h0)] := hl
  refine lv_aload_n hx hb dX7_init_0 rfl (lv_at hl 0 rfl) ?_
  refine W.objInit hx hb hown (hT _ zm_ol_Terms) (hT _ zm_oi) (hT _ zm_oc) rfl (by rw [hml]; exact hl.1) rfl dX7_init_1 (Nat.le_of_ble_eq_true rfl) (Nat.le_of_ble_eq_true rfl) ?_
  refine W.eq (g2 := F0 m 4 ls []) rfl ?_
  refine lv_aload_n hx hb dX7_init_4 rfl (lv_at hl 0 rfl) ?_
  refine lv_bipush (v := Int32.ofInt 20) hx hb dX7_init_5 (by decide) ?_
  refine g_newa (a0 := (20, .inl zz)) (N' := 20) 0 hx hb (hT _ zm_aint) rfl rfl (fun _ h => h) hK hP hD hS hA (fun _ => rfl) (by decide) (by decide) (by decide) (Nat.le_of_ble_eq_true rfl) (Nat.le_of_ble_eq_true rfl) dX7_init_7 (fun q7 H hP hD hS => ?_)
  have hP : va_P (dC, dI) vwCl [xo h0 6 [.null, .null, .null, v0], xi cA q7 20 zz] H := hP
  have hD : va_D A [xo h0 6 [.null, .null, .null, v0], xi cA q7 20 zz] := hD
  refine va_putF (D := (dC, dI)) (ci := 6) (v := .ref q7) (ty := .array .int) (C := RX7) (T := TX7) (N := 4) hx hb hT zin_Terms tyX7 tyX7_ok nmX7 hown hK hP hD hS 0 rfl rfl 0 (by decide) (hT _ zf_Terms_11) (fun _ h9 => h9) rfl hin rfl (by decide +kernel) rfl rfl (Nat.le_of_ble_eq_true rfl) dX7_init_9 (fun H locs hP hD hS => ?_)
  have hP : va_P (dC, dI) vwCl [xo h0 6 [.ref q7, .null, .null, v0], xi cA q7 20 zz] H := hP
  have hD : va_D A [xo h0 6 [.ref q7, .null, .null, v0], xi cA q7 20 zz] := hD
  refine lv_aload_n hx hb dX7_init_12 rfl (lv_at hl 0 rfl) ?_
  refine lv_bipush (v := Int32.ofInt 20) hx hb dX7_init_13 (by decide) ?_
  refine g_newa (a0 := (20, .inl zz)) (N' := 20) 0 hx hb (hT _ zm_aint) rfl rfl (fun _ h => h) hK hP hD hS hA (fun _ => rfl) (by decide) (by decide) (by decide) (Nat.le_of_ble_eq_true rfl) (Nat.le_of_ble_eq_true rfl) dX7_init_15 (fun q15 H hP hD hS => ?_)
  have hP : va_P (dC, dI) vwCl [xo h0 6 [.ref q7, .null, .null, v0], xi cA q7 20 zz, xi cA q15 20 zz] H := hP
  have hD : va_D A [xo h0 6 [.ref q7, .null, .null, v0], xi cA q7 20 zz, xi cA q15 20 zz] := hD
  refine va_putF (D := (dC, dI)) (ci := 6) (v := .ref q15) (ty := .array .int) (C := RX7) (T := TX7) (N := 4) hx hb hT zin_Terms tyX7 tyX7_ok nmX7 hown hK hP hD hS 0 rfl rfl 1 (by decide) (hT _ zf_Terms_15) (fun _ h9 => h9) rfl hin rfl (by decide +kernel) rfl rfl (Nat.le_of_ble_eq_true rfl) dX7_init_17 (fun H locs hP hD hS => ?_)
  have hP : va_P (dC, dI) vwCl [xo h0 6 [.ref q7, .ref q15, .null, v0], xi cA q7 20 zz, xi cA q15 20 zz] H := hP
  have hD : va_D A [xo h0 6 [.ref q7, .ref q15, .null, v0], xi cA q7 20 zz, xi cA q15 20 zz] := hD
  refine lv_aload_n hx hb dX7_init_20 rfl (lv_at hl 0 rfl) ?_
  refine lv_bipush (v := Int32.ofInt 20) hx hb dX7_init_21 (by decide) ?_
  refine g_newa (a0 := (20, .inl zz)) (N' := 20) 0 hx hb (hT _ zm_aint) rfl rfl (fun _ h => h) hK hP hD hS hA (fun _ => rfl) (by decide) (by decide) (by decide) (Nat.le_of_ble_eq_true rfl) (Nat.le_of_ble_eq_true rfl) dX7_init_23 (fun q23 H hP hD hS => ?_)
  have hP : va_P (dC, dI) vwCl [xo h0 6 [.ref q7, .ref q15, .null, v0], xi cA q7 20 zz, xi cA q15 20 zz, xi cA q23 20 zz] H := hP
  have hD : va_D A [xo h0 6 [.ref q7, .ref q15, .null, v0], xi cA q7 20 zz, xi cA q15 20 zz, xi cA q23 20 zz] := hD
  refine va_putF (D := (dC, dI)) (ci := 6) (v := .ref q23) (ty := .array .int) (C := RX7) (T := TX7) (N := 4) hx hb hT zin_Terms tyX7 tyX7_ok nmX7 hown hK hP hD hS 0 rfl rfl 2 (by decide) (hT _ zf_Terms_18) (fun _ h9 => h9) rfl hin rfl (by decide +kernel) rfl rfl (Nat.le_of_ble_eq_true rfl) dX7_init_25 (fun H locs hP hD hS => ?_)
  have hP : va_P (dC, dI) vwCl [xo h0 6 [.ref q7, .ref q15, .ref q23, v0], xi cA q7 20 zz, xi cA q15 20 zz, xi cA q23 20 zz] H := hP
  have hD : va_D A [xo h0 6 [.ref q7, .ref q15, .ref q23, v0], xi cA q7 20 zz, xi cA q15 20 zz, xi cA q23 20 zz] := hD
  refine lv_aload_n hx hb dX7_init_28 rfl (lv_at hl 0 rfl) ?_
  refine lv_iconst (v := Int32.ofInt 3) hx hb dX7_init_29 (by decide) ?_
  refine va_put (D := (dC, dI)) (ci := 6) (v := .int (Int32.ofInt 3)) (ty := .int) (C := RX7) (T := TX7) (N := 4) hx hb hT zin_Terms tyX7 tyX7_ok nmX7 hown hK hP hD hS 0 rfl rfl 3 (by decide) (hT _ zf_Terms_21) (fun _ h9 => h9) rfl (by decide +kernel) rfl rfl (Nat.le_of_ble_eq_true rfl) dX7_init_30 (fun H locs hP hD hS => ?_)
  have hP : va_P (dC, dI) vwCl [xo h0 6 [.ref q7, .ref q15, .ref q23, .int (Int32.ofInt 3)], xi cA q7 20 zz, xi cA q15 20 zz, xi cA q23 20 zz] H := hP
  have hD : va_D A [xo h0 6 [.ref q7, .ref q15, .ref q23, .int (Int32.ofInt 3)], xi cA q7 20 zz, xi cA q15 20 zz, xi cA q23 20 zz] := hD
  refine lv_iconst (v := Int32.ofInt 0) hx hb dX7_init_33 (by decide) ?_
  refine lv_istore_n (lv' := [(1, .int (Int32.ofInt 0)), (0, .ref h0)]) hx hb dX7_init_34 rfl hl (by decide) rfl (fun ls hl => ?_)
  refine lv_iload_n hx hb dX7_init_35 rfl (lv_at hl 0 rfl) ?_
  refine lv_iconst (v := Int32.ofInt 3) hx hb dX7_init_36 (by decide) ?_
  refine lv_icmp_ge (tgt := 71) hx hb dX7_init_37 (by decide) (fun c9 => absurd c9 (by decide)) (fun _ => ?_)
  refine lv_aload_n hx hb dX7_init_40 rfl (lv_at hl 1 rfl) ?_
  refine va_get (D := (dC, dI)) (ci := 6) (v := .ref q7) (C := RX7) (T := TX7) (N := 4) hx hb hT zin_Terms hown hK hP 0 rfl rfl 0 (by decide) (hT _ zf_Terms_11) (fun _ h9 => h9) rfl dX7_init_41 ?_
  refine lv_iload_n hx hb dX7_init_44 rfl (lv_at hl 0 rfl) ?_
  refine lv_bipush (v := Int32.ofInt (-9)) hx hb dX7_init_45 (by decide) ?_
  refine va_iast hx hb hK hP hD hS 1 0 rfl rfl (by unfold vp_in; decide) dX7_init_47 (fun H locs hP hD hS => ?_)
  have hP : va_P (dC, dI) vwCl [xo h0 6 [.ref q7, .ref q15, .ref q23, .int (Int32.ofInt 3)], xi cA q7 20 (upd zz 0 (Int32.ofInt (-9))), xi cA q15 20 zz, xi cA q23 20 zz] H := hP
  have hD : va_D A [xo h0 6 [.ref q7, .ref q15, .ref q23, .int (Int32.ofInt 3)], xi cA q7 20 (upd zz 0 (Int32.ofInt (-9))), xi cA q15 20 zz, xi cA q23 20 zz] := hD
  refine lv_aload_n hx hb dX7_init_48 rfl (lv_at hl 1 rfl) ?_
  refine va_get (D := (dC, dI)) (ci := 6) (v := .ref q15) (C := RX7) (T := TX7) (N := 4) hx hb hT zin_Terms hown hK hP 0 rfl rfl 1 (by decide) (hT _ zf_Terms_15) (fun _ h9 => h9) rfl dX7_init_49 ?_
  refine lv_iload_n hx hb dX7_init_52 rfl (lv_at hl 0 rfl) ?_
  refine lv_bipush (v := Int32.ofInt (-9)) hx hb dX7_init_53 (by decide) ?_
  refine va_iast hx hb hK hP hD hS 2 0 rfl rfl (by unfold vp_in; decide) dX7_init_55 (fun H locs hP hD hS => ?_)
  have hP : va_P (dC, dI) vwCl [xo h0 6 [.ref q7, .ref q15, .ref q23, .int (Int32.ofInt 3)], xi cA q7 20 (upd zz 0 (Int32.ofInt (-9))), xi cA q15 20 (upd zz 0 (Int32.ofInt (-9))), xi cA q23 20 zz] H := hP
  have hD : va_D A [xo h0 6 [.ref q7, .ref q15, .ref q23, .int (Int32.ofInt 3)], xi cA q7 20 (upd zz 0 (Int32.ofInt (-9))), xi cA q15 20 (upd zz 0 (Int32.ofInt (-9))), xi cA q23 20 zz] := hD
  refine lv_aload_n hx hb dX7_init_56 rfl (lv_at hl 1 rfl) ?_
  refine va_get (D := (dC, dI)) (ci := 6) (v := .ref q23) (C := RX7) (T := TX7) (N := 4) hx hb hT zin_Terms hown hK hP 0 rfl rfl 2 (by decide) (hT _ zf_Terms_18) (fun _ h9 => h9) rfl dX7_init_57 ?_
  refine lv_iload_n hx hb dX7_init_60 rfl (lv_at hl 0 rfl) ?_
  refine lv_iconst (v := Int32.ofInt 1) hx hb dX7_init_61 (by decide) ?_
  refine lv_iload_n hx hb dX7_init_62 rfl (lv_at hl 0 rfl) ?_
  refine lv_ishl hx hb dX7_init_63 ?_
  rw [show (Int32.ofInt 1 <<< (Int32.ofInt 0 &&& 31)) = Int32.ofInt 1 from by decide]
  refine va_iast hx hb hK hP hD hS 3 0 rfl rfl (by unfold vp_in; decide) dX7_init_64 (fun H locs hP hD hS => ?_)
  have hP : va_P (dC, dI) vwCl [xo h0 6 [.ref q7, .ref q15, .ref q23, .int (Int32.ofInt 3)], xi cA q7 20 (upd zz 0 (Int32.ofInt (-9))), xi cA q15 20 (upd zz 0 (Int32.ofInt (-9))), xi cA q23 20 (upd zz 0 (Int32.ofInt 1))] H := hP
  have hD : va_D A [xo h0 6 [.ref q7, .ref q15, .ref q23, .int (Int32.ofInt 3)], xi cA q7 20 (upd zz 0 (Int32.ofInt (-9))), xi cA q15 20 (upd zz 0 (Int32.ofInt (-9))), xi cA q23 20 (upd zz 0 (Int32.ofInt 1))] := hD
  refine lv_iinc (v := Int32.ofInt 1) (lv' := [(1, .int (Int32.ofInt 1)), (0, .ref h0)]) hx hb dX7_init_65 hl (k := 0) rfl (by decide) (by decide) rfl (fun ls hl => ?_)
  refine lv_goto (tgt := 35) hx hb dX7_init_68 (by decide) ?_
  refine lv_iload_n hx hb dX7_init_35 rfl (lv_at hl 0 rfl) ?_
  refine lv_iconst (v := Int32.ofInt 3) hx hb dX7_init_36 (by decide) ?_
  refine lv_icmp_ge (tgt := 71) hx hb dX7_init_37 (by decide) (fun c9 => absurd c9 (by decide)) (fun _ => ?_)
  refine lv_aload_n hx hb dX7_init_40 rfl (lv_at hl 1 rfl) ?_
  refine va_get (D := (dC, dI)) (ci := 6) (v := .ref q7) (C := RX7) (T := TX7) (N := 4) hx hb hT zin_Terms hown hK hP 0 rfl rfl 0 (by decide) (hT _ zf_Terms_11) (fun _ h9 => h9) rfl dX7_init_41 ?_
  refine lv_iload_n hx hb dX7_init_44 rfl (lv_at hl 0 rfl) ?_
  refine lv_bipush (v := Int32.ofInt (-9)) hx hb dX7_init_45 (by decide) ?_
  refine va_iast hx hb hK hP hD hS 1 0 rfl rfl (by unfold vp_in; decide) dX7_init_47 (fun H locs hP hD hS => ?_)
  have hP : va_P (dC, dI) vwCl [xo h0 6 [.ref q7, .ref q15, .ref q23, .int (Int32.ofInt 3)], xi cA q7 20 (upd (upd zz 0 (Int32.ofInt (-9))) 1 (Int32.ofInt (-9))), xi cA q15 20 (upd zz 0 (Int32.ofInt (-9))), xi cA q23 20 (upd zz 0 (Int32.ofInt 1))] H := hP
  have hD : va_D A [xo h0 6 [.ref q7, .ref q15, .ref q23, .int (Int32.ofInt 3)], xi cA q7 20 (upd (upd zz 0 (Int32.ofInt (-9))) 1 (Int32.ofInt (-9))), xi cA q15 20 (upd zz 0 (Int32.ofInt (-9))), xi cA q23 20 (upd zz 0 (Int32.ofInt 1))] := hD
  refine lv_aload_n hx hb dX7_init_48 rfl (lv_at hl 1 rfl) ?_
  refine va_get (D := (dC, dI)) (ci := 6) (v := .ref q15) (C := RX7) (T := TX7) (N := 4) hx hb hT zin_Terms hown hK hP 0 rfl rfl 1 (by decide) (hT _ zf_Terms_15) (fun _ h9 => h9) rfl dX7_init_49 ?_
  refine lv_iload_n hx hb dX7_init_52 rfl (lv_at hl 0 rfl) ?_
  refine lv_bipush (v := Int32.ofInt (-9)) hx hb dX7_init_53 (by decide) ?_
  refine va_iast hx hb hK hP hD hS 2 0 rfl rfl (by unfold vp_in; decide) dX7_init_55 (fun H locs hP hD hS => ?_)
  have hP : va_P (dC, dI) vwCl [xo h0 6 [.ref q7, .ref q15, .ref q23, .int (Int32.ofInt 3)], xi cA q7 20 (upd (upd zz 0 (Int32.ofInt (-9))) 1 (Int32.ofInt (-9))), xi cA q15 20 (upd (upd zz 0 (Int32.ofInt (-9))) 1 (Int32.ofInt (-9))), xi cA q23 20 (upd zz 0 (Int32.ofInt 1))] H := hP
  have hD : va_D A [xo h0 6 [.ref q7, .ref q15, .ref q23, .int (Int32.ofInt 3)], xi cA q7 20 (upd (upd zz 0 (Int32.ofInt (-9))) 1 (Int32.ofInt (-9))), xi cA q15 20 (upd (upd zz 0 (Int32.ofInt (-9))) 1 (Int32.ofInt (-9))), xi cA q23 20 (upd zz 0 (Int32.ofInt 1))] := hD
  refine lv_aload_n hx hb dX7_init_56 rfl (lv_at hl 1 rfl) ?_
  refine va_get (D := (dC, dI)) (ci := 6) (v := .ref q23) (C := RX7) (T := TX7) (N := 4) hx hb hT zin_Terms hown hK hP 0 rfl rfl 2 (by decide) (hT _ zf_Terms_18) (fun _ h9 => h9) rfl dX7_init_57 ?_
  refine lv_iload_n hx hb dX7_init_60 rfl (lv_at hl 0 rfl) ?_
  refine lv_iconst (v := Int32.ofInt 1) hx hb dX7_init_61 (by decide) ?_
  refine lv_iload_n hx hb dX7_init_62 rfl (lv_at hl 0 rfl) ?_
  refine lv_ishl hx hb dX7_init_63 ?_
  rw [show (Int32.ofInt 1 <<< (Int32.ofInt 1 &&& 31)) = Int32.ofInt 2 from by decide]
  refine va_iast hx hb hK hP hD hS 3 0 rfl rfl (by unfold vp_in; decide) dX7_init_64 (fun H locs hP hD hS => ?_)
  have hP : va_P (dC, dI) vwCl [xo h0 6 [.ref q7, .ref q15, .ref q23, .int (Int32.ofInt 3)], xi cA q7 20 (upd (upd zz 0 (Int32.ofInt (-9))) 1 (Int32.ofInt (-9))), xi cA q15 20 (upd (upd zz 0 (Int32.ofInt (-9))) 1 (Int32.ofInt (-9))), xi cA q23 20 (upd (upd zz 0 (Int32.ofInt 1)) 1 (Int32.ofInt 2))] H := hP
  have hD : va_D A [xo h0 6 [.ref q7, .ref q15, .ref q23, .int (Int32.ofInt 3)], xi cA q7 20 (upd (upd zz 0 (Int32.ofInt (-9))) 1 (Int32.ofInt (-9))), xi cA q15 20 (upd (upd zz 0 (Int32.ofInt (-9))) 1 (Int32.ofInt (-9))), xi cA q23 20 (upd (upd zz 0 (Int32.ofInt 1)) 1 (Int32.ofInt 2))] := hD
  refine lv_iinc (v := Int32.ofInt 2) (lv' := [(1, .int (Int32.ofInt 2)), (0, .ref h0)]) hx hb dX7_init_65 hl (k := 0) rfl (by decide) (by decide) rfl (fun ls hl => ?_)
  refine lv_goto (tgt := 35) hx hb dX7_init_68 (by decide) ?_
  refine lv_iload_n hx hb dX7_init_35 rfl (lv_at hl 0 rfl) ?_
  refine lv_iconst (v := Int32.ofInt 3) hx hb dX7_init_36 (by decide) ?_
  refine lv_icmp_ge (tgt := 71) hx hb dX7_init_37 (by decide) (fun c9 => absurd c9 (by decide)) (fun _ => ?_)
  refine lv_aload_n hx hb dX7_init_40 rfl (lv_at hl 1 rfl) ?_
  refine va_get (D := (dC, dI)) (ci := 6) (v := .ref q7) (C := RX7) (T := TX7) (N := 4) hx hb hT zin_Terms hown hK hP 0 rfl rfl 0 (by decide) (hT _ zf_Terms_11) (fun _ h9 => h9) rfl dX7_init_41 ?_
  refine lv_iload_n hx hb dX7_init_44 rfl (lv_at hl 0 rfl) ?_
  refine lv_bipush (v := Int32.ofInt (-9)) hx hb dX7_init_45 (by decide) ?_
  refine va_iast hx hb hK hP hD hS 1 0 rfl rfl (by unfold vp_in; decide) dX7_init_47 (fun H locs hP hD hS => ?_)
  have hP : va_P (dC, dI) vwCl [xo h0 6 [.ref q7, .ref q15, .ref q23, .int (Int32.ofInt 3)], xi cA q7 20 (upd (upd (upd zz 0 (Int32.ofInt (-9))) 1 (Int32.ofInt (-9))) 2 (Int32.ofInt (-9))), xi cA q15 20 (upd (upd zz 0 (Int32.ofInt (-9))) 1 (Int32.ofInt (-9))), xi cA q23 20 (upd (upd zz 0 (Int32.ofInt 1)) 1 (Int32.ofInt 2))] H := hP
  have hD : va_D A [xo h0 6 [.ref q7, .ref q15, .ref q23, .int (Int32.ofInt 3)], xi cA q7 20 (upd (upd (upd zz 0 (Int32.ofInt (-9))) 1 (Int32.ofInt (-9))) 2 (Int32.ofInt (-9))), xi cA q15 20 (upd (upd zz 0 (Int32.ofInt (-9))) 1 (Int32.ofInt (-9))), xi cA q23 20 (upd (upd zz 0 (Int32.ofInt 1)) 1 (Int32.ofInt 2))] := hD
  refine lv_aload_n hx hb dX7_init_48 rfl (lv_at hl 1 rfl) ?_
  refine va_get (D := (dC, dI)) (ci := 6) (v := .ref q15) (C := RX7) (T := TX7) (N := 4) hx hb hT zin_Terms hown hK hP 0 rfl rfl 1 (by decide) (hT _ zf_Terms_15) (fun _ h9 => h9) rfl dX7_init_49 ?_
  refine lv_iload_n hx hb dX7_init_52 rfl (lv_at hl 0 rfl) ?_
  refine lv_bipush (v := Int32.ofInt (-9)) hx hb dX7_init_53 (by decide) ?_
  refine va_iast hx hb hK hP hD hS 2 0 rfl rfl (by unfold vp_in; decide) dX7_init_55 (fun H locs hP hD hS => ?_)
  have hP : va_P (dC, dI) vwCl [xo h0 6 [.ref q7, .ref q15, .ref q23, .int (Int32.ofInt 3)], xi cA q7 20 (upd (upd (upd zz 0 (Int32.ofInt (-9))) 1 (Int32.ofInt (-9))) 2 (Int32.ofInt (-9))), xi cA q15 20 (upd (upd (upd zz 0 (Int32.ofInt (-9))) 1 (Int32.ofInt (-9))) 2 (Int32.ofInt (-9))), xi cA q23 20 (upd (upd zz 0 (Int32.ofInt 1)) 1 (Int32.ofInt 2))] H := hP
  have hD : va_D A [xo h0 6 [.ref q7, .ref q15, .ref q23, .int (Int32.ofInt 3)], xi cA q7 20 (upd (upd (upd zz 0 (Int32.ofInt (-9))) 1 (Int32.ofInt (-9))) 2 (Int32.ofInt (-9))), xi cA q15 20 (upd (upd (upd zz 0 (Int32.ofInt (-9))) 1 (Int32.ofInt (-9))) 2 (Int32.ofInt (-9))), xi cA q23 20 (upd (upd zz 0 (Int32.ofInt 1)) 1 (Int32.ofInt 2))] := hD
  refine lv_aload_n hx hb dX7_init_56 rfl (lv_at hl 1 rfl) ?_
  refine va_get (D := (dC, dI)) (ci := 6) (v := .ref q23) (C := RX7) (T := TX7) (N := 4) hx hb hT zin_Terms hown hK hP 0 rfl rfl 2 (by decide) (hT _ zf_Terms_18) (fun _ h9 => h9) rfl dX7_init_57 ?_
  refine lv_iload_n hx hb dX7_init_60 rfl (lv_at hl 0 rfl) ?_
  refine lv_iconst (v := Int32.ofInt 1) hx hb dX7_init_61 (by decide) ?_
  refine lv_iload_n hx hb dX7_init_62 rfl (lv_at hl 0 rfl) ?_
  refine lv_ishl hx hb dX7_init_63 ?_
  rw [show (Int32.ofInt 1 <<< (Int32.ofInt 2 &&& 31)) = Int32.ofInt 4 from by decide]
  refine va_iast hx hb hK hP hD hS 3 0 rfl rfl (by unfold vp_in; decide) dX7_init_64 (fun H locs hP hD hS => ?_)
  have hP : va_P (dC, dI) vwCl [xo h0 6 [.ref q7, .ref q15, .ref q23, .int (Int32.ofInt 3)], xi cA q7 20 (upd (upd (upd zz 0 (Int32.ofInt (-9))) 1 (Int32.ofInt (-9))) 2 (Int32.ofInt (-9))), xi cA q15 20 (upd (upd (upd zz 0 (Int32.ofInt (-9))) 1 (Int32.ofInt (-9))) 2 (Int32.ofInt (-9))), xi cA q23 20 (upd (upd (upd zz 0 (Int32.ofInt 1)) 1 (Int32.ofInt 2)) 2 (Int32.ofInt 4))] H := hP
  have hD : va_D A [xo h0 6 [.ref q7, .ref q15, .ref q23, .int (Int32.ofInt 3)], xi cA q7 20 (upd (upd (upd zz 0 (Int32.ofInt (-9))) 1 (Int32.ofInt (-9))) 2 (Int32.ofInt (-9))), xi cA q15 20 (upd (upd (upd zz 0 (Int32.ofInt (-9))) 1 (Int32.ofInt (-9))) 2 (Int32.ofInt (-9))), xi cA q23 20 (upd (upd (upd zz 0 (Int32.ofInt 1)) 1 (Int32.ofInt 2)) 2 (Int32.ofInt 4))] := hD
  refine lv_iinc (v := Int32.ofInt 3) (lv' := [(1, .int (Int32.ofInt 3)), (0, .ref h0)]) hx hb dX7_init_65 hl (k := 0) rfl (by decide) (by decide) rfl (fun ls hl => ?_)
  refine lv_goto (tgt := 35) hx hb dX7_init_68 (by decide) ?_
  refine lv_iload_n hx hb dX7_init_35 rfl (lv_at hl 0 rfl) ?_
  refine lv_iconst (v := Int32.ofInt 3) hx hb dX7_init_36 (by decide) ?_
  refine lv_icmp_ge (tgt := 71) hx hb dX7_init_37 (by decide) (fun _ => ?_) (fun c9 => absurd (by decide) c9)
  obtain ⟨u, hu⟩ : ∃ u : Nat → Nat, u = fun c => if c = 1 then h0 else if c = 10 then q7 else if c = 11 then q15 else if c = 12 then q23 else 0 := ⟨_, rfl⟩
  have hw : [xo h0 6 [.ref q7, .ref q15, .ref q23, .int (Int32.ofInt 3)], xi cA q7 20 (upd (upd (upd zz 0 (Int32.ofInt (-9))) 1 (Int32.ofInt (-9))) 2 (Int32.ofInt (-9))), xi cA q15 20 (upd (upd (upd zz 0 (Int32.ofInt (-9))) 1 (Int32.ofInt (-9))) 2 (Int32.ofInt (-9))), xi cA q23 20 (upd (upd (upd zz 0 (Int32.ofInt 1)) 1 (Int32.ofInt 2)) 2 (Int32.ofInt 4))] = gl u cA zMi [1, 10, 11, 12] := by
    subst hu
    rw [mk_upd3, mk_nds]
    exact rfl
  rw [hw] at hP hD
  refine W.widen (k := 3) (n := 60) (by omega) (by omega) ?_
  exact W.vret hx hb hr (fun t ht hW => ⟨⟨u, rfl, (by subst hu; exact rfl), by rw [ht]; exact hP, hD⟩, hS.F ht⟩) hS.2.2 dX7_init_71
set_option maxHeartbeats 4000000 in
set_option maxRecDepth 100000 in
theorem k_Catalog (l : Launch) (dC : Nat → ClassId) (dI : Nat → Nat → Nat) (cA : Nat → ClassId) (h0 sz a3 : Nat) : Met l yX1_init (zws zd_Catalog_init) ({ frames := 1, cells := 4, slots := 13364, locals := 30 * 1 }) (va_Pc [.ref h0, .ref a3] (fun U => U.heap.size = sz ∧ va_P (dC, dI) vwCl [xo h0 0 [.null, .null, .null, .null, v0, v0, v0, .null]] U.heap ∧ va_K (dC, dI) vwCl (ztys cA) U ∧ va_D (fun _ => True) [xo h0 0 [.null, .null, .null, .null, v0, v0, v0, .null]])) (va_Qv (fun u : Nat → Nat => u 4 = h0 ∧ u 3 = a3) (fun u t => va_P (dC, dI) vwCl (gl u cA zMi [4, 17, 18, 19, 20]) t.heap ∧ va_D (va_A [xo h0 0 [.null, .null, .null, .null, v0, v0, v0, .null]] sz) (gl u cA zMi [4, 17, 18, 19, 20])) (va_A [xo h0 0 [.null, .null, .null, .null, v0, v0, v0, .null]] sz)) 4 13364 (va_A [xo h0 0 [.null, .null, .null, .null, v0, v0, v0, .null]] sz) := by
  refine Met.ofW (cc := cX1_init) (maxL := 2) (ret := none) (by decide) rfl ?_
  intro p e s m args below meth c s₁ B hml hv
  obtain ⟨rfl, hsz, hP, hK, hD0⟩ := hv
  have hx := B.exec
  have hb := B.bytes
  have hr := B.returns
  have hts := atoms_spec (ws := zws zd_Catalog_init) B.pre
  have hT : ∀ w ∈ zAll, w.before _ s = true := fun w hw => hts w (List.mem_cons_of_mem _ hw)
  have hown : s.vm.findClass RX1 = some m.cls := findClass_of_methodNamed B.named
  have hlocks := B.notSynchronized
  have hin : meth.name = "<init>" := (name_of_methodNamed B.named B.method).1
  subst hsz
  have hD := hD0.self (sz := s.heap.size)
  generalize hAe : va_A [xo h0 0 [.null, .null, .null, .null, v0, v0, v0, .null]] s.heap.size = A at hD ⊢
  have hA : ∀ q : Nat, s.heap.size ≤ q → A q := fun q h => by rw [← hAe]; exact Or.inr h
  have hS : va_S A s.heap s.heap [] := va_S.rf
  have hP : va_P (dC, dI) vwCl [xo h0 0 [.null, .null, .null, .null, v0, v0, v0, .null]] s.heap := hP
  have hl := lv_entry ([.ref h0, .ref a3]) (n := 2) (Nat.le_of_ble_eq_true rfl)
  rw [lg_entry_eq]
  generalize (lg_sl ([.ref h0, .ref a3]) ++ List.replicate (2 - (lg_sl ([.ref h0, .ref a3])).length) Slot.unset).toArray = ls at hl ⊢
  have hl : lv_has ls 2 [(0, .ref h0), (1, .ref a3)] := hl
  refine lv_aload_n hx hb dX1_init_0 rfl (lv_at hl 0 rfl) ?_
  refine W.objInit hx hb hown (hT _ zm_ol_Catalog) (hT _ zm_oi) (hT _ zm_oc) rfl (by rw [hml]; exact hl.1) rfl dX1_init_1 (Nat.le_of_ble_eq_true rfl) (Nat.le_of_ble_eq_true rfl) ?_
  refine W.eq (g2 := F0 m 4 ls []) rfl ?_
  refine lv_aload_n hx hb dX1_init_4 rfl (lv_at hl 0 rfl) ?_
  refine lv_sipush (v := Int32.ofInt 3341) hx hb dX1_init_5 (by decide) ?_
  refine g_newa (a0 := (3341, .inl zz)) (N' := 3341) 0 hx hb (hT _ zm_aint) rfl rfl (fun _ h => h) hK hP hD hS hA (fun _ => rfl) (by decide) (by decide) (by decide) (Nat.le_of_ble_eq_true rfl) (Nat.le_of_ble_eq_true rfl) dX1_init_8 (fun q8 H hP hD hS => ?_)
  have hP : va_P (dC, dI) vwCl [xo h0 0 [.null, .null, .null, .null, v0, v0, v0, .null], xi cA q8 3341 zz] H := hP
  have hD : va_D A [xo h0 0 [.null, .null, .null, .null, v0, v0, v0, .null], xi cA q8 3341 zz] := hD
  refine va_putF (D := (dC, dI)) (ci := 0) (v := .ref q8) (ty := .array .int) (C := RX1) (T := TX1) (N := 8) hx hb hT zin_Catalog tyX1 tyX1_ok nmX1 hown hK hP hD hS 0 rfl rfl 0 (by decide) (hT _ zf_Catalog_11) (fun _ h9 => h9) rfl hin rfl (by decide +kernel) rfl rfl (Nat.le_of_ble_eq_true rfl) dX1_init_10 (fun H locs hP hD hS => ?_)
  have hP : va_P (dC, dI) vwCl [xo h0 0 [.ref q8, .null, .null, .null, v0, v0, v0, .null], xi cA q8 3341 zz] H := hP
  have hD : va_D A [xo h0 0 [.ref q8, .null, .null, .null, v0, v0, v0, .null], xi cA q8 3341 zz] := hD
  refine lv_aload_n hx hb dX1_init_13 rfl (lv_at hl 0 rfl) ?_
  refine lv_sipush (v := Int32.ofInt 3341) hx hb dX1_init_14 (by decide) ?_
  refine g_newa (a0 := (3341, .inl zz)) (N' := 3341) 0 hx hb (hT _ zm_aint) rfl rfl (fun _ h => h) hK hP hD hS hA (fun _ => rfl) (by decide) (by decide) (by decide) (Nat.le_of_ble_eq_true rfl) (Nat.le_of_ble_eq_true rfl) dX1_init_17 (fun q17 H hP hD hS => ?_)
  have hP : va_P (dC, dI) vwCl [xo h0 0 [.ref q8, .null, .null, .null, v0, v0, v0, .null], xi cA q8 3341 zz, xi cA q17 3341 zz] H := hP
  have hD : va_D A [xo h0 0 [.ref q8, .null, .null, .null, v0, v0, v0, .null], xi cA q8 3341 zz, xi cA q17 3341 zz] := hD
  refine va_putF (D := (dC, dI)) (ci := 0) (v := .ref q17) (ty := .array .int) (C := RX1) (T := TX1) (N := 8) hx hb hT zin_Catalog tyX1 tyX1_ok nmX1 hown hK hP hD hS 0 rfl rfl 1 (by decide) (hT _ zf_Catalog_15) (fun _ h9 => h9) rfl hin rfl (by decide +kernel) rfl rfl (Nat.le_of_ble_eq_true rfl) dX1_init_19 (fun H locs hP hD hS => ?_)
  have hP : va_P (dC, dI) vwCl [xo h0 0 [.ref q8, .ref q17, .null, .null, v0, v0, v0, .null], xi cA q8 3341 zz, xi cA q17 3341 zz] H := hP
  have hD : va_D A [xo h0 0 [.ref q8, .ref q17, .null, .null, v0, v0, v0, .null], xi cA q8 3341 zz, xi cA q17 3341 zz] := hD
  refine lv_aload_n hx hb dX1_init_22 rfl (lv_at hl 0 rfl) ?_
  refine lv_sipush (v := Int32.ofInt 3341) hx hb dX1_init_23 (by decide) ?_
  refine g_newa (a0 := (3341, .inl zz)) (N' := 3341) 0 hx hb (hT _ zm_aint) rfl rfl (fun _ h => h) hK hP hD hS hA (fun _ => rfl) (by decide) (by decide) (by decide) (Nat.le_of_ble_eq_true rfl) (Nat.le_of_ble_eq_true rfl) dX1_init_26 (fun q26 H hP hD hS => ?_)
  have hP : va_P (dC, dI) vwCl [xo h0 0 [.ref q8, .ref q17, .null, .null, v0, v0, v0, .null], xi cA q8 3341 zz, xi cA q17 3341 zz, xi cA q26 3341 zz] H := hP
  have hD : va_D A [xo h0 0 [.ref q8, .ref q17, .null, .null, v0, v0, v0, .null], xi cA q8 3341 zz, xi cA q17 3341 zz, xi cA q26 3341 zz] := hD
  refine va_putF (D := (dC, dI)) (ci := 0) (v := .ref q26) (ty := .array .int) (C := RX1) (T := TX1) (N := 8) hx hb hT zin_Catalog tyX1 tyX1_ok nmX1 hown hK hP hD hS 0 rfl rfl 2 (by decide) (hT _ zf_Catalog_18) (fun _ h9 => h9) rfl hin rfl (by decide +kernel) rfl rfl (Nat.le_of_ble_eq_true rfl) dX1_init_28 (fun H locs hP hD hS => ?_)
  have hP : va_P (dC, dI) vwCl [xo h0 0 [.ref q8, .ref q17, .ref q26, .null, v0, v0, v0, .null], xi cA q8 3341 zz, xi cA q17 3341 zz, xi cA q26 3341 zz] H := hP
  have hD : va_D A [xo h0 0 [.ref q8, .ref q17, .ref q26, .null, v0, v0, v0, .null], xi cA q8 3341 zz, xi cA q17 3341 zz, xi cA q26 3341 zz] := hD
  refine lv_aload_n hx hb dX1_init_31 rfl (lv_at hl 0 rfl) ?_
  refine lv_sipush (v := Int32.ofInt 3341) hx hb dX1_init_32 (by decide) ?_
  refine g_newa (a0 := (3341, .inl zz)) (N' := 3341) 0 hx hb (hT _ zm_aint) rfl rfl (fun _ h => h) hK hP hD hS hA (fun _ => rfl) (by decide) (by decide) (by decide) (Nat.le_of_ble_eq_true rfl) (Nat.le_of_ble_eq_true rfl) dX1_init_35 (fun q35 H hP hD hS => ?_)
  have hP : va_P (dC, dI) vwCl [xo h0 0 [.ref q8, .ref q17, .ref q26, .null, v0, v0, v0, .null], xi cA q8 3341 zz, xi cA q17 3341 zz, xi cA q26 3341 zz, xi cA q35 3341 zz] H := hP
  have hD : va_D A [xo h0 0 [.ref q8, .ref q17, .ref q26, .null, v0, v0, v0, .null], xi cA q8 3341 zz, xi cA q17 3341 zz, xi cA q26 3341 zz, xi cA q35 3341 zz] := hD
  refine va_putF (D := (dC, dI)) (ci := 0) (v := .ref q35) (ty := .array .int) (C := RX1) (T := TX1) (N := 8) hx hb hT zin_Catalog tyX1 tyX1_ok nmX1 hown hK hP hD hS 0 rfl rfl 3 (by decide) (hT _ zf_Catalog_21) (fun _ h9 => h9) rfl hin rfl (by decide +kernel) rfl rfl (Nat.le_of_ble_eq_true rfl) dX1_init_37 (fun H locs hP hD hS => ?_)
  have hP : va_P (dC, dI) vwCl [xo h0 0 [.ref q8, .ref q17, .ref q26, .ref q35, v0, v0, v0, .null], xi cA q8 3341 zz, xi cA q17 3341 zz, xi cA q26 3341 zz, xi cA q35 3341 zz] H := hP
  have hD : va_D A [xo h0 0 [.ref q8, .ref q17, .ref q26, .ref q35, v0, v0, v0, .null], xi cA q8 3341 zz, xi cA q17 3341 zz, xi cA q26 3341 zz, xi cA q35 3341 zz] := hD
  refine lv_aload_n hx hb dX1_init_40 rfl (lv_at hl 0 rfl) ?_
  refine lv_iconst (v := Int32.ofInt 0) hx hb dX1_init_41 (by decide) ?_
  refine va_put (D := (dC, dI)) (ci := 0) (v := .int (Int32.ofInt 0)) (ty := .boolean) (C := RX1) (T := TX1) (N := 8) hx hb hT zin_Catalog tyX1 tyX1_ok nmX1 hown hK hP hD hS 0 rfl rfl 4 (by decide) (hT _ zf_Catalog_24) (fun _ h9 => h9) rfl (by decide +kernel) rfl rfl (Nat.le_of_ble_eq_true rfl) dX1_init_42 (fun H locs hP hD hS => ?_)
  have hP : va_P (dC, dI) vwCl [xo h0 0 [.ref q8, .ref q17, .ref q26, .ref q35, .int (Int32.ofInt 0), v0, v0, .null], xi cA q8 3341 zz, xi cA q17 3341 zz, xi cA q26 3341 zz, xi cA q35 3341 zz] H := hP
  have hD : va_D A [xo h0 0 [.ref q8, .ref q17, .ref q26, .ref q35, .int (Int32.ofInt 0), v0, v0, .null], xi cA q8 3341 zz, xi cA q17 3341 zz, xi cA q26 3341 zz, xi cA q35 3341 zz] := hD
  refine lv_aload_n hx hb dX1_init_45 rfl (lv_at hl 0 rfl) ?_
  refine lv_iconst (v := Int32.ofInt 0) hx hb dX1_init_46 (by decide) ?_
  refine va_put (D := (dC, dI)) (ci := 0) (v := .int (Int32.ofInt 0)) (ty := .boolean) (C := RX1) (T := TX1) (N := 8) hx hb hT zin_Catalog tyX1 tyX1_ok nmX1 hown hK hP hD hS 0 rfl rfl 5 (by decide) (hT _ zf_Catalog_28) (fun _ h9 => h9) rfl (by decide +kernel) rfl rfl (Nat.le_of_ble_eq_true rfl) dX1_init_47 (fun H locs hP hD hS => ?_)
  have hP : va_P (dC, dI) vwCl [xo h0 0 [.ref q8, .ref q17, .ref q26, .ref q35, .int (Int32.ofInt 0), .int (Int32.ofInt 0), v0, .null], xi cA q8 3341 zz, xi cA q17 3341 zz, xi cA q26 3341 zz, xi cA q35 3341 zz] H := hP
  have hD : va_D A [xo h0 0 [.ref q8, .ref q17, .ref q26, .ref q35, .int (Int32.ofInt 0), .int (Int32.ofInt 0), v0, .null], xi cA q8 3341 zz, xi cA q17 3341 zz, xi cA q26 3341 zz, xi cA q35 3341 zz] := hD
  refine lv_aload_n hx hb dX1_init_50 rfl (lv_at hl 0 rfl) ?_
  refine lv_iconst (v := Int32.ofInt 0) hx hb dX1_init_51 (by decide) ?_
  refine va_put (D := (dC, dI)) (ci := 0) (v := .int (Int32.ofInt 0)) (ty := .int) (C := RX1) (T := TX1) (N := 8) hx hb hT zin_Catalog tyX1 tyX1_ok nmX1 hown hK hP hD hS 0 rfl rfl 6 (by decide) (hT _ zf_Catalog_31) (fun _ h9 => h9) rfl (by decide +kernel) rfl rfl (Nat.le_of_ble_eq_true rfl) dX1_init_52 (fun H locs hP hD hS => ?_)
  have hP : va_P (dC, dI) vwCl [xo h0 0 [.ref q8, .ref q17, .ref q26, .ref q35, .int (Int32.ofInt 0), .int (Int32.ofInt 0), .int (Int32.ofInt 0), .null], xi cA q8 3341 zz, xi cA q17 3341 zz, xi cA q26 3341 zz, xi cA q35 3341 zz] H := hP
  have hD : va_D A [xo h0 0 [.ref q8, .ref q17, .ref q26, .ref q35, .int (Int32.ofInt 0), .int (Int32.ofInt 0), .int (Int32.ofInt 0), .null], xi cA q8 3341 zz, xi cA q17 3341 zz, xi cA q26 3341 zz, xi cA q35 3341 zz] := hD
  refine lv_aload_n hx hb dX1_init_55 rfl (lv_at hl 0 rfl) ?_
  refine lv_aload_n hx hb dX1_init_56 rfl (lv_at hl 1 rfl) ?_
  refine va_putF (D := (dC, dI)) (ci := 0) (v := .ref a3) (ty := .object "SmallWorlds$Table") (C := RX1) (T := TX1) (N := 8) hx hb hT zin_Catalog tyX1 tyX1_ok nmX1 hown hK hP hD hS 0 rfl rfl 7 (by decide) (hT _ zf_Catalog_35) (fun _ h9 => h9) rfl hin rfl (by decide +kernel) rfl rfl (Nat.le_of_ble_eq_true rfl) dX1_init_57 (fun H locs hP hD hS => ?_)
  have hP : va_P (dC, dI) vwCl [xo h0 0 [.ref q8, .ref q17, .ref q26, .ref q35, .int (Int32.ofInt 0), .int (Int32.ofInt 0), .int (Int32.ofInt 0), .ref a3], xi cA q8 3341 zz, xi cA q17 3341 zz, xi cA q26 3341 zz, xi cA q35 3341 zz] H := hP
  have hD : va_D A [xo h0 0 [.ref q8, .ref q17, .ref q26, .ref q35, .int (Int32.ofInt 0), .int (Int32.ofInt 0), .int (Int32.ofInt 0), .ref a3], xi cA q8 3341 zz, xi cA q17 3341 zz, xi cA q26 3341 zz, xi cA q35 3341 zz] := hD
  refine lv_aload_n hx hb dX1_init_60 rfl (lv_at hl 0 rfl) ?_
  refine va_get (D := (dC, dI)) (ci := 0) (v := .ref q35) (C := RX1) (T := TX1) (N := 8) hx hb hT zin_Catalog hown hK hP 0 rfl rfl 3 (by decide) (hT _ zf_Catalog_21) (fun _ h9 => h9) rfl dX1_init_61 ?_
  refine lv_iconst (v := Int32.ofInt 0) hx hb dX1_init_64 (by decide) ?_
  refine va_calli (va_runS (As := [.int (Int32.ofInt 0)]) (rest := [.ref q35]) (nL := 2) (Ts := zAll) (own := RX1) (n := 1) ⟨hx, hb, hml, hown, hT⟩ (k_slot l (Int32.ofInt 0) H.size) (va_cwS 1 hT (z_goodS (μ' := zd_Catalog_slotBit) zm_Catalog_39 zk_st_Catalog_slotBit zk_ini_Catalog zk_code_Catalog_slotBit) rfl rfl rfl (by decide +kernel) ⟨Nat.le_of_ble_eq_true rfl, Nat.le_of_ble_eq_true rfl⟩) ⟨fun a U g mk q => ⟨q.1, q.2⟩, fun U hU hW => ⟨rfl, (by show U.heap.size = _; rw [hU])⟩⟩ rfl rfl hl.1 rfl (lv_room (Nat.le_of_ble_eq_true rfl)) dX1_init_65 ⟨Nat.le_of_ble_eq_true rfl, Nat.le_of_ble_eq_true rfl⟩) hS (fun q _ h => hA q (Nat.le_trans hS.1 h)) (fun q h => hA q (Nat.le_trans hS.1 h)) (fun r65 _ t H1 locs ht hvm hw _ hz1 hk1 hS => ?_)
  have hP := hP.kept (H1 := H1) (fun k q hk => hk1 q.1 ((hP k q hk).lt) (Nat.not_le.mpr (hP k q hk).lt))
  generalize H1 = H at hP hS ⊢
  have hw : r65 = Int32.ofInt 64 := by rw [hw]; decide
  subst hw
  refine lv_iconst (v := Int32.ofInt 1) hx hb dX1_init_68 (by decide) ?_
  refine va_calli (va_runS (As := [.int (Int32.ofInt 1)]) (rest := [.int (Int32.ofInt 64), .ref q35]) (nL := 2) (Ts := zAll) (own := RX1) (n := 1) ⟨hx, hb, hml, hown, hT⟩ (k_slot l (Int32.ofInt 1) H.size) (va_cwS 1 hT (z_goodS (μ' := zd_Catalog_slotBit) zm_Catalog_39 zk_st_Catalog_slotBit zk_ini_Catalog zk_code_Catalog_slotBit) rfl rfl rfl (by decide +kernel) ⟨Nat.le_of_ble_eq_true rfl, Nat.le_of_ble_eq_true rfl⟩) ⟨fun a U g mk q => ⟨q.1, q.2⟩, fun U hU hW => ⟨rfl, (by show U.heap.size = _; rw [hU])⟩⟩ rfl rfl hl.1 rfl (lv_room (Nat.le_of_ble_eq_true rfl)) dX1_init_69 ⟨Nat.le_of_ble_eq_true rfl, Nat.le_of_ble_eq_true rfl⟩) hS (fun q _ h => hA q (Nat.le_trans hS.1 h)) (fun q h => hA q (Nat.le_trans hS.1 h)) (fun r69 _ t H1 locs ht hvm hw _ hz1 hk1 hS => ?_)
  have hP := hP.kept (H1 := H1) (fun k q hk => hk1 q.1 ((hP k q hk).lt) (Nat.not_le.mpr (hP k q hk).lt))
  generalize H1 = H at hP hS ⊢
  have hw : r69 = Int32.ofInt 128 := by rw [hw]; decide
  subst hw
  refine lv_ior hx hb dX1_init_72 ?_
  rw [show (Int32.ofInt 64 ||| Int32.ofInt 128) = Int32.ofInt 192 from by decide]
  have hPc := hP.sub (ws' := [xi cA q35 3341 zz]) [4] rfl
  have hDc := hD.sub (ws' := [xi cA q35 3341 zz]) [4] (by decide) rfl
  have hFc := va_free (wc := [xi cA q35 3341 zz]) hD hS hA [4] rfl
  refine va_callv (va_runS (As := [.ref q35, .int (Int32.ofInt 192)]) (rest := []) (nL := 2) (Ts := zAll) (own := RX1) (n := 2) ⟨hx, hb, hml, hown, hT⟩ (k_fill l dC dI cA q35 H.size 3341 (Int32.ofInt 192) zz (by decide)) (va_cwS 2 hT (z_goodS (μ' := zd_Arrays_fill) zm_Catalog_43 zk_st_Arrays_fill zk_ini_Arrays zk_code_Arrays_fill) rfl rfl rfl (by decide +kernel) ⟨Nat.le_of_ble_eq_true rfl, Nat.le_of_ble_eq_true rfl⟩) ⟨fun a U g mk q => by obtain ⟨q0, q1, qP, qK, qD⟩ := q; exact ⟨q0, q1, qP, va_K.moved (u := U) (U := U.calling g mk a) (Vm.Alike.refl U.vm) qK, qD⟩, fun U hU hW => ⟨rfl, by rw [hU], by rw [hU]; exact hPc, va_K.moved hW.alike hK, hDc.weaken (fun _ _ _ _ => trivial)⟩⟩ rfl rfl hl.1 rfl (lv_room (Nat.le_of_ble_eq_true rfl)) dX1_init_73 ⟨Nat.le_of_ble_eq_true rfl, Nat.le_of_ble_eq_true rfl⟩) hS (fun q _ h => hFc q h) hFc (fun _ t H1 locs ht hvm hw hB hz1 hk1 hS => ?_)
  obtain ⟨hP1, hD1⟩ := hB
  rw [ht] at hP1
  obtain ⟨hP, hD⟩ := va_join (wr := [xo h0 0 [.ref q8, .ref q17, .ref q26, .ref q35, .int (Int32.ofInt 0), .int (Int32.ofInt 0), .int (Int32.ofInt 0), .ref a3], xi cA q8 3341 zz, xi cA q17 3341 zz, xi cA q26 3341 zz]) (w1 := [xi cA q35 3341 (fun i => if i < 3341 then Int32.ofInt 192 else zz i)]) hP hD [4] [0, 1, 2, 3] rfl rfl (by decide) (by decide) hk1 hFc hP1 hD1
  generalize H1 = H at hP hS ⊢
  have hP : va_P (dC, dI) vwCl [xo h0 0 [.ref q8, .ref q17, .ref q26, .ref q35, .int (Int32.ofInt 0), .int (Int32.ofInt 0), .int (Int32.ofInt 0), .ref a3], xi cA q8 3341 zz, xi cA q17 3341 zz, xi cA q26 3341 zz, xi cA q35 3341 (fun i => if i < 3341 then Int32.ofInt 192 else zz i)] H := hP
  have hD : va_D A [xo h0 0 [.ref q8, .ref q17, .ref q26, .ref q35, .int (Int32.ofInt 0), .int (Int32.ofInt 0), .int (Int32.ofInt 0), .ref a3], xi cA q8 3341 zz, xi cA q17 3341 zz, xi cA q26 3341 zz, xi cA q35 3341 (fun i => if i < 3341 then Int32.ofInt 192 else zz i)] := hD
  obtain ⟨u, hu⟩ : ∃ u : Nat → Nat, u = fun c => if c = 3 then a3 else if c = 4 then h0 else if c = 17 then q8 else if c = 18 then q17 else if c = 19 then q26 else if c = 20 then q35 else 0 := ⟨_, rfl⟩
  have hw : [xo h0 0 [.ref q8, .ref q17, .ref q26, .ref q35, .int (Int32.ofInt 0), .int (Int32.ofInt 0), .int (Int32.ofInt 0), .ref a3], xi cA q8 3341 zz, xi cA q17 3341 zz, xi cA q26 3341 zz, xi cA q35 3341 (fun i => if i < 3341 then Int32.ofInt 192 else zz i)] = gl u cA zMi [4, 17, 18, 19, 20] := by
    subst hu
    rw [mk_kep]
    exact rfl
  rw [hw] at hP hD
  refine W.widen (k := 4) (n := 13364) (by omega) (by omega) ?_
  exact W.vret hx hb hr (fun t ht hW => ⟨⟨u, rfl, (by subst hu; exact ⟨rfl, rfl⟩), by rw [ht]; exact hP, hD⟩, hS.F ht⟩) hS.2.2 dX1_init_76
