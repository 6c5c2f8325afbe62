def ctT (p : Nat → Bool) (a : Nat) : Nat → Nat
  | 0 => bif p a then 1 else 0
  | d + 1 => Nat.add (Nat.add (ctT p a d) (ctT p (Nat.add a (Nat.pow 3 d)) d)) (ctT p (Nat.add a (Nat.mul 2 (Nat.pow 3 d))) d)
theorem ctT_ok (p : Nat → Bool) : ∀ (d a : Nat), fb_ct p (a + 3 ^ d) = fb_ct p a + ctT p a d
  | 0, a => by
    rw [Nat.pow_zero, fb_ct_succ, ctT]
    cases p a <;> rfl
  | d + 1, a => by
    rw [Nat.pow_succ, show a + 3 ^ d * 3 = (a + 2 * 3 ^ d) + 3 ^ d by omega, ctT_ok p d (a + 2 * 3 ^ d), show a + 2 * 3 ^ d = (a + 3 ^ d) + 3 ^ d by omega, ctT_ok p d (a + 3 ^ d), ctT_ok p d a, ctT]
    show _ = fb_ct p a + (ctT p a d + ctT p (a + 3 ^ d) d + ctT p (a + 2 * 3 ^ d) d)
    rw [show a + 2 * 3 ^ d = (a + 3 ^ d) + 3 ^ d by omega]
    omega
def r3_1 (k : Nat) : Nat := Nat.add (Nat.mul (Nat.add (Nat.mul (Nat.add (Nat.mul (Nat.add (Nat.mul (Nat.add (Nat.mul (Nat.add (Nat.mul (Nat.add (Nat.mul (Nat.add (Nat.mul (Nat.add (Nat.mul (0) 3) (Nat.mod (Nat.add (Nat.mul 2 (Nat.mod (Nat.div k 81) 3)) 1) 3)) 3) (Nat.mod (Nat.add (Nat.mul 2 (Nat.mod (Nat.div k 243) 3)) 1) 3)) 3) (Nat.mod (Nat.add (Nat.mul 2 (Nat.mod (Nat.div k 27) 3)) 1) 3)) 3) (Nat.mod (Nat.add (Nat.mul 2 (Nat.mod (Nat.div k 2187) 3)) 1) 3)) 3) (Nat.mod (Nat.add (Nat.mul 2 (Nat.mod (Nat.div k 6561) 3)) 1) 3)) 3) (Nat.mod (Nat.add (Nat.mul 2 (Nat.mod (Nat.div k 729) 3)) 1) 3)) 3) (Nat.mod (Nat.add (Nat.mul 2 (Nat.mod (Nat.div k 3) 3)) 1) 3)) 3) (Nat.mod (Nat.add (Nat.mul 2 (Nat.mod (Nat.div k 9) 3)) 1) 3)) 3) (Nat.mod (Nat.add (Nat.mul 2 (Nat.mod (Nat.div k 1) 3)) 1) 3)
def r3_2 (k : Nat) : Nat := Nat.add (Nat.mul (Nat.add (Nat.mul (Nat.add (Nat.mul (Nat.add (Nat.mul (Nat.add (Nat.mul (Nat.add (Nat.mul (Nat.add (Nat.mul (Nat.add (Nat.mul (Nat.add (Nat.mul (0) 3) (Nat.mod (Nat.mul 2 (Nat.mod (Nat.div k 6561) 3)) 3)) 3) (Nat.mod (Nat.mul 2 (Nat.mod (Nat.div k 729) 3)) 3)) 3) (Nat.mod (Nat.mul 2 (Nat.mod (Nat.div k 2187) 3)) 3)) 3) (Nat.mod (Nat.mul 2 (Nat.mod (Nat.div k 9) 3)) 3)) 3) (Nat.mod (Nat.mul 2 (Nat.mod (Nat.div k 1) 3)) 3)) 3) (Nat.mod (Nat.mul 2 (Nat.mod (Nat.div k 3) 3)) 3)) 3) (Nat.mod (Nat.mul 2 (Nat.mod (Nat.div k 243) 3)) 3)) 3) (Nat.mod (Nat.mul 2 (Nat.mod (Nat.div k 27) 3)) 3)) 3) (Nat.mod (Nat.mul 2 (Nat.mod (Nat.div k 81) 3)) 3)
def r3_3 (k : Nat) : Nat := Nat.add (Nat.mul (Nat.add (Nat.mul (Nat.add (Nat.mul (Nat.add (Nat.mul (Nat.add (Nat.mul (Nat.add (Nat.mul (Nat.add (Nat.mul (Nat.add (Nat.mul (Nat.add (Nat.mul (0) 3) (Nat.mod (Nat.add (Nat.mul 2 (Nat.mod (Nat.div k 1) 3)) 2) 3)) 3) (Nat.mod (Nat.add (Nat.mul 2 (Nat.mod (Nat.div k 3) 3)) 2) 3)) 3) (Nat.mod (Nat.add (Nat.mul 2 (Nat.mod (Nat.div k 9) 3)) 2) 3)) 3) (Nat.mod (Nat.add (Nat.mul 2 (Nat.mod (Nat.div k 27) 3)) 2) 3)) 3) (Nat.mod (Nat.add (Nat.mul 2 (Nat.mod (Nat.div k 81) 3)) 2) 3)) 3) (Nat.mod (Nat.add (Nat.mul 2 (Nat.mod (Nat.div k 243) 3)) 2) 3)) 3) (Nat.mod (Nat.add (Nat.mul 2 (Nat.mod (Nat.div k 729) 3)) 2) 3)) 3) (Nat.mod (Nat.add (Nat.mul 2 (Nat.mod (Nat.div k 2187) 3)) 2) 3)) 3) (Nat.mod (Nat.add (Nat.mul 2 (Nat.mod (Nat.div k 6561) 3)) 2) 3)
def r3_4 (k : Nat) : Nat := Nat.add (Nat.mul (Nat.add (Nat.mul (Nat.add (Nat.mul (Nat.add (Nat.mul (Nat.add (Nat.mul (Nat.add (Nat.mul (Nat.add (Nat.mul (Nat.add (Nat.mul (Nat.add (Nat.mul (0) 3) (Nat.mod (Nat.add (Nat.mod (Nat.div k 1) 3) 1) 3)) 3) (Nat.mod (Nat.add (Nat.mod (Nat.div k 9) 3) 1) 3)) 3) (Nat.mod (Nat.add (Nat.mod (Nat.div k 3) 3) 1) 3)) 3) (Nat.mod (Nat.add (Nat.mod (Nat.div k 729) 3) 1) 3)) 3) (Nat.mod (Nat.add (Nat.mod (Nat.div k 6561) 3) 1) 3)) 3) (Nat.mod (Nat.add (Nat.mod (Nat.div k 2187) 3) 1) 3)) 3) (Nat.mod (Nat.add (Nat.mod (Nat.div k 27) 3) 1) 3)) 3) (Nat.mod (Nat.add (Nat.mod (Nat.div k 243) 3) 1) 3)) 3) (Nat.mod (Nat.add (Nat.mod (Nat.div k 81) 3) 1) 3)
def r3_5 (k : Nat) : Nat := Nat.add (Nat.mul (Nat.add (Nat.mul (Nat.add (Nat.mul (Nat.add (Nat.mul (Nat.add (Nat.mul (Nat.add (Nat.mul (Nat.add (Nat.mul (Nat.add (Nat.mul (Nat.add (Nat.mul (0) 3) (Nat.mod (Nat.add (Nat.mod (Nat.div k 81) 3) 2) 3)) 3) (Nat.mod (Nat.add (Nat.mod (Nat.div k 27) 3) 2) 3)) 3) (Nat.mod (Nat.add (Nat.mod (Nat.div k 243) 3) 2) 3)) 3) (Nat.mod (Nat.add (Nat.mod (Nat.div k 3) 3) 2) 3)) 3) (Nat.mod (Nat.add (Nat.mod (Nat.div k 1) 3) 2) 3)) 3) (Nat.mod (Nat.add (Nat.mod (Nat.div k 9) 3) 2) 3)) 3) (Nat.mod (Nat.add (Nat.mod (Nat.div k 2187) 3) 2) 3)) 3) (Nat.mod (Nat.add (Nat.mod (Nat.div k 729) 3) 2) 3)) 3) (Nat.mod (Nat.add (Nat.mod (Nat.div k 6561) 3) 2) 3)
def cB3 (k : Nat) : Bool := Nat.ble k (r3_1 k) && Nat.ble k (r3_2 k) && Nat.ble k (r3_3 k) && Nat.ble k (r3_4 k) && Nat.ble k (r3_5 k)
theorem NWaff : (∀ v, v < 3 → NW 1 v = Nat.mod (Nat.add (Nat.mul 2 v) 1) 3) ∧ (∀ v, v < 3 → NW 2 v = Nat.mod (Nat.mul 2 v) 3) ∧ (∀ v, v < 3 → NW 3 v = Nat.mod (Nat.add (Nat.mul 2 v) 2) 3) ∧ (∀ v, v < 3 → NW 4 v = Nat.mod (Nat.add (v) 1) 3) ∧ (∀ v, v < 3 → NW 5 v = Nat.mod (Nat.add (v) 2) 3) := by decide
theorem r3_1_ok (k : Nat) : rho 3 1 k = r3_1 k := by
  have h : ∀ j, NW 1 (dg 3 k j) = _ := fun j => NWaff.1 _ (dg_lt (by decide))
  show encF 3 (rhoF 3 1 k) 9 = _
  simp only [encF]
  simp only [rhoF, h, Nat.reduceDiv, Nat.reduceMod]
  rfl
theorem r3_2_ok (k : Nat) : rho 3 2 k = r3_2 k := by
  have h : ∀ j, NW 2 (dg 3 k j) = _ := fun j => NWaff.2.1 _ (dg_lt (by decide))
  show encF 3 (rhoF 3 2 k) 9 = _
  simp only [encF]
  simp only [rhoF, h, Nat.reduceDiv, Nat.reduceMod]
  rfl
theorem r3_3_ok (k : Nat) : rho 3 3 k = r3_3 k := by
  have h : ∀ j, NW 3 (dg 3 k j) = _ := fun j => NWaff.2.2.1 _ (dg_lt (by decide))
  show encF 3 (rhoF 3 3 k) 9 = _
  simp only [encF]
  simp only [rhoF, h, Nat.reduceDiv, Nat.reduceMod]
  rfl
theorem r3_4_ok (k : Nat) : rho 3 4 k = r3_4 k := by
  have h : ∀ j, NW 4 (dg 3 k j) = _ := fun j => NWaff.2.2.2.1 _ (dg_lt (by decide))
  show encF 3 (rhoF 3 4 k) 9 = _
  simp only [encF]
  simp only [rhoF, h, Nat.reduceDiv, Nat.reduceMod]
  rfl
theorem r3_5_ok (k : Nat) : rho 3 5 k = r3_5 k := by
  have h : ∀ j, NW 5 (dg 3 k j) = _ := fun j => NWaff.2.2.2.2 _ (dg_lt (by decide))
  show encF 3 (rhoF 3 5 k) 9 = _
  simp only [encF]
  simp only [rhoF, h, Nat.reduceDiv, Nat.reduceMod]
  rfl
theorem cB3_ok {k : Nat} (hk : k < 19683) : (lst 3 k == k) = cB3 k := by
  have e : lst 3 k = min (min (min (min (min (rho 3 0 k) (rho 3 1 k)) (rho 3 2 k)) (rho 3 3 k)) (rho 3 4 k)) (rho 3 5 k) := rfl
  rw [e, rho_0 (by right; right; rfl) hk, r3_1_ok, r3_2_ok, r3_3_ok, r3_4_ok, r3_5_ok]
  unfold cB3
  generalize r3_1 k = a
  generalize r3_2 k = b
  generalize r3_3 k = c
  generalize r3_4 k = d
  generalize r3_5 k = e
  have hb : ∀ x : Nat, Nat.ble k x = decide (k ≤ x) := fun x => by
    rcases Nat.lt_or_ge x k with q | q
    · rw [decide_eq_false (by omega)]
      exact Bool.eq_false_iff.mpr (fun h => by have := Nat.le_of_ble_eq_true h; omega)
    · rw [decide_eq_true q]; exact Nat.ble_eq_true_of_le q
  simp only [hb]
  rw [Bool.eq_iff_iff]
  simp only [beq_iff_eq, Bool.and_eq_true, decide_eq_true_eq]
  omega
theorem cc3 : fb_ct (fun k => lst 3 k == k) 19683 = 3330 := by
  rw [fb_ct_cong (q := cB3) (fun k hk => cB3_ok hk)]
  have h := ctT_ok cB3 9 0
  rw [show (0 : Nat) + 3 ^ 9 = 19683 from rfl] at h
  rw [h]
  have h2 : ctT cB3 0 9 = 3330 := by decide +kernel
  rw [h2]
  rfl
theorem cc2 : fb_ct (fun k => lst 2 k == k) 16 = 10 := by decide +kernel
theorem cc1 : fb_ct (fun k => lst 1 k == k) 1 = 1 := by decide +kernel
