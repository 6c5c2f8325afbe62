/-! tables as numbers: digits to the base n, the first one weighs most -/
def dg (n k j : Nat) : Nat := k / n ^ (n * n - 1 - j) % n
def encF (n : Nat) (f : Nat → Nat) : Nat → Nat
  | 0 => 0
  | m + 1 => encF n f m * n + f m
def enc (n : Nat) (f : Nat → Nat) : Nat := encF n f (n * n)
theorem encF_congr {n : Nat} {f g : Nat → Nat} : ∀ {m : Nat}, (∀ j, j < m → f j = g j) → encF n f m = encF n g m
  | 0, _ => rfl
  | m + 1, h => by rw [encF, encF, encF_congr (fun j hj => h j (by omega)), h m (by omega)]
theorem enc_congr {n : Nat} {f g : Nat → Nat} (h : ∀ j, j < n * n → f j = g j) : enc n f = enc n g := encF_congr h
theorem dg_lt {n k j : Nat} (h : 0 < n) : dg n k j < n := Nat.mod_lt _ h
theorem encF_div {n : Nat} {f : Nat → Nat} (hn : 0 < n) (i : Nat) : ∀ s : Nat, (∀ j, i ≤ j → j < i + s → f j < n) → encF n f (i + s) / n ^ s = encF n f i
  | 0, _ => by simp
  | s + 1, h => by
    rw [show i + (s + 1) = (i + s) + 1 from rfl, encF, Nat.pow_succ', ← Nat.div_div_eq_div_mul]
    have hf := h (i + s) (by omega) (by omega)
    rw [show encF n f (i + s) * n + f (i + s) = f (i + s) + n * encF n f (i + s) by rw [Nat.mul_comm, Nat.add_comm], Nat.add_mul_div_left _ _ hn, Nat.div_eq_of_lt hf, Nat.zero_add]
    exact encF_div hn i s (fun j h1 h2 => h j h1 (by omega))
theorem dg_enc {n : Nat} {f : Nat → Nat} (hn : 0 < n) (hf : ∀ j, j < n * n → f j < n) {j : Nat} (hj : j < n * n) : dg n (enc n f) j = f j := by
  unfold dg enc
  have h := encF_div (f := f) hn (j + 1) (n * n - 1 - j) (fun i h1 h2 => hf i (by omega))
  rw [show j + 1 + (n * n - 1 - j) = n * n by omega] at h
  rw [h, encF, Nat.add_comm, Nat.add_mul_mod_self_right, Nat.mod_eq_of_lt (hf j hj)]
theorem encF_dg {n k m : Nat} (hn : 0 < n) (hk : k < n ^ m) : ∀ i, i ≤ m → encF n (fun j => k / n ^ (m - 1 - j) % n) i = k / n ^ (m - i)
  | 0, _ => by rw [encF, Nat.sub_zero, Nat.div_eq_of_lt hk]
  | i + 1, h => by
    rw [encF, encF_dg hn hk i (by omega), show m - i = (m - (i + 1)) + 1 by omega, Nat.pow_succ, ← Nat.div_div_eq_div_mul, show m - 1 - i = m - (i + 1) by omega]
    rw [Nat.mul_comm]
    exact Nat.div_add_mod _ _
theorem enc_dg {n k : Nat} (hn : 0 < n) (hk : k < n ^ (n * n)) : enc n (dg n k) = k := by
  have h := encF_dg hn hk (n * n) (Nat.le_refl _)
  rw [Nat.sub_self, Nat.pow_zero, Nat.div_one] at h
  exact h
theorem encF_lt {n : Nat} {f : Nat → Nat} (hn : 0 < n) : ∀ m, (∀ j, j < m → f j < n) → encF n f m < n ^ m
  | 0, _ => by simp [encF]
  | m + 1, h => by
    have ih := encF_lt hn m (fun j hj => h j (by omega))
    have hf := h m (by omega)
    rw [encF, Nat.pow_succ]
    calc encF n f m * n + f m < encF n f m * n + n := by omega
      _ = (encF n f m + 1) * n := by rw [Nat.succ_mul]
      _ ≤ n ^ m * n := Nat.mul_le_mul_right _ ih
theorem enc_lt {n : Nat} {f : Nat → Nat} (hn : 0 < n) (h : ∀ j, j < n * n → f j < n) : enc n f < n ^ (n * n) := encF_lt hn _ h
theorem dg_ext {n k k' : Nat} (hn : 0 < n) (hk : k < n ^ (n * n)) (hk' : k' < n ^ (n * n)) (h : ∀ j, j < n * n → dg n k j = dg n k' j) : k = k' := by
  rw [← enc_dg hn hk, ← enc_dg hn hk']
  exact enc_congr h
theorem encF_ge {n : Nat} {f : Nat → Nat} (i : Nat) : ∀ s, encF n f i * n ^ s ≤ encF n f (i + s)
  | 0 => by simp
  | s + 1 => by
    have ih := encF_ge (n := n) (f := f) i s
    rw [show i + (s + 1) = (i + s) + 1 from rfl, encF, Nat.pow_succ, ← Nat.mul_assoc]
    exact Nat.le_trans (Nat.mul_le_mul_right _ ih) (Nat.le_add_right _ _)
theorem encF_up {n : Nat} {f : Nat → Nat} (i : Nat) : ∀ s, (∀ j, i ≤ j → j < i + s → f j < n) → encF n f (i + s) < (encF n f i + 1) * n ^ s
  | 0, _ => by simp
  | s + 1, h => by
    have ih := encF_up i s (fun j h1 h2 => h j h1 (by omega))
    have hf := h (i + s) (by omega) (by omega)
    rw [show i + (s + 1) = (i + s) + 1 from rfl, encF, Nat.pow_succ, ← Nat.mul_assoc]
    calc encF n f (i + s) * n + f (i + s) < encF n f (i + s) * n + n := by omega
      _ = (encF n f (i + s) + 1) * n := by rw [Nat.succ_mul]
      _ ≤ (encF n f i + 1) * n ^ s * n := Nat.mul_le_mul_right _ ih
/-- the first digit that differs decides -/
theorem enc_lex {n : Nat} {f g : Nat → Nat} {j : Nat} (hj : j < n * n) (hf : ∀ i, i < n * n → f i < n) (he : ∀ i, i < j → f i = g i) (hlt : f j < g j) : enc n f < enc n g := by
  have h1 := encF_up (n := n) (f := f) (j + 1) (n * n - (j + 1)) (fun i h1 h2 => hf i (by omega))
  have h2 := encF_ge (n := n) (f := g) (j + 1) (n * n - (j + 1))
  rw [show j + 1 + (n * n - (j + 1)) = n * n by omega] at h1 h2
  have h3 : encF n f (j + 1) + 1 ≤ encF n g (j + 1) := by
    rw [encF, encF, encF_congr he]; omega
  unfold enc
  exact Nat.lt_of_lt_of_le h1 (Nat.le_trans (Nat.mul_le_mul_right _ h3) h2)
/-! renamings, by the class's own tables -/
def NW (r v : Nat) : Nat := ([0,1,2,1,0,2,0,2,1,2,1,0,1,2,0,2,0,1] : List Nat).getD (3 * r + v) 0
def OD (r v : Nat) : Nat := ([0,1,2,1,0,2,0,2,1,2,1,0,2,0,1,1,2,0] : List Nat).getD (3 * r + v) 0
def RN (n : Nat) : Nat := ([1,1,2,6] : List Nat).getD n 1
def okn (n : Nat) : Prop := n = 1 ∨ n = 2 ∨ n = 3
theorem okn.pos {n : Nat} (h : okn n) : 0 < n := by rcases h with rfl | rfl | rfl <;> decide
theorem okn.le {n : Nat} (h : okn n) : n ≤ 3 := by rcases h with rfl | rfl | rfl <;> decide
theorem NW_3 : ∀ r, r < 6 → ∀ v, v < 3 → NW r v < 3 ∧ OD r v < 3 ∧ NW r (OD r v) = v ∧ OD r (NW r v) = v := by decide
theorem NW_2 : ∀ r, r < 2 → ∀ v, v < 2 → NW r v < 2 ∧ OD r v < 2 ∧ NW r (OD r v) = v ∧ OD r (NW r v) = v := by decide
theorem NW_1 : ∀ r, r < 1 → ∀ v, v < 1 → NW r v < 1 ∧ OD r v < 1 ∧ NW r (OD r v) = v ∧ OD r (NW r v) = v := by decide
theorem NW_ok {n r v : Nat} (hn : okn n) (hr : r < RN n) (hv : v < n) : NW r v < n ∧ OD r v < n ∧ NW r (OD r v) = v ∧ OD r (NW r v) = v := by
  rcases hn with rfl | rfl | rfl
  · exact NW_1 r hr v hv
  · exact NW_2 r hr v hv
  · exact NW_3 r hr v hv
/-- r behind s -/
def CP (r s : Nat) : Nat := ([0,1,2,3,4,5, 1,0,4,5,2,3, 2,5,0,4,3,1, 3,4,5,0,1,2, 4,3,1,2,5,0, 5,2,3,1,0,4] : List Nat).getD (6 * r + s) 0
theorem CP_3 : ∀ r, r < 6 → ∀ s, s < 6 → CP r s < 6 ∧ ∀ v, v < 3 → NW r (NW s v) = NW (CP r s) v ∧ OD s (OD r v) = OD (CP r s) v := by decide
theorem CP_2 : ∀ r, r < 2 → ∀ s, s < 2 → CP r s < 2 ∧ ∀ v, v < 2 → NW r (NW s v) = NW (CP r s) v ∧ OD s (OD r v) = OD (CP r s) v := by decide
theorem CP_1 : ∀ r, r < 1 → ∀ s, s < 1 → CP r s < 1 ∧ ∀ v, v < 1 → NW r (NW s v) = NW (CP r s) v ∧ OD s (OD r v) = OD (CP r s) v := by decide
theorem CP_ok {n r s : Nat} (hn : okn n) (hr : r < RN n) (hs : s < RN n) : CP r s < RN n ∧ ∀ v, v < n → NW r (NW s v) = NW (CP r s) v ∧ OD s (OD r v) = OD (CP r s) v := by
  rcases hn with rfl | rfl | rfl
  · exact CP_1 r hr s hs
  · exact CP_2 r hr s hs
  · exact CP_3 r hr s hs
/-- what undoes r -/
def IV (r : Nat) : Nat := ([0,1,2,3,5,4] : List Nat).getD r 0
theorem IV_3 : ∀ r, r < 6 → IV r < 6 ∧ CP (IV r) r = 0 ∧ CP r (IV r) = 0 := by decide
theorem IV_ok {n r : Nat} (hn : okn n) (hr : r < RN n) : IV r < RN n ∧ CP (IV r) r = 0 ∧ CP r (IV r) = 0 := by
  rcases hn with rfl | rfl | rfl
  · have : ∀ r, r < 1 → IV r < 1 ∧ CP (IV r) r = 0 ∧ CP r (IV r) = 0 := by decide
    exact this r hr
  · have : ∀ r, r < 2 → IV r < 2 ∧ CP (IV r) r = 0 ∧ CP r (IV r) = 0 := by decide
    exact this r hr
  · exact IV_3 r hr
def rhoF (n r k j : Nat) : Nat := NW r (dg n k (OD r (j / n) * n + OD r (j % n)))
def rho (n r k : Nat) : Nat := enc n (rhoF n r k)
theorem div_lt_n {n j : Nat} (h : j < n * n) : j / n < n := Nat.div_lt_of_lt_mul h
theorem pair_lt {n a b : Nat} (ha : a < n) (hb : b < n) : a * n + b < n * n := by
  calc a * n + b < a * n + n := by omega
    _ = (a + 1) * n := by rw [Nat.succ_mul]
    _ ≤ n * n := Nat.mul_le_mul_right _ ha
theorem pair_div {n a b : Nat} (hb : b < n) : (a * n + b) / n = a := by
  rw [Nat.add_comm, Nat.add_mul_div_right _ _ (by omega), Nat.div_eq_of_lt hb, Nat.zero_add]
theorem pair_mod {n a b : Nat} (hb : b < n) : (a * n + b) % n = b := by
  rw [Nat.add_comm, Nat.add_mul_mod_self_right, Nat.mod_eq_of_lt hb]
theorem pair_eq {n j : Nat} : j / n * n + j % n = j := by rw [Nat.mul_comm]; exact Nat.div_add_mod j n
theorem rhoF_lt {n r k j : Nat} (hn : okn n) (hr : r < RN n) : rhoF n r k j < n := (NW_ok hn hr (dg_lt hn.pos)).1
theorem rho_lt {n r k : Nat} (hn : okn n) (hr : r < RN n) : rho n r k < n ^ (n * n) := enc_lt hn.pos (fun _ _ => rhoF_lt hn hr)
theorem dg_rho {n r k j : Nat} (hn : okn n) (hr : r < RN n) (hj : j < n * n) : dg n (rho n r k) j = rhoF n r k j := dg_enc hn.pos (fun _ _ => rhoF_lt hn hr) hj
theorem rho_rho {n r s k : Nat} (hn : okn n) (hr : r < RN n) (hs : s < RN n) : rho n r (rho n s k) = rho n (CP r s) k := by
  refine enc_congr (fun j hj => ?_)
  have h1 := NW_ok hn hr (div_lt_n hj)
  have h2 := NW_ok hn hr (Nat.mod_lt j hn.pos)
  obtain ⟨-, hc⟩ := CP_ok hn hr hs
  unfold rhoF
  rw [dg_rho hn hs (pair_lt h1.2.1 h2.2.1)]
  unfold rhoF
  rw [pair_div h2.2.1, pair_mod h2.2.1, (hc _ (div_lt_n hj)).2, (hc _ (Nat.mod_lt j hn.pos)).2, (hc _ (dg_lt hn.pos)).1]
theorem NW0_3 : ∀ v, v < 3 → NW 0 v = v ∧ OD 0 v = v := by decide
theorem NW0 {n v : Nat} (hn : okn n) (h : v < n) : NW 0 v = v ∧ OD 0 v = v := NW0_3 v (by have := hn.le; omega)
theorem rho_0 {n k : Nat} (hn : okn n) (hk : k < n ^ (n * n)) : rho n 0 k = k := by
  unfold rho
  rw [enc_congr (g := dg n k) (fun j hj => ?_), enc_dg hn.pos hk]
  unfold rhoF
  rw [(NW0 hn (div_lt_n hj)).2, (NW0 hn (Nat.mod_lt j hn.pos)).2, pair_eq, (NW0 hn (dg_lt hn.pos)).1]
theorem RN_pos {n : Nat} (hn : okn n) : 0 < RN n := by rcases hn with rfl | rfl | rfl <;> decide
/-- the least number by other names -/
def lstF (n k : Nat) : Nat → Nat
  | 0 => rho n 0 k
  | m + 1 => min (lstF n k m) (rho n (m + 1) k)
def lst (n k : Nat) : Nat := lstF n k (RN n - 1)
theorem lstF_le {n k : Nat} : ∀ {m r : Nat}, r ≤ m → lstF n k m ≤ rho n r k
  | 0, r, h => by rw [show r = 0 by omega]; exact Nat.le_refl _
  | m + 1, r, h => by
    rcases Nat.lt_or_ge m r with q | q
    · rw [show r = m + 1 by omega]; exact Nat.min_le_right _ _
    · exact Nat.le_trans (Nat.min_le_left _ _) (lstF_le q)
theorem lstF_is {n k : Nat} : ∀ m, ∃ r, r ≤ m ∧ lstF n k m = rho n r k
  | 0 => ⟨0, Nat.le_refl _, rfl⟩
  | m + 1 => by
    obtain ⟨r, h1, h2⟩ := lstF_is (n := n) (k := k) m
    rcases Nat.le_total (lstF n k m) (rho n (m + 1) k) with q | q
    · exact ⟨r, by omega, by rw [lstF, Nat.min_eq_left q, h2]⟩
    · exact ⟨m + 1, Nat.le_refl _, by rw [lstF, Nat.min_eq_right q]⟩
theorem lst_le {n k r : Nat} (hr : r < RN n) : lst n k ≤ rho n r k := lstF_le (by omega)
theorem lst_is {n k : Nat} (hn : okn n) : ∃ r, r < RN n ∧ lst n k = rho n r k := by
  obtain ⟨r, h1, h2⟩ := lstF_is (n := n) (k := k) (RN n - 1)
  exact ⟨r, by have := RN_pos hn; omega, h2⟩
theorem lst_rho {n k r : Nat} (hn : okn n) (hr : r < RN n) : lst n (rho n r k) = lst n k := by
  apply Nat.le_antisymm
  · obtain ⟨s, h1, h2⟩ := lst_is (k := k) hn
    obtain ⟨h3, h4, h5⟩ := IV_ok hn hr
    have h6 := (CP_ok hn h1 h3).1
    have h7 := lst_le (k := rho n r k) h6
    rw [rho_rho hn h6 hr] at h7
    have h8 : rho n (CP (CP s (IV r)) r) k = rho n s k := by
      rw [← rho_rho hn h6 hr, ← rho_rho hn h1 h3, rho_rho hn h3 hr, h4, rho_rho hn h1 (RN_pos hn)]
      have : CP s 0 = s := by
        have e : ∀ s, s < 6 → CP s 0 = s := by decide
        refine e s ?_
        rcases hn with rfl | rfl | rfl
        · exact Nat.lt_of_lt_of_le h1 (by decide)
        · exact Nat.lt_of_lt_of_le h1 (by decide)
        · exact h1
      rw [this]
    rw [h2, ← h8]
    exact h7
  · obtain ⟨s, h1, h2⟩ := lst_is (k := rho n r k) hn
    rw [h2, rho_rho hn h1 hr]
    exact lst_le (CP_ok hn h1 hr).1
theorem lst_lst {n k : Nat} (hn : okn n) : lst n (lst n k) = lst n k := by
  obtain ⟨r, h1, h2⟩ := lst_is (k := k) hn
  rw [h2, lst_rho hn h1, h2]
theorem lst_lt {n k : Nat} (hn : okn n) : lst n k < n ^ (n * n) := by
  obtain ⟨r, h1, h2⟩ := lst_is (k := k) hn
  rw [h2]; exact rho_lt hn h1
theorem lst_self {n k : Nat} (hn : okn n) (hk : k < n ^ (n * n)) : lst n k ≤ k := by
  have h := lst_le (n := n) (k := k) (RN_pos hn)
  rw [rho_0 hn hk] at h
  exact h
/-- a world turned about -/
def tauF (n k j : Nat) : Nat := dg n k (j % n * n + j / n)
def tau (n k : Nat) : Nat := enc n (tauF n k)
theorem tau_lt {n k : Nat} (hn : okn n) : tau n k < n ^ (n * n) := enc_lt hn.pos (fun _ _ => dg_lt hn.pos)
theorem dg_tau {n k j : Nat} (hn : okn n) (hj : j < n * n) : dg n (tau n k) j = tauF n k j := dg_enc hn.pos (fun _ _ => dg_lt hn.pos) hj
theorem tau_rho {n r k : Nat} (hn : okn n) (hr : r < RN n) : tau n (rho n r k) = rho n r (tau n k) := by
  refine enc_congr (fun j hj => ?_)
  have h1 := NW_ok hn hr (div_lt_n hj)
  have h2 := NW_ok hn hr (Nat.mod_lt j hn.pos)
  unfold tauF rhoF
  rw [dg_rho hn hr (pair_lt (Nat.mod_lt j hn.pos) (div_lt_n hj)), dg_tau hn (pair_lt h1.2.1 h2.2.1)]
  unfold rhoF tauF
  rw [pair_div (div_lt_n hj), pair_mod (div_lt_n hj), pair_div h2.2.1, pair_mod h2.2.1]
