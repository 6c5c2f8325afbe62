/-! terms: what comes out, and what stands in them -/
def evF (L R : Nat → Nat) (op : Nat → Nat → Nat) (x y z : Nat) : Nat → Nat → Nat
  | 0, _ => 0
  | f + 1, t => if t = 0 then x else if t = 1 then y else if t = 2 then z else op (evF L R op x y z f (L t)) (evF L R op x y z f (R t))
def wfT (L R : Nat → Nat) (T : Nat) : Prop := ∀ t, 3 ≤ t → t < T → L t < t ∧ R t < t
def ev (L R : Nat → Nat) (n k x y z t : Nat) : Nat := evF L R (fun a b => dg n k (a * n + b)) x y z (t + 1) t
theorem evF_fuel {L R : Nat → Nat} {op : Nat → Nat → Nat} {x y z T : Nat} (hw : wfT L R T) : ∀ (f g t : Nat), t < f → t < g → t < T → evF L R op x y z f t = evF L R op x y z g t
  | 0, _, _, h, _, _ => by omega
  | _, 0, _, _, h, _ => by omega
  | f + 1, g + 1, t, h1, h2, h3 => by
    rw [evF, evF]
    by_cases h : 3 ≤ t
    · obtain ⟨hl, hr⟩ := hw t h h3
      rw [evF_fuel hw f g (L t) (by omega) (by omega) (by omega), evF_fuel hw f g (R t) (by omega) (by omega) (by omega)]
    · rcases (show t = 0 ∨ t = 1 ∨ t = 2 by omega) with rfl | rfl | rfl <;> rfl
theorem ev_0 {L R : Nat → Nat} {n k x y z : Nat} : ev L R n k x y z 0 = x := rfl
theorem ev_1 {L R : Nat → Nat} {n k x y z : Nat} : ev L R n k x y z 1 = y := rfl
theorem ev_2 {L R : Nat → Nat} {n k x y z : Nat} : ev L R n k x y z 2 = z := rfl
theorem ev_rec {L R : Nat → Nat} {n k x y z T t : Nat} (hw : wfT L R T) (h3 : 3 ≤ t) (ht : t < T) : ev L R n k x y z t = dg n k (ev L R n k x y z (L t) * n + ev L R n k x y z (R t)) := by
  obtain ⟨hl, hr⟩ := hw t h3 ht
  unfold ev
  rw [evF, if_neg (by omega), if_neg (by omega), if_neg (by omega), evF_fuel hw t (L t + 1) (L t) hl (by omega) (by omega), evF_fuel hw t (R t + 1) (R t) hr (by omega) (by omega)]
theorem ev_ind {L R : Nat → Nat} {T : Nat} (hw : wfT L R T) (P : Nat → Prop) (h0 : P 0) (h1 : P 1) (h2 : P 2) (hs : ∀ t, 3 ≤ t → t < T → P (L t) → P (R t) → P t) : ∀ t, t < T → P t := by
  intro t
  induction t using Nat.strongRecOn with
  | ind t ih =>
    intro ht
    by_cases h : 3 ≤ t
    · obtain ⟨hl, hr⟩ := hw t h ht
      exact hs t h ht (ih _ hl (by omega)) (ih _ hr (by omega))
    · rcases (show t = 0 ∨ t = 1 ∨ t = 2 by omega) with rfl | rfl | rfl <;> assumption
theorem ev_lt {L R : Nat → Nat} {n k x y z T t : Nat} (hw : wfT L R T) (hn : 0 < n) (hx : x < n) (hy : y < n) (hz : z < n) (ht : t < T) : ev L R n k x y z t < n :=
  ev_ind hw (fun t => ev L R n k x y z t < n) hx hy hz (fun t h3 ht _ _ => by show ev L R n k x y z t < n; rw [ev_rec hw h3 ht]; exact dg_lt hn) t ht
theorem wfT.mono {L R : Nat → Nat} {T U : Nat} (h : wfT L R T) (hU : U ≤ T) : wfT L R U := fun t h3 ht => h t h3 (by omega)
theorem wfT.congr {L R L' R' : Nat → Nat} {T : Nat} (h : wfT L R T) (he : ∀ t, 3 ≤ t → t < T → L' t = L t ∧ R' t = R t) : wfT L' R' T := fun t h3 ht => by
  rw [(he t h3 ht).1, (he t h3 ht).2]; exact h t h3 ht
theorem ev_congr {L R L' R' : Nat → Nat} {n k x y z T t : Nat} (hw : wfT L R T) (he : ∀ t, 3 ≤ t → t < T → L' t = L t ∧ R' t = R t) (ht : t < T) : ev L' R' n k x y z t = ev L R n k x y z t :=
  ev_ind hw (fun t => ev L' R' n k x y z t = ev L R n k x y z t) rfl rfl rfl (fun t h3 ht hl hr => by
    show ev L' R' n k x y z t = ev L R n k x y z t
    rw [ev_rec hw h3 ht, ev_rec (hw.congr he) h3 ht, (he t h3 ht).1, (he t h3 ht).2, hl, hr]) t ht
/-- which terms stand in a term, as bits -/
def ndF (L R : Nat → Nat) : Nat → Nat → Nat
  | 0, _ => 0
  | f + 1, t => if t < 3 then 2 ^ t else (2 ^ t ||| ndF L R f (L t)) ||| ndF L R f (R t)
def nd (L R : Nat → Nat) (t : Nat) : Nat := ndF L R (t + 1) t
theorem ndF_fuel {L R : Nat → Nat} {T : Nat} (hw : wfT L R T) : ∀ (f g t : Nat), t < f → t < g → t < T → ndF L R f t = ndF L R g t
  | 0, _, _, h, _, _ => by omega
  | _, 0, _, _, h, _ => by omega
  | f + 1, g + 1, t, h1, h2, h3 => by
    rw [ndF, ndF]
    by_cases h : 3 ≤ t
    · obtain ⟨hl, hr⟩ := hw t h h3
      rw [ndF_fuel hw f g (L t) (by omega) (by omega) (by omega), ndF_fuel hw f g (R t) (by omega) (by omega) (by omega)]
    · rw [if_pos (by omega), if_pos (by omega)]
theorem nd_l {L R : Nat → Nat} {t : Nat} (h : t < 3) : nd L R t = 2 ^ t := by unfold nd; rw [ndF, if_pos h]
theorem nd_rec {L R : Nat → Nat} {T t : Nat} (hw : wfT L R T) (h3 : 3 ≤ t) (ht : t < T) : nd L R t = (2 ^ t ||| nd L R (L t)) ||| nd L R (R t) := by
  obtain ⟨hl, hr⟩ := hw t h3 ht
  unfold nd
  rw [ndF, if_neg (by omega), ndF_fuel hw t (L t + 1) (L t) hl (by omega) (by omega), ndF_fuel hw t (R t + 1) (R t) hr (by omega) (by omega)]
theorem nd_congr {L R L' R' : Nat → Nat} {T t : Nat} (hw : wfT L R T) (he : ∀ t, 3 ≤ t → t < T → L' t = L t ∧ R' t = R t) (ht : t < T) : nd L' R' t = nd L R t :=
  ev_ind hw (fun t => nd L' R' t = nd L R t) (by rw [nd_l (by omega), nd_l (by omega)]) (by rw [nd_l (by omega), nd_l (by omega)]) (by rw [nd_l (by omega), nd_l (by omega)]) (fun t h3 ht hl hr => by
    show nd L' R' t = nd L R t
    rw [nd_rec hw h3 ht, nd_rec (hw.congr he) h3 ht, (he t h3 ht).1, (he t h3 ht).2, hl, hr]) t ht
theorem nd_self {L R : Nat → Nat} {T t : Nat} (hw : wfT L R T) (ht : t < T) : (nd L R t).testBit t = true := by
  by_cases h : 3 ≤ t
  · rw [nd_rec hw h ht, Nat.testBit_or, Nat.testBit_or, Nat.testBit_two_pow_self]; rfl
  · rw [nd_l (by omega), Nat.testBit_two_pow_self]
theorem nd_lt {L R : Nat → Nat} {T t : Nat} (hw : wfT L R T) (ht : t < T) : nd L R t < 2 ^ (t + 1) := by
  induction t using Nat.strongRecOn with
  | ind t ih =>
    by_cases h : 3 ≤ t
    · obtain ⟨hl, hr⟩ := hw t h ht
      rw [nd_rec hw h ht]
      have p1 : 2 ^ (L t + 1) ≤ 2 ^ (t + 1) := Nat.pow_le_pow_right (by decide) (by omega)
      have p2 : 2 ^ (R t + 1) ≤ 2 ^ (t + 1) := Nat.pow_le_pow_right (by decide) (by omega)
      exact Nat.or_lt_two_pow (Nat.or_lt_two_pow (Nat.pow_lt_pow_right (by decide) (by omega)) (Nat.lt_of_lt_of_le (ih _ hl (by omega)) p1)) (Nat.lt_of_lt_of_le (ih _ hr (by omega)) p2)
    · rw [nd_l (by omega)]; exact Nat.pow_lt_pow_right (by decide) (by omega)
theorem nd_closed {L R : Nat → Nat} {T t : Nat} (hw : wfT L R T) (ht : t < T) : ∀ u, (nd L R t).testBit u = true → u ≤ t ∧ (3 ≤ u → (nd L R t).testBit (L u) = true ∧ (nd L R t).testBit (R u) = true) := by
  induction t using Nat.strongRecOn with
  | ind t ih =>
    intro u hu
    by_cases h : 3 ≤ t
    · obtain ⟨hl, hr⟩ := hw t h ht
      rw [nd_rec hw h ht, Nat.testBit_or, Nat.testBit_or, Nat.testBit_two_pow, Bool.or_eq_true, Bool.or_eq_true, decide_eq_true_eq] at hu
      rcases hu with (rfl | hu) | hu
      · refine ⟨Nat.le_refl _, fun _ => ?_⟩
        rw [nd_rec hw h ht, Nat.testBit_or, Nat.testBit_or, Nat.testBit_or, Nat.testBit_or, nd_self hw (t := L t) (by omega), nd_self hw (t := R t) (by omega)]
        simp
      · obtain ⟨h1, h2⟩ := ih _ hl (by omega) u hu
        refine ⟨by omega, fun h3 => ?_⟩
        rw [nd_rec hw h ht, Nat.testBit_or, Nat.testBit_or, Nat.testBit_or, Nat.testBit_or, (h2 h3).1, (h2 h3).2]
        simp
      · obtain ⟨h1, h2⟩ := ih _ hr (by omega) u hu
        refine ⟨by omega, fun h3 => ?_⟩
        rw [nd_rec hw h ht, Nat.testBit_or, Nat.testBit_or, Nat.testBit_or, Nat.testBit_or, (h2 h3).1, (h2 h3).2]
        simp
    · rw [nd_l (by omega), Nat.testBit_two_pow, decide_eq_true_eq] at hu
      subst hu
      exact ⟨Nat.le_refl _, fun h3 => by omega⟩
/-- a letter that does not stand in a term does not matter to it -/
theorem ev_indep {L R : Nat → Nat} {n k x y z x' y' z' T t : Nat} (hw : wfT L R T) (ht : t < T) (hx : (nd L R t).testBit 0 = true → x = x') (hy : (nd L R t).testBit 1 = true → y = y') (hz : (nd L R t).testBit 2 = true → z = z') : ev L R n k x y z t = ev L R n k x' y' z' t := by
  revert hx hy hz
  refine ev_ind hw (fun t => ((nd L R t).testBit 0 = true → x = x') → ((nd L R t).testBit 1 = true → y = y') → ((nd L R t).testBit 2 = true → z = z') → ev L R n k x y z t = ev L R n k x' y' z' t) ?_ ?_ ?_ ?_ t ht
  · intro h _ _; exact h (by rw [nd_l (by omega)]; rfl)
  · intro _ h _; exact h (by rw [nd_l (by omega)]; rfl)
  · intro _ _ h; exact h (by rw [nd_l (by omega)]; rfl)
  · intro t h3 ht hl hr hx hy hz
    rw [nd_rec hw h3 ht] at hx hy hz
    simp only [Nat.testBit_or, Bool.or_eq_true] at hx hy hz
    show ev L R n k x y z t = ev L R n k x' y' z' t
    rw [ev_rec hw h3 ht, ev_rec hw h3 ht, hl (fun h => hx (Or.inl (Or.inr h))) (fun h => hy (Or.inl (Or.inr h))) (fun h => hz (Or.inl (Or.inr h))), hr (fun h => hx (Or.inr h)) (fun h => hy (Or.inr h)) (fun h => hz (Or.inr h))]
/-- a world keeps a law -/
def kp (L R : Nat → Nat) (n k a b : Nat) : Bool := decide (∀ x, x < n → ∀ y, y < n → ∀ z, z < n → ev L R n k x y z a = ev L R n k x y z b)
theorem kp_congr {L R L' R' : Nat → Nat} {n k T a b : Nat} (hw : wfT L R T) (he : ∀ t, 3 ≤ t → t < T → L' t = L t ∧ R' t = R t) (ha : a < T) (hb : b < T) : kp L' R' n k a b = kp L R n k a b := by
  unfold kp
  simp only [ev_congr hw he ha, ev_congr hw he hb]
theorem dg_rho_op {n r k a b : Nat} (hn : okn n) (hr : r < RN n) (ha : a < n) (hb : b < n) : dg n (rho n r k) (NW r a * n + NW r b) = NW r (dg n k (a * n + b)) := by
  have h1 := NW_ok hn hr ha
  have h2 := NW_ok hn hr hb
  rw [dg_rho hn hr (pair_lt h1.1 h2.1)]
  unfold rhoF
  rw [pair_div h2.1, pair_mod h2.1, h1.2.2.2, h2.2.2.2]
theorem ev_rho {L R : Nat → Nat} {n r k x y z T t : Nat} (hw : wfT L R T) (hn : okn n) (hr : r < RN n) (hx : x < n) (hy : y < n) (hz : z < n) (ht : t < T) : ev L R n (rho n r k) (NW r x) (NW r y) (NW r z) t = NW r (ev L R n k x y z t) :=
  ev_ind hw (fun t => ev L R n (rho n r k) (NW r x) (NW r y) (NW r z) t = NW r (ev L R n k x y z t)) rfl rfl rfl (fun t h3 ht hl hr2 => by
    show ev L R n (rho n r k) (NW r x) (NW r y) (NW r z) t = NW r (ev L R n k x y z t)
    obtain ⟨q1, q2⟩ := hw t h3 ht
    rw [ev_rec hw h3 ht, ev_rec hw h3 ht, hl, hr2, dg_rho_op hn hr (ev_lt hw hn.pos hx hy hz (by omega)) (ev_lt hw hn.pos hx hy hz (by omega))]) t ht
theorem kp_rho {L R : Nat → Nat} {n r k T a b : Nat} (hw : wfT L R T) (hn : okn n) (hr : r < RN n) (ha : a < T) (hb : b < T) : kp L R n (rho n r k) a b = kp L R n k a b := by
  unfold kp
  apply decide_eq_decide.mpr
  constructor
  · intro h x hx y hy z hz
    have h1 := h _ (NW_ok hn hr hx).1 _ (NW_ok hn hr hy).1 _ (NW_ok hn hr hz).1
    rw [ev_rho hw hn hr hx hy hz ha, ev_rho hw hn hr hx hy hz hb] at h1
    have h2 := congrArg (OD r) h1
    rw [(NW_ok hn hr (ev_lt hw hn.pos hx hy hz ha)).2.2.2, (NW_ok hn hr (ev_lt hw hn.pos hx hy hz hb)).2.2.2] at h2
    exact h2
  · intro h x hx y hy z hz
    obtain ⟨-, x1, x2, -⟩ := NW_ok hn hr hx
    obtain ⟨-, y1, y2, -⟩ := NW_ok hn hr hy
    obtain ⟨-, z1, z2, -⟩ := NW_ok hn hr hz
    have h1 := h _ x1 _ y1 _ z1
    have h2 := congrArg (NW r) h1
    rw [← ev_rho hw hn hr x1 y1 z1 ha, ← ev_rho hw hn hr x1 y1 z1 hb, x2, y2, z2] at h2
    exact h2
/-- bits of a row of yeses -/
def bm (f : Nat → Bool) : Nat → Nat
  | 0 => 0
  | m + 1 => bm f m + if f m then 2 ^ m else 0
theorem bm_lt (f : Nat → Bool) : ∀ m, bm f m < 2 ^ m
  | 0 => by simp [bm]
  | m + 1 => by
    have := bm_lt f m
    rw [bm, Nat.pow_succ]
    split <;> omega
theorem bm_bit (f : Nat → Bool) : ∀ m i, (bm f m).testBit i = (decide (i < m) && f i)
  | 0, i => by simp [bm]
  | m + 1, i => by
    have h := bm_lt f m
    rw [bm]
    by_cases hf : f m = true
    · rw [if_pos hf, Nat.add_comm]
      rcases Nat.lt_trichotomy i m with q | q | q
      · rw [Nat.testBit_two_pow_add_gt q, bm_bit f m i]
        have : (i < m + 1) ↔ (i < m) := by omega
        simp [this]
      · subst q
        rw [Nat.testBit_two_pow_add_eq, bm_bit f i i]
        simp [hf]
      · have h2 : 2 ^ m + bm f m < 2 ^ (m + 1) := by rw [Nat.pow_succ]; omega
        have h3 : 2 ^ (m + 1) ≤ 2 ^ i := Nat.pow_le_pow_right (by decide) (by omega)
        rw [Nat.testBit_lt_two_pow (by omega)]
        have : ¬ (i < m + 1) := by omega
        simp [this]
    · rw [if_neg hf, Nat.add_zero, bm_bit f m i]
      by_cases hi : i = m
      · subst hi; simp [hf]
      · have : (i < m + 1) ↔ (i < m) := by omega
        simp [this]
theorem bm_congr {f g : Nat → Bool} : ∀ {m : Nat}, (∀ j, j < m → f j = g j) → bm f m = bm g m
  | 0, _ => rfl
  | m + 1, h => by rw [bm, bm, bm_congr (fun j hj => h j (by omega)), h m (by omega)]
theorem bm_or (f : Nat → Bool) {m : Nat} (hf : f m = true) : bm f m ||| 2 ^ m = bm f (m + 1) := by
  apply Nat.eq_of_testBit_eq
  intro i
  rw [Nat.testBit_or, bm_bit, bm_bit, Nat.testBit_two_pow]
  rcases Nat.lt_trichotomy i m with q | q | q
  · have h1 : i < m + 1 := by omega
    have h2 : ¬ m = i := by omega
    simp [q, h1, h2]
  · subst q; simp [hf]
  · have h1 : ¬ i < m + 1 := by omega
    have h2 : ¬ m = i := by omega
    have h3 : ¬ i < m := by omega
    simp [h1, h2, h3]
theorem bm_skip (f : Nat → Bool) {m : Nat} (hf : f m = false) : bm f (m + 1) = bm f m := by rw [bm, hf]; rfl
theorem bm_ext {a : Nat} {f : Nat → Bool} {m : Nat} (ha : a < 2 ^ m) (h : ∀ i, i < m → a.testBit i = f i) : a = bm f m := by
  apply Nat.eq_of_testBit_eq
  intro i
  rw [bm_bit]
  by_cases hi : i < m
  · simp [hi, h i hi]
  · rw [Nat.testBit_lt_two_pow (Nat.lt_of_lt_of_le ha (Nat.pow_le_pow_right (by decide) (by omega)))]
    simp [hi]
