/-! what a play that is allowed makes of the picture: side, counts, men, no check of its own; numbers in hands; the order of told plays -/
theorem mkS_side (σ : PS) (c : Nat) : (mkS σ c).2.1 = 1 - σ.2.1 := by
  unfold mkS
  by_cases h : c < 1250
  · rw [if_pos h]; rfl
  · rw [if_neg h]; rfl
theorem mkS_made (σ : PS) (c : Nat) : (mkS σ c).2.2.2 0 = σ.2.2.2 0 + 1 := by
  unfold mkS
  by_cases h : c < 1250
  · rw [if_pos h]; rfl
  · rw [if_neg h]; rfl
theorem mkS_dr (σ : PS) (c : Nat) : (mkS σ c).2.2.2 3 = if c < 1250 then σ.2.2.2 3 else σ.2.2.2 3 + 1 := by
  unfold mkS
  by_cases h : c < 1250
  · rw [if_pos h, if_pos h]; rfl
  · rw [if_neg h, if_neg h]; rfl
theorem alw_safe {σ : PS} {c : Nat} (h : alw σ c = true) : chk (mkS σ c).1 σ.2.1 = false := by
  have h1 := alw_wn h
  have h0 : resS σ c = 0 := of_decide_eq_true h
  unfold resS at h0
  rw [if_neg (fun e => e h1)] at h0
  cases hc : chk (mkS σ c).1 σ.2.1 with
  | false => rfl
  | true =>
    rw [hc, if_pos rfl] at h0
    split at h0 <;> omega
theorem wn_dropH {σ : PS} {c : Nat} (h : ¬ c < 1250) (h0 : wnS σ c = 0) : ¬ σ.2.2.1 (5 * σ.2.1 + ((c - 1250) / 25 + 1) - 1) = 0 := by
  unfold wnS at h0
  rw [if_neg h] at h0
  unfold wndS at h0
  intro e
  rw [if_pos e] at h0
  omega
theorem num_at {f g : Nat → Bool} {p : Nat} (hfg : ∀ q, q ≠ p → g q = f q) : ∀ n, p < n → numN g n + bN (f p) = numN f n + bN (g p)
  | 0, h => absurd h (Nat.not_lt_zero _)
  | n + 1, h => by
    rw [numN_bN, numN_bN]
    by_cases e : p = n
    · subst e
      rw [numN_cong (f := g) (g := f) p (fun t ht => hfg t (by omega))]
      omega
    · have ih := num_at hfg n (by omega)
      rw [hfg n (fun q => e q.symm)]
      omega
theorem bN_ne (x : Nat) : bN (decide (x ≠ 0)) = if x = 0 then 0 else 1 := by
  by_cases h : x = 0
  · rw [if_pos h, decide_eq_false (fun e => e h)]; rfl
  · rw [if_neg h, decide_eq_true h]; rfl
theorem brd_at {b b' : Nat → Nat} {p : Nat} (hp : p < 25) (h : ∀ q, q ≠ p → b' q = b q) : brd b' 25 + (if b p = 0 then 0 else 1) = brd b 25 + (if b' p = 0 then 0 else 1) := by
  have := num_at (f := fun q => decide (b q ≠ 0)) (g := fun q => decide (b' q ≠ 0)) (p := p) (fun q hq => by rw [h q hq]) 25 hp
  rw [bN_ne, bN_ne] at this
  exact this
theorem ar_same {x y z : Nat} (h1 : y + 1 = x + 0) (h2 : z + 0 = y + 1) : z = x := by omega
theorem ar_same2 {x y z : Nat} (h1 : y + 1 = x + 0) (h2 : z + 0 = y + 1) : z = x := by omega
theorem ar_less {x y z : Nat} (h1 : y + 1 = x + 0) (h2 : z + 1 = y + 1) : x = z + 1 := by omega
theorem ar_more {x y : Nat} (h1 : y + 0 = x + 1) : y = x + 1 := by omega
theorem hnd_upd (h : Nat → Int32) {i : Nat} (hi : i < 10) (x : Int32) : hnd (upd h i x) 0 5 + hnd (upd h i x) 5 5 = hnd h 0 5 + hnd h 5 5 + (x - h i) := by
  have : i = 0 ∨ i = 1 ∨ i = 2 ∨ i = 3 ∨ i = 4 ∨ i = 5 ∨ i = 6 ∨ i = 7 ∨ i = 8 ∨ i = 9 := by omega
  rcases this with rfl | rfl | rfl | rfl | rfl | rfl | rfl | rfl | rfl | rfl <;> (simp [hnd, upd]; grind)
theorem men_ar1 (x a b y : Int32) : x + (a + b + (y + 1 - y)) = x + 1 + a + b := by grind
theorem men_ar2 (x a b y : Int32) : x + 1 + (a + b + (y - 1 - y)) = x + a + b := by grind
theorem pkd_ok {x : Nat} (h0 : x ≠ 0) (hk : knd x ≠ 0) : 1 ≤ pkd x ∧ pkd x ≤ 5 := by
  unfold pkd
  have : knd x < 10 := Nat.mod_lt _ (by decide)
  split <;> omega
theorem mkM_men {σ : PS} (hO : OKs σ) {f to : Nat} (hf : f < 25) (ht : to < 25) {pr : Bool} (h0 : wnmS σ.1 σ.2.1 f to pr = 0) : menS (mkM σ f to pr) = menS σ := by
  obtain ⟨g1, g2, g3, g4, g5⟩ := wnmS_0 h0
  obtain ⟨o1, o2⟩ := own_of g1
  have hne : to ≠ f := att_ne hf g2
  have ht1 := hO.2
  have a1 := brd_at (b := σ.1) (b' := sb σ.1 f 0) hf (fun q hq => by unfold sb; rw [if_neg hq])
  have a2 := brd_at (b := sb σ.1 f 0) (b' := (mkM σ f to pr).1) ht (fun q hq => by
    unfold sb
    show (if q = f then 0 else if q = to then _ else σ.1 q) = _
    by_cases e : q = f
    · rw [if_pos e, if_pos e]
    · rw [if_neg e, if_neg e, if_neg hq])
  have e1 : sb σ.1 f 0 f = 0 := by unfold sb; rw [if_pos rfl]
  have e2 : sb σ.1 f 0 to = σ.1 to := by unfold sb; rw [if_neg hne]
  have e3 : ¬ (mkM σ f to pr).1 to = 0 := by
    show ¬ (if to = f then 0 else if to = to then σ.1 f + _ else σ.1 to) = 0
    rw [if_neg hne, if_pos rfl]; omega
  rw [if_neg o1, if_pos e1] at a1
  rw [e2, if_neg e3] at a2
  unfold menS
  by_cases hz : σ.1 to = 0
  · rw [if_pos hz] at a2
    have eh : (mkM σ f to pr).2.2.1 = σ.2.2.1 := if_pos hz
    rw [eh, ar_same2 a1 a2]
  · rw [if_neg hz] at a2
    have eh : (mkM σ f to pr).2.2.1 = upd σ.2.2.1 (5 * σ.2.1 + pkd (σ.1 to) - 1) (σ.2.2.1 (5 * σ.2.1 + pkd (σ.1 to) - 1) + 1) := if_neg hz
    obtain ⟨p1, p2⟩ := pkd_ok hz (g4 hz)
    have hu := hnd_upd σ.2.2.1 (i := 5 * σ.2.1 + pkd (σ.1 to) - 1) (by omega) (σ.2.2.1 (5 * σ.2.1 + pkd (σ.1 to) - 1) + 1)
    rw [eh, ar_less a1 a2, ← nI_1, Int32.add_assoc, hu]
    exact men_ar1 _ _ _ _
theorem mkD_men {σ : PS} (hO : OKs σ) {kd to : Nat} (h1 : 1 ≤ kd) (h5 : kd ≤ 5) (ht : to < 25) (h0 : σ.1 to = 0) : menS (mkD σ kd to) = menS σ := by
  have ht1 := hO.2
  have a1 := brd_at (b := σ.1) (b' := (mkD σ kd to).1) ht (fun q hq => by
    show (if q = to then _ else σ.1 q) = _
    rw [if_neg hq])
  have e3 : ¬ (mkD σ kd to).1 to = 0 := by
    show ¬ (if to = to then 10 * σ.2.1 + kd + 1 else σ.1 to) = 0
    rw [if_pos rfl]; omega
  rw [if_pos h0, if_neg e3] at a1
  have eh : (mkD σ kd to).2.2.1 = upd σ.2.2.1 (5 * σ.2.1 + kd - 1) (σ.2.2.1 (5 * σ.2.1 + kd - 1) - 1) := rfl
  have hu := hnd_upd σ.2.2.1 (i := 5 * σ.2.1 + kd - 1) (by omega) (σ.2.2.1 (5 * σ.2.1 + kd - 1) - 1)
  unfold menS
  rw [eh, ar_more a1, ← nI_1, Int32.add_assoc, hu]
  exact men_ar2 _ _ _ _
theorem mkS_men {σ : PS} (hO : OKs σ) {c : Nat} (hc : c < 1375) (h0 : wnS σ c = 0) : menS (mkS σ c) = menS σ := by
  unfold mkS
  by_cases h : c < 1250
  · rw [if_pos h]
    exact mkM_men hO (by omega) (by omega) (wn_move0 h h0)
  · rw [if_neg h]
    exact mkD_men hO (by omega) (by omega) (by omega) (wn_drop0 h h0)
/-- numbers in hands and drops are small -/
def Bd (σ : PS) (m : Nat) : Prop := (∀ i, i < 10 → ∃ x : Nat, x ≤ 4 + m ∧ σ.2.2.1 i = nI x) ∧ ∃ d : Nat, d ≤ m ∧ σ.2.2.2 3 = nI d
theorem Bd.pos {σ : PS} {m : Nat} (h : Bd σ m) (hm : m ≤ 1000) : ∀ i, i < 10 → 0 ≤ σ.2.2.1 i := fun i hi => by
  obtain ⟨x, h1, h2⟩ := h.1 i hi
  rw [h2]; exact nI_pos' (by omega)
theorem Bd.up {σ : PS} {m : Nat} (h : Bd σ m) : Bd σ (m + 1) := ⟨fun i hi => by
  obtain ⟨x, h1, h2⟩ := h.1 i hi
  exact ⟨x, by omega, h2⟩, by
  obtain ⟨d, h1, h2⟩ := h.2
  exact ⟨d, by omega, h2⟩⟩
theorem bd_upd {h : Nat → Int32} {i : Nat} {y : Int32} {M : Nat} (hh : ∀ j, j < 10 → ∃ x : Nat, x ≤ M ∧ h j = nI x) (hy : ∃ x : Nat, x ≤ M ∧ y = nI x) : ∀ j, j < 10 → ∃ x : Nat, x ≤ M ∧ upd h i y j = nI x := fun j hj => by
  unfold upd
  by_cases e : j = i
  · rw [if_pos e]; exact hy
  · rw [if_neg e]; exact hh j hj
theorem Bd.mk {σ : PS} {m : Nat} (h : Bd σ m) (hm : m ≤ 1000) (hO : OKs σ) {c : Nat} (hc : c < 1375) (h0 : wnS σ c = 0) : Bd (mkS σ c) (m + 1) := by
  obtain ⟨h1, d, h2, h3⟩ := id h
  have ht1 := hO.2
  refine ⟨?_, ?_⟩
  · have big : ∀ j, j < 10 → ∃ x : Nat, x ≤ 4 + (m + 1) ∧ σ.2.2.1 j = nI x := h.up.1
    unfold mkS
    by_cases hcc : c < 1250
    · rw [if_pos hcc]
      obtain ⟨g1, g2, g3, g4, g5⟩ := wnmS_0 (wn_move0 hcc h0)
      by_cases hz : σ.1 (c % 25) = 0
      · rw [show (mkM σ (c % 625 / 25) (c % 25) (decide (625 ≤ c))).2.2.1 = σ.2.2.1 from if_pos hz]
        exact big
      · rw [show (mkM σ (c % 625 / 25) (c % 25) (decide (625 ≤ c))).2.2.1 = _ from if_neg hz]
        obtain ⟨p1, p2⟩ := pkd_ok hz (g4 hz)
        obtain ⟨x, x1, x2⟩ := h1 (5 * σ.2.1 + pkd (σ.1 (c % 25)) - 1) (by omega)
        exact bd_upd big ⟨x + 1, by omega, by rw [x2, nI_1]⟩
    · rw [if_neg hcc]
      have hne := wn_dropH hcc h0
      obtain ⟨x, x1, x2⟩ := h1 (5 * σ.2.1 + ((c - 1250) / 25 + 1) - 1) (by omega)
      have hx : x ≠ 0 := fun e => hne (by rw [x2, e]; rfl)
      exact bd_upd big ⟨x - 1, by omega, by rw [x2, px_m1 (by omega)]⟩
  · rw [mkS_dr]
    by_cases hcc : c < 1250
    · rw [if_pos hcc]; exact ⟨d, by omega, h3⟩
    · rw [if_neg hcc]; exact ⟨d + 1, by omega, by rw [h3, nI_1]⟩
theorem tld_gap : ∀ m, m < 55 → ∀ n, n < 55 → m < n → tld (25 * m) + 25 ≤ tld (25 * n) := by decide +kernel
theorem tld_mono {c d : Nat} (h : c < d) (hd : d < 1375) : tld c < tld d := by
  have e1 := tld_blk (c / 25) (by omega) (c % 25) (by omega)
  have e2 := tld_blk (d / 25) (by omega) (d % 25) (by omega)
  rw [show 25 * (c / 25) + c % 25 = c by omega] at e1
  rw [show 25 * (d / 25) + d % 25 = d by omega] at e2
  rw [e1, e2]
  by_cases e : c / 25 = d / 25
  · rw [e]
    exact Nat.add_lt_add_left (by omega) _
  · have g := tld_gap (c / 25) (by omega) (d / 25) (by omega) (by omega)
    exact Nat.lt_of_lt_of_le (Nat.add_lt_add_left (show c % 25 < 25 by omega) _) (Nat.le_trans g (Nat.le_add_right _ _))
theorem tld_drop {c : Nat} (hc : c < 1375) (h : 20500 < tld c) : ¬ c < 1250 := by
  intro hh
  have := (mpN_eq (f := c % 625 / 25) (to := c % 25) (by omega) (by omega) (decide (625 ≤ c))).1
  unfold tld at h
  rw [if_pos hh] at h
  omega
