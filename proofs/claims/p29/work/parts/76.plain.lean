/-! the law's small methods -/
theorem bt31 {x : Int32} (h : bt x 31 = false) : ¬ x < 0 := by
  intro hx
  have h1 := Int32.lt_iff_toInt_lt.mp hx
  have e : (0 : Int32).toInt = 0 := rfl
  have h2 : x.toInt < 0 := by omega
  have h3 : x.toBitVec.msb = true := by rw [BitVec.msb_eq_toInt]; exact decide_eq_true h2
  rw [BitVec.msb_eq_getLsbD_last] at h3
  have h4 : bt x 31 = true := h3
  rw [h] at h4; cases h4
theorem D_low (a : Int32) {n : Nat} (h1 : 1 ≤ n) (h2 : n < 2 ^ 31) (w : mvW) : ∃ r, r < n ∧ f_L_low a (nI n) w = some (nI r, w) := by
  have hb : bt (a &&& 2147483647) 31 = false := by
    rw [b_and, show bt (2147483647 : Int32) 31 = false from by decide +kernel, Bool.and_false]
  obtain ⟨m, hm, e⟩ := nI_of (bt31 hb)
  refine ⟨m % n, Nat.mod_lt _ (by omega), ?_⟩
  unfold f_L_low
  rw [if_neg (nI_ne0 (by omega) h2), e, pk_rem hm (by omega) h2]
theorem D_lworth {j : Nat} (hj : j < 10) (w : mvW) : f_L_worth (nI j) w = some (wt j, w) := by
  have : j = 0 ∨ j = 1 ∨ j = 2 ∨ j = 3 ∨ j = 4 ∨ j = 5 ∨ j = 6 ∨ j = 7 ∨ j = 8 ∨ j = 9 := by omega
  rcases this with rfl | rfl | rfl | rfl | rfl | rfl | rfl | rfl | rfl | rfl <;> rfl
def mnI (x : Nat) : Int32 := if x = 0 then -1005 else nI (x - 1)
theorem mn_king : ∀ x, x ≤ 20 → ∀ s, s < 2 → (mnI x = 10 * nI s ↔ x = 10 * s + 1) := by decide +kernel
theorem mn_none : ∀ x, x ≤ 20 → (mnI x = -1005 ↔ x = 0) ∧ (mnI x < 0 ↔ x = 0) := by decide +kernel
theorem mn_f1 : ∀ x, x ≤ 20 → x ≠ 0 → mnI x ≤ 19 ∧ (10 ≤ mnI x ↔ (x - 1) / 10 ≠ 0) ∧ ((x - 1) / 10 ≠ 0 → mnI x - 10 = nI (knd x)) ∧ ((x - 1) / 10 = 0 → mnI x = nI (knd x)) := by decide +kernel
theorem mn_f2 : ∀ x, x ≤ 20 → x ≠ 0 → (mnI x - mnI x / 10 * 10 = 0 ↔ x = 1 ∨ x = 11) ∧ (x = 1 → 1 + 9 * (mnI x / 10) = nI 1) := by decide +kernel
theorem mn_f3 : ∀ x, x ≤ 20 → x ≠ 0 → (x = 11 → 1 + 9 * (mnI x / 10) = nI 10) ∧ mnI x / 10 = nI ((x - 1) / 10) := by decide +kernel
theorem mn_facts (x : Nat) (h : x ≤ 20) (h0 : x ≠ 0) : mnI x ≤ 19 ∧ (10 ≤ mnI x ↔ (x - 1) / 10 ≠ 0) ∧ ((x - 1) / 10 ≠ 0 → mnI x - 10 = nI (knd x)) ∧ ((x - 1) / 10 = 0 → mnI x = nI (knd x)) ∧ (mnI x - mnI x / 10 * 10 = 0 ↔ x = 1 ∨ x = 11) ∧ (x = 1 → 1 + 9 * (mnI x / 10) = nI 1) ∧ (x = 11 → 1 + 9 * (mnI x / 10) = nI 10) ∧ mnI x / 10 = nI ((x - 1) / 10) := by
  obtain ⟨a1, a2, a3, a4⟩ := mn_f1 x h h0
  obtain ⟨a5, a6⟩ := mn_f2 x h h0
  obtain ⟨a7, a8⟩ := mn_f3 x h h0
  exact ⟨a1, a2, a3, a4, a5, a6, a7, a8⟩
def kgB (b : Nat → Nat) (s : Nat) : Nat → Int32
  | 0 => -1
  | n + 1 => if b n = 10 * s + 1 then nI n else kgB b s n
theorem kgB_no {b : Nat → Nat} {s : Nat} : ∀ n, (∀ r, r < n → b r ≠ 10 * s + 1) → kgB b s n = -1
  | 0, _ => rfl
  | n + 1, h => by rw [kgB, if_neg (h n (by omega))]; exact kgB_no n (fun r hr => h r (by omega))
theorem kgB_at {b : Nat → Nat} {s p : Nat} (hb : b p = 10 * s + 1) : ∀ n, (∀ r, r < n → b r = 10 * s + 1 → r = p) → p < n → kgB b s n = nI p
  | 0, _, h => absurd h (Nat.not_lt_zero _)
  | n + 1, h, hp => by
    rw [kgB]
    by_cases e : b n = 10 * s + 1
    · rw [if_pos e, h n (by omega) e]
    · rw [if_neg e]
      have : p ≠ n := fun q => e (q ▸ hb)
      exact kgB_at hb n (fun r hr => h r (by omega)) (by omega)
theorem kgB_eq {b : Nat → Nat} {s : Nat} (hU : KU b) (hs : s < 2) : kgB b s 25 = kgI b s := by
  cases hk : kg b s with
  | none => rw [kgI_none hk]; exact kgB_no 25 (kg_none hk)
  | some p =>
    obtain ⟨hp, hb⟩ := kg_some hk
    rw [kgI_some hk]
    exact kgB_at hb 25 (fun r hr h => hU s hs r p hr hp h hb) hp
def menS (σ : PS) : Int32 := nI (brd σ.1 25) + hnd σ.2.2.1 0 5 + hnd σ.2.2.1 5 5
section PL
variable {w : mvW} {σ : PS} {k : Nat} {hs : Nat → PS}
theorem D_manI (h : IV w σ k hs) {q : Nat} (hq : q < 25) : f_X4_man (nI q) w = some (mnI (σ.1 q), w) := D_man h hq
theorem D_men (h : IV w σ k hs) : f_L_men_0 w = some (menS σ, w) := by
  unfold f_L_men_0
  rw [D_total1 h, Option.bind_some]
  try dsimp only
  rw [D_total2 h, Option.bind_some]
  try dsimp only
  rw [D_total3 h, Option.bind_some]; rfl
theorem D_king (h : IV w σ k hs) {s : Nat} (hs2 : s < 2) : f_L_king_0 (nI s) w = some (kgI σ.1 s, w) := by
  have loop : ∀ j i N, i + j = 25 → j + 1 ≤ N → f_L_king_0_4 N (nI s) (kgB σ.1 s i) (nI i) w = some (kgB σ.1 s 25, w) := by
    intro j
    induction j with
    | zero =>
      intro i N hi hN
      obtain ⟨n, rfl⟩ : ∃ n, N = n + 1 := ⟨N - 1, by omega⟩
      have : i = 25 := by omega
      subst this
      rw [f_L_king_0_4, if_pos (by decide)]
    | succ j ih =>
      intro i N hi hN
      obtain ⟨n, rfl⟩ : ∃ n, N = n + 1 := ⟨N - 1, by omega⟩
      have hi25 : i < 25 := by omega
      have r := ih (i + 1) n (by omega) (by omega)
      rw [f_L_king_0_4, if_neg (q_nle (L := 25) (b := 25) rfl hi25 (by omega)), D_manI h hi25, Option.bind_some]
      try dsimp only
      rw [nI_1]
      rw [kgB] at r
      have key := mn_king (σ.1 i) (h.1.2.2.2.1 i hi25) s hs2
      by_cases e : σ.1 i = 10 * s + 1
      · rw [if_neg (fun hh => hh (key.mpr e))]
        rw [if_pos e] at r; exact r
      · rw [if_pos (fun hh => e (key.mp hh))]
        rw [if_neg e] at r; exact r
  unfold f_L_king_0
  rw [← kgB_eq h.1.2.2.1 hs2]
  exact loop 25 0 4096 (by omega) (by omega)
theorem D_isChecked (h : IV w σ k hs) {s : Nat} (hs2 : s < 2) : f_L_isChecked_0 (nI s) w = some (if chk σ.1 s = true then 1 else 0, w) := by
  unfold f_L_isChecked_0
  rw [D_king h hs2, Option.bind_some]
  try dsimp only
  unfold chk
  cases hk : kg σ.1 s with
  | none => rw [kgI_none hk, if_pos (by decide)]; rfl
  | some q =>
    obtain ⟨hq, -⟩ := kg_some hk
    rw [kgI_some hk, if_neg (q_nlt (L := 0) (b := 0) rfl (by omega) (by omega)), show (1 : Int32) - nI s = nI (1 - s) from pk_sub (a := 1) (by omega), D_attackers h (by omega) hq, Option.bind_some]
    try dsimp only
    have hle := cntN_le σ.1 (1 - s) q 25
    by_cases hc : 0 < cnt σ.1 (1 - s) q
    · rw [if_neg (nI_nle hc (by unfold cnt; omega)), if_pos (decide_eq_true hc)]
    · rw [if_pos (by rw [show cnt σ.1 (1 - s) q = 0 by omega]; decide), if_neg (by simpa using hc)]
end PL
