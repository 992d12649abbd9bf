/-! the law: each play that is told is made and undone -/
def LastI (σ : PS) (x : Int32) (r : Nat) : Prop := (r = 0 ∧ x = -1) ∨ ∃ d, d < 1375 ∧ alw σ d = true ∧ numN (alw σ) d + 1 = r ∧ x = nI (tld d)
def MateI (σ : PS) (x : Int32) (r : Nat) : Prop := (x = -1005 ∧ ∀ d, d < 1375 → numN (alw σ) d < r → mts σ d = false) ∨ ∃ c0, c0 < 1375 ∧ mts σ c0 = true ∧ (∀ d, d < c0 → mts σ d = false) ∧ x = nI (tld c0)
theorem mts_no {σ : PS} {c : Nat} (h : alw σ c = false) : mts σ c = false := by unfold mts; rw [h]; rfl
theorem last_no {σ : PS} {x : Int32} (hl : LastI σ x (numS σ)) : plS σ (x + 1) = none := by
  cases hp : plS σ (x + 1) with
  | none => rfl
  | some c =>
    exfalso
    obtain ⟨p1, p2, p3⟩ := plS_some hp
    have lt : numN (alw σ) c < numS σ := numN_lt p1 p3
    rcases hl with ⟨h0, -⟩ | ⟨d, d1, d2, d3, rfl⟩
    · rw [h0] at lt; exact absurd lt (Nat.not_lt_zero _)
    · rw [nI_1] at p2
      have t1 := tld_lt d1
      have t2 := tld_lt p1
      have e : tld d + 1 = tld c := (nI_eq (by omega) (by omega)).mp p2
      have hdc : d < c := by
        rcases Nat.lt_trichotomy d c with h | h | h
        · exact h
        · rw [h] at e; exact absurd e (Nat.succ_ne_self _)
        · have := tld_mono h d1
          rw [← e] at this
          exact absurd this (Nat.not_lt.mpr (Nat.le_succ _))
      have g := numN_lt hdc d2
      rw [← d3] at lt
      exact absurd lt (Nat.not_lt.mpr (Nat.succ_le_of_lt g))
theorem mate_all {σ : PS} {x : Int32} (hm : MateI σ x (numS σ)) : MatA σ x := by
  rcases hm with ⟨e, h⟩ | ⟨c0, h1, h2, h3, h4⟩
  · refine Or.inl ⟨e, fun c hc => ?_⟩
    cases ha : alw σ c with
    | false => exact mts_no ha
    | true => exact h c hc (numN_lt hc ha)
  · exact Or.inr ⟨c0, h1, h2, h3, h4⟩
theorem last_lt {σ : PS} {x : Int32} {c : Nat} (hc : c < 1375) (hl : LastI σ x (numN (alw σ) c)) : x < nI (tld c) := by
  have t2 := tld_lt hc
  rcases hl with ⟨-, rfl⟩ | ⟨d, d1, d2, d3, rfl⟩
  · have h0 : (0 : Int32) ≤ nI (tld c) := nI_pos' (by omega)
    have h1 : (-1 : Int32) < 0 := by decide
    rw [Int32.lt_iff_toInt_lt] at h1 ⊢
    rw [Int32.le_iff_toInt_le] at h0
    omega
  · have hdc : d < c := by
      rcases Nat.lt_trichotomy d c with h | h | h
      · exact h
      · rw [h] at d3; exact absurd d3 (Nat.succ_ne_self _)
      · have g := numN_mono_n (alw σ) (d - c) c
        rw [show c + (d - c) = d by omega, ← d3] at g
        exact absurd g (Nat.not_le.mpr (Nat.lt_succ_self _))
    exact nI_lt (tld_mono hdc hc) (by omega)
theorem mate_step {σ : PS} {x : Int32} {c : Nat} (hc : c < 1375) (ha : alw σ c = true) (hm : MateI σ x (numN (alw σ) c)) : MateI σ (if 0 ≤ x then x else if matS (mkS σ c) = true then nI (tld c) else x) (numN (alw σ) c + 1) := by
  rcases hm with ⟨e, h⟩ | ⟨c0, h1, h2, h3, h4⟩
  · rw [if_neg (by rw [e]; decide)]
    cases hq : matS (mkS σ c) with
    | true =>
      rw [if_pos rfl]
      refine Or.inr ⟨c, hc, by unfold mts; rw [ha, hq]; rfl, fun d hd => ?_, rfl⟩
      cases had : alw σ d with
      | false => exact mts_no had
      | true => exact h d (by omega) (numN_lt hd had)
    | false =>
      rw [if_neg (by decide)]
      refine Or.inl ⟨e, fun d hd hlt => ?_⟩
      cases had : alw σ d with
      | false => exact mts_no had
      | true =>
        by_cases hl : numN (alw σ) d < numN (alw σ) c
        · exact h d hd hl
        · have : d = c := numN_inj had ha (Nat.le_antisymm (Nat.le_of_lt_succ hlt) (Nat.not_lt.mp hl))
          rw [this]; unfold mts; rw [hq, Bool.and_false]
  · have t := tld_lt h1
    rw [if_pos (by rw [h4]; exact nI_pos' (by omega))]
    exact Or.inr ⟨c0, h1, h2, h3, h4⟩
theorem nI_n1005 {n : Nat} (h : n < 2 ^ 31) : (nI n < 0 ↔ nI n = -1005) := by
  have h1 : ¬ nI n < 0 := q_nlt (L := 0) (b := 0) rfl (Nat.zero_le _) h
  exact ⟨fun e => absurd e h1, fun e => absurd (by rw [e]; decide) h1⟩
theorem fld_neg (σ : PS) : ∀ c, c ≤ 1375 → ((fld σ c).1 < 0 ↔ (fld σ c).1 = -1005)
  | 0, _ => ⟨fun _ => rfl, fun _ => by show (-1005 : Int32) < 0; decide⟩
  | c + 1, h => by
    have ih := fld_neg σ c (by omega)
    have t := tld_lt (show c < 1375 by omega)
    rw [fld]
    unfold stp
    by_cases ha : alw σ c = true
    · rw [if_pos ha]
      by_cases hb : better (fld σ c) (nI (numS (mkS σ c))) (wrS (mkS σ c) σ.2.1) = true
      · rw [if_pos hb]; exact nI_n1005 (by omega)
      · rw [if_neg hb]; exact ih
    · rw [if_neg ha]; exact ih
section AP
variable {w : mvW} {σ τ : PS} {k : Nat} {hs : Nat → PS}
theorem D_ap390 (h : IV w σ k hs) {x5 x6 x7 : Int32} {c0 : Nat} (hl : LastI σ x5 (numS σ)) (hm : MateI σ x6 (numS σ)) (hc0 : numN (alw σ) c0 = numS σ) (hb : x7 = (fld σ c0).1) : ∃ w', f_L_arePlays_0_390 (nI (numS σ)) (if chk σ.1 σ.2.1 = true then 1 else 0) x5 x6 x7 w = some (1, w') ∧ IV w' σ k hs := by
  obtain ⟨w1, e1, h1⟩ := D_playNo h (r := numS σ) (by have := numS_lt σ; omega) (Nat.le_refl _)
  obtain ⟨w2, e2, h2⟩ := D_mate h1 (mate_all hm)
  obtain ⟨w3, e3, h3⟩ := D_tightest h2
  obtain ⟨w4, e4, h4⟩ := D_makeNo h3 (last_no hl)
  have eb : (fld σ 1375).1 = x7 := by rw [hb, fld_num (c := c0) (d := 1375) hc0]
  refine ⟨w4, ?_, h4⟩
  unfold f_L_arePlays_0_390
  rw [e1, Option.bind_some]
  try dsimp only
  rw [if_neg (fun e => e rfl), D_playM1, Option.bind_some]
  try dsimp only
  rw [if_neg (fun e => e rfl), e2, Option.bind_some]
  try dsimp only
  rw [if_neg (fun e => e rfl), e3, Option.bind_some]
  try dsimp only
  rw [if_neg (fun e => e eb), D_total4 h3, Option.bind_some]
  try dsimp only
  rw [if_neg (fun e => e rfl), e4, Option.bind_some]
  try dsimp only
  rw [if_neg (fun e => e rfl)]
theorem D_ap349 (h : IV w τ (k + 1) hs) (hk : hs k = σ) (k47 : Int32 → Int32 → Int32 → Int32 → Int32 → Int32 → Int32 → Int32 → Int32 → Int32 → mvW → Option (Int32 × mvW)) (x1 ck mn x6 x7 x8 x10 x11 s0 : Int32) : ∃ w', f_L_arePlays_0_349 k47 x1 (nI σ.2.1) ck mn x6 x7 x8 x10 x11 (σ.2.2.2 0) s0 w = k47 x1 (nI σ.2.1) ck mn x11 x6 x7 x8 s0 (x10 + 1) w' ∧ IV w' σ k hs := by
  have hk4 := h.2.1.1
  obtain ⟨w1, e1, h1⟩ := D_undo h
  rw [hk] at h1
  refine ⟨w1, ?_, h1⟩
  unfold f_L_arePlays_0_349
  rw [e1, Option.bind_some]
  try dsimp only
  rw [if_neg (q_nlt (L := 0) (b := 0) rfl (Nat.zero_le _) (by omega)), D_total8 h1, Option.bind_some]
  try dsimp only
  rw [if_neg (fun e => e rfl), D_total0 h1, Option.bind_some]
  try dsimp only
  rw [if_pos rfl]
def nxt3 (s : Ti) (p rep wo : Int32) : Ti := if better s rep wo = true then (p, rep, wo) else s
theorem D_ap276 (h : IV w τ (k + 1) hs) (hk : hs k = σ) (k47 : Int32 → Int32 → Int32 → Int32 → Int32 → Int32 → Int32 → Int32 → Int32 → Int32 → mvW → Option (Int32 × mvW)) (x1 ck mn x6 x10 x11 x14 x15 : Int32) (s : Ti) (h7 : s.1 < 0 ↔ s.1 = -1005) : ∃ w', f_L_arePlays_0_276 k47 x1 (nI σ.2.1) ck mn x6 s.1 s.2.1 s.2.2 x10 x11 (σ.2.2.2 0) x14 x15 w = k47 x1 (nI σ.2.1) ck mn x11 x6 (nxt3 s x11 x14 x15).1 (nxt3 s x11 x14 x15).2.1 (nxt3 s x11 x14 x15).2.2 (x10 + 1) w' ∧ IV w' σ k hs := by
  unfold f_L_arePlays_0_276 f_L_arePlays_0_302 f_L_arePlays_0_321
  simp only [if_neg (show ¬ (1 : Int32) = 0 by decide), if_pos (show (0 : Int32) = 0 from rfl), if_true]
  rw [if4 (f_L_arePlays_0_349 k47 x1 (nI σ.2.1) ck mn x6 x11 x14 x10 x11 (σ.2.2.2 0) x15 w) (f_L_arePlays_0_349 k47 x1 (nI σ.2.1) ck mn x6 s.1 s.2.1 x10 x11 (σ.2.2.2 0) s.2.2 w) (fun _ => ⟨rfl, rfl, rfl⟩) rfl]
  unfold nxt3 better
  by_cases hb : s.1 = -1005 ∨ x14 < s.2.1 ∨ (x14 = s.2.1 ∧ ¬ x15 ≤ s.2.2)
  · rw [if_pos (hb.imp h7.mpr id), if_pos (decide_eq_true hb)]
    exact D_ap349 h hk k47 x1 ck mn x6 x11 x14 x10 x11 x15
  · rw [if_neg (fun e => hb (e.imp h7.mp id)), if_neg (fun e => hb (of_decide_eq_true e))]
    exact D_ap349 h hk k47 x1 ck mn x6 s.1 s.2.1 x10 x11 s.2.2
theorem D_ap253 (h : IV w τ (k + 1) hs) (hk : hs k = σ) (k47 : Int32 → Int32 → Int32 → Int32 → Int32 → Int32 → Int32 → Int32 → Int32 → Int32 → mvW → Option (Int32 × mvW)) (x1 ck mn x6 x10 x11 x14 x15 y : Int32) (s : Ti) (h7 : s.1 < 0 ↔ s.1 = -1005) (hd : ¬ x11 ≤ 20500 → 1 ≤ τ.2.2.2 3) : ∃ w', f_L_arePlays_0_253 k47 x1 (nI σ.2.1) ck mn x6 s.1 s.2.1 s.2.2 x10 x11 (σ.2.2.2 0) x14 x15 y y w = k47 x1 (nI σ.2.1) ck mn x11 x6 (nxt3 s x11 x14 x15).1 (nxt3 s x11 x14 x15).2.1 (nxt3 s x11 x14 x15).2.2 (x10 + 1) w' ∧ IV w' σ k hs := by
  unfold f_L_arePlays_0_253
  rw [if_neg (fun e => e rfl)]
  by_cases hx : x11 ≤ 20500
  · rw [if_pos hx]
    exact D_ap276 h hk k47 x1 ck mn x6 x10 x11 x14 x15 s h7
  · rw [if_neg hx, D_total11 h, Option.bind_some]
    try dsimp only
    rw [if_pos (hd hx)]
    exact D_ap276 h hk k47 x1 ck mn x6 x10 x11 x14 x15 s h7
theorem D_ap234 (h : IV w τ (k + 1) hs) (hk : hs k = σ) (k47 : Int32 → Int32 → Int32 → Int32 → Int32 → Int32 → Int32 → Int32 → Int32 → Int32 → mvW → Option (Int32 × mvW)) (x1 ck mn x6 x10 x11 x15 y : Int32) (s : Ti) (h7 : s.1 < 0 ↔ s.1 = -1005) (hd : ¬ x11 ≤ 20500 → 1 ≤ τ.2.2.2 3) : ∃ w', f_L_arePlays_0_234 k47 x1 (nI σ.2.1) ck mn x6 s.1 s.2.1 s.2.2 x10 x11 (σ.2.2.2 0) (nI (numS τ)) x15 y y w = k47 x1 (nI σ.2.1) ck mn x11 x6 (nxt3 s x11 (nI (numS τ)) x15).1 (nxt3 s x11 (nI (numS τ)) x15).2.1 (nxt3 s x11 (nI (numS τ)) x15).2.2 (x10 + 1) w' ∧ IV w' σ k hs := by
  obtain ⟨w1, e1, h1⟩ := D_total6 h
  have hl := numS_lt τ
  unfold f_L_arePlays_0_234
  rw [if_neg (fun e => e rfl), e1, Option.bind_some]
  try dsimp only
  by_cases hz : numS τ = 0
  · rw [if_pos hz, if_neg (show ¬ ¬ nI (numS τ) = 0 by rw [hz]; exact fun e => e rfl)]
    exact D_ap253 h1 hk k47 x1 ck mn x6 x10 x11 (nI (numS τ)) x15 1 s h7 hd
  · rw [if_neg hz, if_pos (nI_ne0 (by omega) (by omega))]
    exact D_ap253 h1 hk k47 x1 ck mn x6 x10 x11 (nI (numS τ)) x15 0 s h7 hd
theorem D_ap211 (h : IV w τ (k + 1) hs) (hk : hs k = σ) (k47 : Int32 → Int32 → Int32 → Int32 → Int32 → Int32 → Int32 → Int32 → Int32 → Int32 → mvW → Option (Int32 × mvW)) (x1 ck mn x6 x10 x11 x15 : Int32) (s : Ti) (h7 : s.1 < 0 ↔ s.1 = -1005) (hd : ¬ x11 ≤ 20500 → 1 ≤ τ.2.2.2 3) : ∃ w', f_L_arePlays_0_211 k47 x1 (nI σ.2.1) ck mn s.1 s.2.1 s.2.2 x10 x11 (σ.2.2.2 0) (if chk τ.1 τ.2.1 = true then 1 else 0) (nI (numS τ)) x15 x6 w = k47 x1 (nI σ.2.1) ck mn x11 x6 (nxt3 s x11 (nI (numS τ)) x15).1 (nxt3 s x11 (nI (numS τ)) x15).2.1 (nxt3 s x11 (nI (numS τ)) x15).2.2 (x10 + 1) w' ∧ IV w' σ k hs := by
  obtain ⟨w1, e1, h1⟩ := D_total5 h
  have hl := numS_lt τ
  unfold f_L_arePlays_0_211
  rw [e1, Option.bind_some]
  try dsimp only
  unfold matS
  by_cases hz : numS τ = 0
  · rw [if_neg (show ¬ ¬ nI (numS τ) = 0 by rw [hz]; exact fun e => e rfl), decide_eq_true hz, Bool.and_true]
    by_cases hc : chk τ.1 τ.2.1 = true
    · rw [if_pos hc, if_neg (fun e => e rfl)]
      exact D_ap234 h1 hk k47 x1 ck mn x6 x10 x11 x15 1 s h7 hd
    · rw [if_neg hc, if_pos (by decide)]
      exact D_ap234 h1 hk k47 x1 ck mn x6 x10 x11 x15 0 s h7 hd
  · rw [if_pos (nI_ne0 (by omega) (by omega)), decide_eq_false hz, Bool.and_false, if_neg (show ¬ false = true by decide)]
    exact D_ap234 h1 hk k47 x1 ck mn x6 x10 x11 x15 0 s h7 hd
theorem D_ap163 (h : IV w τ (k + 1) hs) (hk : hs k = σ) (ht : σ.2.1 < 2) (hts : τ.2.1 = 1 - σ.2.1) (k47 : Int32 → Int32 → Int32 → Int32 → Int32 → Int32 → Int32 → Int32 → Int32 → Int32 → mvW → Option (Int32 × mvW)) (x1 ck mn x6 x10 x11 : Int32) (s : Ti) (h7 : s.1 < 0 ↔ s.1 = -1005) (hd : ¬ x11 ≤ 20500 → 1 ≤ τ.2.2.2 3) : ∃ w', f_L_arePlays_0_163 k47 x1 (nI σ.2.1) ck mn x6 s.1 s.2.1 s.2.2 x10 x11 (σ.2.2.2 0) (if chk τ.1 τ.2.1 = true then 1 else 0) (if chk τ.1 τ.2.1 = true then 1 else 0) w = k47 x1 (nI σ.2.1) ck mn x11 (if 0 ≤ x6 then x6 else if matS τ = true then x11 else x6) (nxt3 s x11 (nI (numS τ)) (wrS τ σ.2.1)).1 (nxt3 s x11 (nI (numS τ)) (wrS τ σ.2.1)).2.1 (nxt3 s x11 (nI (numS τ)) (wrS τ σ.2.1)).2.2 (x10 + 1) w' ∧ IV w' σ k hs := by
  obtain ⟨w1, e1, h1⟩ := D_total7 h
  unfold f_L_arePlays_0_163
  rw [show (1 : Int32) - nI σ.2.1 = nI (1 - σ.2.1) from pk_sub (a := 1) (by omega), D_isChecked h (s := 1 - σ.2.1) (by omega), Option.bind_some]
  try dsimp only
  rw [← hts, if_pos rfl, e1, Option.bind_some]
  try dsimp only
  rw [D_worth h1 ht, Option.bind_some]
  try dsimp only
  by_cases h6 : 0 ≤ x6
  · rw [if_pos h6, if_pos h6]
    exact D_ap211 h1 hk k47 x1 ck mn x6 x10 x11 (wrS τ σ.2.1) s h7 hd
  · obtain ⟨w2, e2, h2⟩ := D_total5 h1
    rw [if_neg h6, if_neg h6, e2, Option.bind_some]
    try dsimp only
    by_cases hq : matS τ = true
    · rw [if_pos hq, if_neg (fun e => e rfl), if_pos hq]
      exact D_ap211 h2 hk k47 x1 ck mn x11 x10 x11 (wrS τ σ.2.1) s h7 hd
    · rw [if_neg hq, if_pos (by decide), if_neg hq]
      exact D_ap211 h2 hk k47 x1 ck mn x6 x10 x11 (wrS τ σ.2.1) s h7 hd
theorem D_ap94 (h : IV w τ (k + 1) hs) (hk : hs k = σ) (ht : σ.2.1 < 2) (hts : τ.2.1 = 1 - σ.2.1) (hmade : τ.2.2.2 0 = σ.2.2.2 0 + 1) (hmen : menS τ = menS σ) (hsafe : chk τ.1 σ.2.1 = false) (k47 : Int32 → Int32 → Int32 → Int32 → Int32 → Int32 → Int32 → Int32 → Int32 → Int32 → mvW → Option (Int32 × mvW)) (x1 ck x6 x10 x11 : Int32) (s : Ti) (h7 : s.1 < 0 ↔ s.1 = -1005) (hd : ¬ x11 ≤ 20500 → 1 ≤ τ.2.2.2 3) : ∃ w', f_L_arePlays_0_94 k47 x1 (nI σ.2.1) ck (menS σ) x6 s.1 s.2.1 s.2.2 x10 x11 (σ.2.2.2 0) (if chk τ.1 τ.2.1 = true then 1 else 0) w = k47 x1 (nI σ.2.1) ck (menS σ) x11 (if 0 ≤ x6 then x6 else if matS τ = true then x11 else x6) (nxt3 s x11 (nI (numS τ)) (wrS τ σ.2.1)).1 (nxt3 s x11 (nI (numS τ)) (wrS τ σ.2.1)).2.1 (nxt3 s x11 (nI (numS τ)) (wrS τ σ.2.1)).2.2 (x10 + 1) w' ∧ IV w' σ k hs := by
  have r := D_ap163 h hk ht hts k47 x1 ck (menS σ) x6 x10 x11 s h7 hd
  unfold f_L_arePlays_0_94
  rw [if_neg (show ¬ (if chk τ.1 τ.2.1 = true then (1 : Int32) else 0) < 0 by cases chk τ.1 τ.2.1 <;> decide), D_total0 h, Option.bind_some]
  try dsimp only
  rw [if_neg (show ¬ ¬ nI τ.2.1 = 1 - nI σ.2.1 from fun e => e (by rw [hts]; exact (pk_sub (a := 1) (by omega)).symm)), D_total8 h, Option.bind_some]
  try dsimp only
  rw [if_neg (fun e => e hmade), D_men h, Option.bind_some]
  try dsimp only
  rw [if_neg (fun e => e hmen), D_isChecked h ht, Option.bind_some]
  try dsimp only
  rw [if_neg (show ¬ ¬ (if chk τ.1 σ.2.1 = true then (1 : Int32) else 0) = 0 by rw [hsafe]; exact fun e => e rfl), D_total4 h, Option.bind_some]
  try dsimp only
  rw [if_neg (fun e => e rfl)]
  by_cases hc : chk τ.1 τ.2.1 = true
  · rw [if_neg (show ¬ ¬ (if chk τ.1 τ.2.1 = true then (1 : Int32) else 0) = 1 by rw [if_pos hc]; exact fun e => e rfl)]
    rw [if_pos hc] at r ⊢
    exact r
  · rw [if_pos (show ¬ (if chk τ.1 τ.2.1 = true then (1 : Int32) else 0) = 1 by rw [if_neg hc]; decide)]
    rw [if_neg hc] at r ⊢
    exact r
end AP
theorem D_ap47 {σ : PS} {m : Nat} (hB : Bd σ m) (hm : m ≤ 1000) : ∀ (j r N : Nat) (w : mvW) (k : Nat) (hs : Nat → PS) (x5 x6 : Int32) (c0 : Nat), r + j = numS σ → j + 1 ≤ N → IV w σ k hs → LastI σ x5 r → MateI σ x6 r → c0 ≤ 1375 → numN (alw σ) c0 = r → ∃ w' k' hs', f_L_arePlays_0_47 N (nI (numS σ)) (nI σ.2.1) (if chk σ.1 σ.2.1 = true then 1 else 0) (menS σ) x5 x6 (fld σ c0).1 (fld σ c0).2.1 (fld σ c0).2.2 (nI r) w = some (1, w') ∧ IV w' σ k' hs' := by
  intro j
  have hl := numS_lt σ
  induction j with
  | zero =>
    intro r N w k hs x5 x6 c0 hr hN h hL hM hc0 hn0
    obtain ⟨n, rfl⟩ : ∃ n, N = n + 1 := ⟨N - 1, by omega⟩
    have er : r = numS σ := by omega
    rw [er] at hL hM hn0 ⊢
    obtain ⟨w', e, h'⟩ := D_ap390 h hL hM hn0 rfl
    refine ⟨w', k, hs, ?_, h'⟩
    rw [f_L_arePlays_0_47, if_pos (nI_le (Nat.le_refl _) (by omega))]
    exact e
  | succ j ih =>
    intro r N w k hs x5 x6 c0 hr hN h hL hM hc0 hn0
    obtain ⟨n, rfl⟩ : ∃ n, N = n + 1 := ⟨N - 1, by omega⟩
    have hO := h.1.2.2.2
    have ht : σ.2.1 < 2 := by have := hO.2; omega
    have hroom := numS_room hO
    obtain ⟨c, hc, ha, hnc⟩ := numN_rank (f := alw σ) (r := r) 1375 (show r < numS σ by omega)
    have hwn := alw_wn ha
    obtain ⟨w1, e1, h1⟩ := D_play h hc ha
    rw [hnc] at e1
    obtain ⟨w2, k2, hs2, e2, h2, hk2⟩ := D_make h1 hc ha
    have hfc : fld σ c0 = fld σ c := fld_num (hn0.trans hnc.symm)
    obtain ⟨d, d1, d2⟩ := hB.2
    have hdrop : ¬ nI (tld c) ≤ 20500 → 1 ≤ (mkS σ c).2.2.2 3 := by
      intro hx
      have t := tld_lt hc
      have hx' : 20500 < tld c := by
        rcases Nat.lt_or_ge 20500 (tld c) with g | g
        · exact g
        · exact absurd (q_le2 (L := 20500) (b := 20500) rfl g (by omega)) hx
      rw [mkS_dr, if_neg (tld_drop hc hx'), d2, nI_1]
      exact nI_le (a := 1) (b := d + 1) (by omega) (by omega)
    obtain ⟨w3, e3, h3⟩ := D_ap94 h2 hk2 ht (mkS_side σ c) (mkS_made σ c) (mkS_men hO hc hwn) (alw_safe ha) (fun x1' x2' x3' x4' x5' x6' x7' x8' x9' x10' w' => f_L_arePlays_0_47 n x1' x2' x3' x4' x5' x6' x7' x8' x9' x10' w') (nI (numS σ)) (if chk σ.1 σ.2.1 = true then 1 else 0) x6 (nI r) (nI (tld c)) (fld σ c) (fld_neg σ c (by omega)) hdrop
    have hL' : LastI σ (nI (tld c)) (r + 1) := Or.inr ⟨c, hc, ha, by rw [hnc], rfl⟩
    have hM' := mate_step hc ha (x := x6) (by rw [hnc]; exact hM)
    rw [hnc] at hM'
    have ef : fld σ (c + 1) = nxt3 (fld σ c) (nI (tld c)) (nI (numS (mkS σ c))) (wrS (mkS σ c) σ.2.1) := by
      rw [fld]
      unfold stp nxt3
      rw [if_pos ha]
    have en : numN (alw σ) (c + 1) = r + 1 := by rw [numN, if_pos ha, hnc]
    obtain ⟨w', k', hs', b1, b2⟩ := ih (r + 1) n w3 k2 hs2 (nI (tld c)) _ (c + 1) (by omega) (by omega) h3 hL' hM' (by omega) en
    refine ⟨w', k', hs', ?_, b2⟩
    rw [f_L_arePlays_0_47, if_neg (nI_ge (by omega) (by omega)), if_neg (q_nle (L := 1375) (b := 1375) rfl (by omega) (by omega)), e1, Option.bind_some]
    try dsimp only
    rw [D_total8 h1, Option.bind_some]
    try dsimp only
    rw [if_pos (last_lt hc (by rw [hnc]; exact hL)), e2, Option.bind_some]
    try dsimp only
    rw [hfc]
    refine e3.trans ?_
    rw [← ef, nI_1]
    exact b1
theorem D_arePlays {σ : PS} {m : Nat} (hB : Bd σ m) (hm : m ≤ 1000) {w : mvW} {k : Nat} {hs : Nat → PS} (h : IV w σ k hs) : ∃ w' k' hs', f_L_arePlays_0 w = some (1, w') ∧ IV w' σ k' hs' := by
  have hroom := numS_room h.1.2.2.2
  obtain ⟨w1, e1, h1⟩ := D_total7 h
  obtain ⟨w', k', hs', b1, b2⟩ := D_ap47 hB hm (numS σ) 0 4096 w1 k hs (-1) (-1005) 0 (by omega) (by omega) h1 (Or.inl ⟨rfl, rfl⟩) (Or.inl ⟨rfl, fun d _ h => absurd h (Nat.not_lt_zero _)⟩) (by omega) rfl
  refine ⟨w', k', hs', ?_, b2⟩
  unfold f_L_arePlays_0
  rw [e1, Option.bind_some]
  try dsimp only
  rw [D_total0 h1, Option.bind_some]
  try dsimp only
  rw [D_total4 h1, Option.bind_some]
  try dsimp only
  rw [D_men h1, Option.bind_some]
  exact b1
