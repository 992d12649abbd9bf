/-! both sides at the start -/
def fmL : List Nat := [15, 14, 13, 12, 11, 0, 0, 0, 0, 16, 0, 0, 0, 0, 0, 6, 0, 0, 0, 0, 1, 2, 3, 4, 5]
def fmS : PS := (fun q => fmL.getD q 0, 0, fun _ => 0, fun _ => 0)
def chk5 : Bool := match f_X5_init (fun _ _ => 0) with
  | none => false
  | some v => (List.range 25).all (fun q => decide (v 1 q = nI (fmL.getD q 0))) && (List.range 15).all (fun i => decide (v 1 (25 + i) = 0)) && decide (v 0 3 = 0) && decide (v 0 5 = 0) && decide (v 0 7 = 0)
theorem chk5_ok : chk5 = true := by decide +kernel
def chk4 : Bool := match f_X4_init (fun _ _ => 0) with
  | none => false
  | some w => (List.range 25).all (fun q => decide (w 2 q = encM (fmL.getD q 0))) && (List.range 12).all (fun i => decide (w 2 (25 + i) = 0)) && (List.range 2).all (fun s => decide (w 2 (37 + s) = kgI fmS.1 s)) && (List.range 5).all (fun i => decide (w 2 (39 + i) = 0)) && (List.range 25).all (fun q => (List.range 8).all (fun d => decide (w 3 (8 * q + d) = (match nxt q d with | none => -1 | some r => nI r)))) && decide (w 0 6 = 0) && decide (w 9 1 = 0) && decide (w 11 1 = 0)
theorem chk4_ok : chk4 = true := by decide +kernel
theorem fmS_ok : (∀ q, q < 25 → fmL.getD q 0 ≤ 20) ∧ ∀ s, s < 2 → ∀ q, q < 25 → ∀ r, r < 25 → fmL.getD q 0 = 10 * s + 1 → fmL.getD r 0 = 10 * s + 1 → q = r := by decide +kernel
theorem all_r {n : Nat} {f : Nat → Bool} (h : (List.range n).all f = true) : ∀ i, i < n → f i = true := fun i hi => (List.all_eq_true.mp h) i (List.mem_range.mpr hi)
theorem Start : ∃ w v, f_X4_init (fun _ _ => 0) = some w ∧ f_X5_init (fun _ _ => 0) = some v ∧ Rel w v := by
  have h4 := chk4_ok
  have h5 := chk5_ok
  unfold chk4 at h4
  unfold chk5 at h5
  cases e4 : f_X4_init (fun _ _ => 0) with
  | none => rw [e4] at h4; cases h4
  | some w =>
    cases e5 : f_X5_init (fun _ _ => 0) with
    | none => rw [e5] at h5; cases h5
    | some v =>
      rw [e4] at h4
      rw [e5] at h5
      simp only [Bool.and_eq_true, decide_eq_true_eq] at h4 h5
      obtain ⟨⟨⟨⟨⟨⟨⟨a1, a2⟩, a3⟩, a4⟩, a5⟩, a6⟩, a7⟩, a8⟩ := h4
      obtain ⟨⟨⟨⟨b1, b2⟩, b3⟩, b4⟩, b5⟩ := h5
      have c1 := fun q hq => of_decide_eq_true (all_r a1 q hq)
      have c2 := fun q hq => of_decide_eq_true (all_r a2 q hq)
      have c3 := fun q hq => of_decide_eq_true (all_r a3 q hq)
      have c4 := fun q hq => of_decide_eq_true (all_r a4 q hq)
      have c5 := fun q hq d hd => of_decide_eq_true (all_r (all_r a5 q hq) d hd)
      have d1 := fun q hq => of_decide_eq_true (all_r b1 q hq)
      have d2 := fun q hq => of_decide_eq_true (all_r b2 q hq)
      refine ⟨w, v, rfl, rfl, fmS, ⟨⟨c1, c4 0 (by decide), fun s k hs h1 h5 => ?_, fun i hi => ?_, c3⟩, fun q d hq hd => c5 q hq d hd, fun s hs q r hq hr => fmS_ok.2 s hs q hq r hr, fmS_ok.1, Nat.zero_le _⟩, ?_, ?_, ?_, ?_⟩
      · have := c2 (6 * s + k) (by omega)
        rw [← Nat.add_assoc] at this
        exact this
      · have := c4 (1 + i) (by omega)
        rw [← Nat.add_assoc] at this
        exact this
      · rw [RW_RV]
        refine ⟨d1, d2 10 (by decide), fun i hi => d2 i (by omega), fun i hi => ?_⟩
        have := d2 (11 + i) (by omega)
        rw [← Nat.add_assoc] at this
        exact this
      · exact ⟨0, fun _ => fmS, by omega, a7, b3, fun i hi => absurd hi (Nat.not_lt_zero i)⟩
      · exact ⟨0, by omega, a8, b5, fun i hi => absurd hi (Nat.not_lt_zero i)⟩
      · exact Or.inl ⟨a6, b4⟩
