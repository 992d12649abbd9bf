/-! arguments: what both sides ask of them; which numbers are allowed plays -/
theorem rng (x : Int32) (lo hi : Nat) (h1 : lo < 2 ^ 30) (h2 : hi < 2 ^ 30) : (∃ q, lo ≤ q ∧ q ≤ hi ∧ x = nI q) ∧ (nI lo ≤ x ∧ x ≤ nI hi) ∨ ¬ (nI lo ≤ x ∧ x ≤ nI hi) := by
  by_cases h : nI lo ≤ x ∧ x ≤ nI hi
  · left
    refine ⟨?_, h⟩
    have h0 : ¬ x < 0 := Int32.not_lt.mpr (Int32.le_trans (nI_pos' (by omega)) h.1)
    obtain ⟨n, hn, rfl⟩ := nI_of h0
    exact ⟨n, (nI_leI (by omega) hn).mp h.1, (nI_leI hn (by omega)).mp h.2, rfl⟩
  · exact Or.inr h
theorem up_25 (x : Int32) : (25 ≤ x) = ¬ (x ≤ 24) := by
  rw [Int32.le_iff_toInt_le, Int32.le_iff_toInt_le, show (25 : Int32).toInt = 25 from rfl, show (24 : Int32).toInt = 24 from rfl]
  exact propext (by omega)
theorem up_20 (x : Int32) : (20 ≤ x) = ¬ (x ≤ 19) := by
  rw [Int32.le_iff_toInt_le, Int32.le_iff_toInt_le, show (20 : Int32).toInt = 20 from rfl, show (19 : Int32).toInt = 19 from rfl]
  exact propext (by omega)
theorem up_2 (x : Int32) : (2 ≤ x) = ¬ (x ≤ 1) := by
  rw [Int32.le_iff_toInt_le, Int32.le_iff_toInt_le, show (2 : Int32).toInt = 2 from rfl, show (1 : Int32).toInt = 1 from rfl]
  exact propext (by omega)
theorem tst (x lo hi : Int32) (B : Prop) [Decidable B] (w : mvW) (hB : B = ¬ (x ≤ hi)) : (if x < lo then some ((0 : Int32), w) else if B then some (0, w) else some (1, w)) = some (if lo ≤ x ∧ x ≤ hi then 1 else 0, w) := by
  by_cases h1 : x < lo
  · rw [if_pos h1, if_neg (fun h => Int32.not_lt.mpr h.1 h1)]
  · rw [if_neg h1]
    by_cases h2 : x ≤ hi
    · rw [if_neg (by rw [hB]; exact fun h => h h2), if_pos ⟨Int32.not_lt.mp h1, h2⟩]
    · rw [if_pos (by rw [hB]; exact h2), if_neg (fun h => h2 h.2)]
theorem t4_sq (x : Int32) (w : mvW) : f_X4_isSquare x w = some (if nI 0 ≤ x ∧ x ≤ nI 24 then 1 else 0, w) := tst x 0 24 _ w (up_25 x)
theorem t4_man (x : Int32) (w : mvW) : f_X4_isMan x w = some (if nI 0 ≤ x ∧ x ≤ nI 19 then 1 else 0, w) := tst x 0 19 _ w (up_20 x)
theorem t4_side (x : Int32) (w : mvW) : f_X4_isSide x w = some (if nI 0 ≤ x ∧ x ≤ nI 1 then 1 else 0, w) := tst x 0 1 _ w (up_2 x)
theorem t4_hk (x : Int32) (w : mvW) : f_X4_isHandKind x w = some (if nI 1 ≤ x ∧ x ≤ nI 5 then 1 else 0, w) := tst x 1 5 _ w (propext (by rw [Int32.not_le]))
theorem t5_in (x : Int32) (lo hi : Nat) (w : mvW) : f_X5_in x (nI lo) (nI hi) w = some (if nI lo ≤ x ∧ x ≤ nI hi then 1 else 0, w) := M_in x _ _ w
theorem mv_bl1 (B : Prop) [Decidable B] (w : mvW) : mv_bl (if B then 1 else 0) w = some (if B then 1 else 0, w) := by
  unfold mv_bl
  by_cases h : B
  · rw [if_pos h, if_pos (Or.inr rfl)]
  · rw [if_neg h, if_pos (Or.inl rfl)]
theorem t5_sq (x : Int32) (w : mvW) : f_X5_isSquare x w = some (if nI 0 ≤ x ∧ x ≤ nI 24 then 1 else 0, w) := by
  unfold f_X5_isSquare
  rw [show f_X5_in x 0 24 w = _ from t5_in x 0 24 w, Option.bind_some]
  exact mv_bl1 _ w
theorem t5_side (x : Int32) (w : mvW) : f_X5_isSide x w = some (if nI 0 ≤ x ∧ x ≤ nI 1 then 1 else 0, w) := by
  unfold f_X5_isSide
  rw [show f_X5_in x 0 1 w = _ from t5_in x 0 1 w, Option.bind_some]
  exact mv_bl1 _ w
theorem t5_hk (x : Int32) (w : mvW) : f_X5_isInHand x w = some (if nI 1 ≤ x ∧ x ≤ nI 5 then 1 else 0, w) := by
  unfold f_X5_isInHand
  rw [show f_X5_in x 1 5 w = _ from t5_in x 1 5 w, Option.bind_some]
  exact mv_bl1 _ w
/-- the allowed play that a number tells, if any -/
def plS (σ : PS) (x : Int32) : Option Nat := if x < 0 then none else match cod x.toNatClampNeg with | none => none | some c => if alw σ c = true then some c else none
theorem plS_nI {n : Nat} (hn : n < 2 ^ 31) (σ : PS) : plS σ (nI n) = match cod n with | none => none | some c => if alw σ c = true then some c else none := by
  unfold plS
  rw [if_neg (nI_pos hn), nI_clamp hn]
theorem plS_some {σ : PS} {x : Int32} {c : Nat} (h : plS σ x = some c) : c < 1375 ∧ x = nI (tld c) ∧ alw σ c = true := by
  by_cases h0 : x < 0
  · unfold plS at h; rw [if_pos h0] at h; cases h
  · obtain ⟨n, hn, rfl⟩ := nI_of h0
    rw [plS_nI hn] at h
    cases hc : cod n with
    | none => rw [hc] at h; cases h
    | some d =>
      rw [hc] at h
      dsimp only at h
      by_cases ha : alw σ d = true
      · rw [if_pos ha] at h
        have h := Option.some.inj h
        subst h
        obtain ⟨a, b⟩ := cod_some hc
        exact ⟨a, by rw [b], ha⟩
      · rw [if_neg ha] at h; cases h
theorem plS_of {σ : PS} {c : Nat} (hc : c < 1375) : plS σ (nI (tld c)) = if alw σ c = true then some c else none := by
  have := tld_lt hc
  rw [plS_nI (by omega), cod_tld hc]
theorem alw_cases (σ : PS) (c : Nat) (w : mvW) : (if ¬ nI (resS σ c) = 0 then some ((0 : Int32), w) else some (1, w)) = some (if (if alw σ c = true then some c else none).isSome = true then (1 : Int32) else 0, w) := by
  have := resS_le σ c
  by_cases h : resS σ c = 0
  · rw [h, if_neg (fun h => h rfl), if_pos (show alw σ c = true by unfold alw; rw [h]; rfl)]; rfl
  · rw [if_pos (nI_ne0 (by omega) (by omega)), if_neg (show ¬ alw σ c = true by unfold alw; rw [decide_eq_false h]; decide)]; rfl
theorem C_allows {w : mvW} {σ : PS} (hC : CI w σ) (x : Int32) : ∃ w', f_X3_allows x w = some (if (plS σ x).isSome = true then 1 else 0, w') ∧ CI w' σ ∧ FC w w' := by
  unfold f_X3_allows
  by_cases h0 : x < 0
  · refine ⟨w, ?_, hC, FC.refl w⟩
    rw [if_pos h0]; unfold plS; rw [if_pos h0]; rfl
  · obtain ⟨n, hn, rfl⟩ := nI_of h0
    rw [if_neg h0, px_r100 hn, t4_sq, Option.bind_some, plS_nI hn]
    dsimp only
    unfold cod
    by_cases h1 : 25 ≤ n % 100
    · refine ⟨w, ?_, hC, FC.refl w⟩
      rw [if_pos h1, if_neg (show ¬ (nI 0 ≤ nI (n % 100) ∧ nI (n % 100) ≤ nI 24) from fun h => by have := (nI_leI (by omega) (by omega)).mp h.2; omega), if_neg (fun h => h rfl)]; rfl
    · rw [if_neg h1, if_pos (show nI 0 ≤ nI (n % 100) ∧ nI (n % 100) ≤ nI 24 from ⟨nI_le (by omega) (by omega), nI_le (by omega) (by omega)⟩), if_pos (by decide)]
      by_cases h2 : 20000 ≤ n
      · rw [if_pos h2, if_neg (q_nlt (L := 20000) (b := 20000) rfl h2 hn), show nI n - 20000 = nI (n - 20000) from pk_sub (b := 20000) h2, px_d100 (by omega), t4_hk, Option.bind_some]
        dsimp only
        have hkl : (n - 20000) / 100 < 2 ^ 30 := by omega
        generalize (n - 20000) / 100 = k at hkl ⊢
        by_cases h3 : 1 ≤ k ∧ k ≤ 5
        · rw [if_pos h3, if_pos (show nI 1 ≤ nI k ∧ nI k ≤ nI 5 from ⟨nI_le h3.1 (by omega), nI_le h3.2 (by omega)⟩), if_neg (by decide)]
          obtain ⟨w1, a1, a2, a3⟩ := C_whyNoDrop hC h3.1 h3.2 (to := n % 100) (by omega)
          rw [a1, Option.bind_some]
          exact ⟨w1, alw_cases _ _ _, a2, a3⟩
        · refine ⟨w, ?_, hC, FC.refl w⟩
          rw [if_neg h3, if_neg (show ¬ (nI 1 ≤ nI k ∧ nI k ≤ nI 5) from fun h => h3 ⟨(nI_leI (by omega) (by omega)).mp h.1, (nI_leI (by omega) (by omega)).mp h.2⟩), if_pos rfl]; rfl
      · rw [if_neg h2, if_pos (q_lt (L := 20000) (b := 20000) rfl (by omega) (by omega)), px_r10000 hn, px_d100 (by omega), t4_sq, Option.bind_some]
        dsimp only
        by_cases h3 : n % 10000 / 100 < 25
        · rw [if_pos h3, if_pos (show nI 0 ≤ nI (n % 10000 / 100) ∧ nI (n % 10000 / 100) ≤ nI 24 from ⟨nI_le (by omega) (by omega), nI_le (by omega) (by omega)⟩), if_neg (by decide)]
          by_cases h4 : 10000 ≤ n
          · rw [if_neg (q_nlt (L := 10000) (b := 10000) rfl h4 (by omega)), decide_eq_true h4]
            obtain ⟨w1, a1, a2, a3⟩ := C_whyNoMove hC h3 (to := n % 100) (by omega) true (a3 := 1) (by decide)
            rw [a1, Option.bind_some]
            exact ⟨w1, alw_cases _ _ _, a2, a3⟩
          · rw [if_pos (q_lt (L := 10000) (b := 10000) rfl (by omega) (by omega)), decide_eq_false h4]
            obtain ⟨w1, a1, a2, a3⟩ := C_whyNoMove hC h3 (to := n % 100) (by omega) false (a3 := 0) (by decide)
            rw [a1, Option.bind_some]
            exact ⟨w1, alw_cases _ _ _, a2, a3⟩
        · refine ⟨w, ?_, hC, FC.refl w⟩
          rw [if_neg h3, if_neg (show ¬ (nI 0 ≤ nI (n % 10000 / 100) ∧ nI (n % 10000 / 100) ≤ nI 24) from fun h => by have := (nI_leI (by omega) (by omega)).mp h.2; omega), if_pos rfl]; rfl
