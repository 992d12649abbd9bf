/-- nothing below a place of the rows is changed, and no other cell -/
def FU (P : Nat) (v v' : mvW) : Prop := (∀ i, i < P → v' 1 i = v 1 i) ∧ ∀ c, c ≠ 1 → v' c = v c
theorem FU.refl (P : Nat) (v : mvW) : FU P v v := ⟨fun _ _ => rfl, fun _ _ => rfl⟩
theorem FU.trans {P : Nat} {a b c : mvW} (h1 : FU P a b) (h2 : FU P b c) : FU P a c := ⟨fun i hi => (h2.1 i hi).trans (h1.1 i hi), fun k hk => (h2.2 k hk).trans (h1.2 k hk)⟩
theorem FU.mono {P P' : Nat} {a b : mvW} (h : FU P a b) (hp : P' ≤ P) : FU P' a b := ⟨fun i hi => h.1 i (by omega), h.2⟩
theorem RW.keep {P : Nat} {v v' : mvW} {σ : PS} (h : RW v P σ) (hf : FU (P + 40) v v') : RW v' P σ := by
  obtain ⟨h1, h2, h3, h4⟩ := h
  refine ⟨fun q hq => by rw [hf.1 _ (by omega)]; exact h1 q hq, by rw [hf.1 _ (by omega)]; exact h2, fun i hi => by rw [hf.1 _ (by omega)]; exact h3 i hi, fun i hi => by rw [hf.1 _ (by omega)]; exact h4 i hi⟩
theorem M_tries {P c : Nat} {v : mvW} {σ : PS} (hR : RW v P σ) (hO : OKs σ) (hP : P ≤ 80) (h2 : c < 1375) (h0 : wnS σ c = 0) : ∃ v', f_X5_tries (nI P) (nI c) v = some v' ∧ RW v' (P + 40) (mkS σ c) ∧ FU (P + 40) v v' := by
  have loop : ∀ (j k N : Nat) (u : mvW), k + j = 40 → j + 1 ≤ N → (∀ i, i < k → u 1 (P + 40 + i) = v 1 (P + i)) → FU (P + 40) v u → ∃ v', f_X5_tries_2 N (nI P) (nI c) (nI k) u = some v' ∧ RW v' (P + 40) (mkS σ c) ∧ FU (P + 40) v v' := by
    intro j
    induction j with
    | zero =>
      intro k N u hk hN hu hf
      obtain ⟨n, rfl⟩ : ∃ n, N = n + 1 := ⟨N - 1, by omega⟩
      have : k = 40 := by omega
      subst this
      have hR2 : RW u (P + 40) σ := by
        obtain ⟨g1, g2, g3, g4⟩ := hR
        refine ⟨fun q hq => by rw [hu q (by omega)]; exact g1 q hq, by rw [hu 35 (by omega)]; exact g2, fun i hi => ?_, fun i hi => ?_⟩
        · rw [show P + 40 + 25 + i = P + 40 + (25 + i) by omega, hu (25 + i) (by omega), show P + (25 + i) = P + 25 + i by omega]; exact g3 i hi
        · rw [show P + 40 + 36 + i = P + 40 + (36 + i) by omega, hu (36 + i) (by omega), show P + (36 + i) = P + 36 + i by omega]; exact g4 i hi
      obtain ⟨v', e1, e2, e3⟩ := M_makes hR2 hO (by omega) h2 h0
      refine ⟨v', ?_, e2, hf.trans ⟨fun i hi => e3.1 i (Or.inl hi), e3.2⟩⟩
      rw [f_X5_tries_2, if_pos (by decide), show nI P + 40 = nI (P + 40) from nI_add P 40, e1]; rfl
    | succ j ih =>
      intro k N u hk hN hu hf
      obtain ⟨n, rfl⟩ : ∃ n, N = n + 1 := ⟨N - 1, by omega⟩
      rw [f_X5_tries_2, if_neg (q_nle (L := 40) (b := 40) rfl (by omega) (by omega)), px_ixe (k := P + k) (nI_add P k) (by omega) (by decide), Option.bind_some, px_ixe (k := P + 40 + k) (by rw [show nI P + 40 = nI (P + 40) from nI_add P 40, nI_add]) (by omega) (by decide), Option.bind_some, nI_1]
      refine ih (k + 1) n _ (by omega) (by omega) (fun i hi => ?_) ⟨fun i hi => ?_, fun c hc => ?_⟩
      · rw [rd1]
        by_cases e : i = k
        · subst e; rw [if_pos rfl, hf.1 _ (by omega)]
        · rw [if_neg (by omega)]; exact hu i (by omega)
      · rw [rd1, if_neg (by omega)]; exact hf.1 i hi
      · funext q; rw [rdn _ _ _ _ _ _ hc, hf.2 c hc]
  exact loop 40 0 4096 v (by omega) (by omega) (fun i hi => by omega) (FU.refl _ _)
def anyF (f : Nat → Bool) : Nat → Nat → Bool
  | 0, _ => false
  | n + 1, q => if f q = true then true else anyF f n (q + 1)
def okS (σ : PS) (c : Nat) : Bool := decide (wnS σ c = 0) && !chk (mkS σ c).1 σ.2.1
def hasS (σ : PS) : Bool := anyF (okS σ) 1375 0
theorem M_hasPlay {P : Nat} {v : mvW} {σ : PS} (hR : RW v P σ) (hO : OKs σ) (hP : P ≤ 80) : ∃ v', f_X5_hasPlay (nI P) v = some (if hasS σ = true then 1 else 0, v') ∧ FU (P + 40) v v' := by
  have loop : ∀ (j k N : Nat) (u : mvW), k + j = 1375 → j + 1 ≤ N → RW u P σ → FU (P + 40) v u → ∃ v', f_X5_hasPlay_2 N (nI P) (nI k) u = some (if anyF (okS σ) j k = true then 1 else 0, v') ∧ FU (P + 40) v v' := by
    intro j
    induction j with
    | zero =>
      intro k N u hk hN hu hf
      obtain ⟨n, rfl⟩ : ∃ n, N = n + 1 := ⟨N - 1, by omega⟩
      have : k = 1375 := by omega
      subst this
      exact ⟨u, by rw [f_X5_hasPlay_2, if_pos (by decide)]; rfl, hf⟩
    | succ j ih =>
      intro k N u hk hN hu hf
      obtain ⟨n, rfl⟩ : ∃ n, N = n + 1 := ⟨N - 1, by omega⟩
      rw [f_X5_hasPlay_2, if_neg (q_nle (L := 1375) (b := 1375) rfl (by omega) (by omega)), M_whyNot hu hO (by omega) (by omega), Option.bind_some, nI_1, anyF]
      by_cases h0 : wnS σ k = 0
      · obtain ⟨v1, e1, e2, e3⟩ := M_tries hu hO hP (by omega) h0
        have hO2 := mkS_ok hO (by omega) h0
        rw [if_neg (by rw [h0]; exact fun h => h rfl), e1, Option.bind_some, px_p35 (by omega), Option.bind_some, (hu.keep e3).2.1, show nI P + 40 = nI (P + 40) from nI_add P 40, M_isInCheck e2.1 hO2.1 (by omega) hO.2, Option.bind_some]
        by_cases hc : chk (mkS σ k).1 σ.2.1 = true
        · simp only [if_pos hc]
          rw [if_pos (by decide)]
          obtain ⟨v', f1, f2⟩ := ih (k + 1) n v1 (by omega) (by omega) (hu.keep e3) (hf.trans e3)
          refine ⟨v', ?_, f2⟩
          have ho : okS σ k = false := by simp [okS, hc]
          rw [f1, ho]; rfl
        · simp only [if_neg hc]
          rw [if_neg (by decide)]
          refine ⟨v1, ?_, hf.trans e3⟩
          have ho : okS σ k = true := by simp [okS, h0]; simpa using hc
          rw [ho]; rfl
      · rw [if_pos (nI_ne0 (by omega) (by have := wnS_le σ k; omega))]
        obtain ⟨v', f1, f2⟩ := ih (k + 1) n u (by omega) (by omega) hu hf
        refine ⟨v', ?_, f2⟩
        have ho : okS σ k = false := by simp [okS, h0]
        rw [f1, ho]; rfl
  exact loop 1375 0 4096 v (by omega) (by omega) hR (FU.refl _ _)
def resS (σ : PS) (c : Nat) : Nat :=
  if wnS σ c ≠ 0 then wnS σ c else if chk (mkS σ c).1 σ.2.1 = true then (if c < 1250 then 6 else 5) else
  if (decide (1350 ≤ c) && (chk (mkS σ c).1 (1 - σ.2.1) && !hasS (mkS σ c))) = true then 6 else 0
theorem resS_le (σ : PS) (c : Nat) : resS σ c ≤ 6 := by
  unfold resS
  have := wnS_le σ c
  repeat' split
  all_goals omega
theorem M_reason {P c : Nat} {v : mvW} {σ : PS} (hR : RW v P σ) (hO : OKs σ) (hP : P ≤ 40) (h2 : c < 1375) : ∃ v', f_X5_reason (nI P) (nI c) v = some (nI (resS σ c), v') ∧ FU (P + 40) v v' ∧ (wnS σ c = 0 → RW v' (P + 40) (mkS σ c)) := by
  unfold f_X5_reason resS
  rw [M_whyNot hR hO (by omega) h2, Option.bind_some]
  have hle := wnS_le σ c
  by_cases h0 : wnS σ c = 0
  · obtain ⟨v1, e1, e2, e3⟩ := M_tries hR hO (by omega) h2 h0
    have hO2 := mkS_ok hO h2 h0
    rw [h0]
    dsimp only
    rw [if_pos (by decide), e1, Option.bind_some, px_p35 (by omega), Option.bind_some, (hR.keep e3).2.1, show nI P + 40 = nI (P + 40) from nI_add P 40, M_isInCheck e2.1 hO2.1 (by omega) hO.2, Option.bind_some, if_neg (show ¬ (0 : Nat) ≠ 0 from fun h => h rfl)]
    by_cases hc : chk (mkS σ c).1 σ.2.1 = true
    · simp only [if_pos hc]
      rw [if_neg (by decide)]
      refine ⟨v1, ?_, e3, fun _ => e2⟩
      by_cases h1 : 1250 ≤ c
      · rw [if_pos (q_le (L := 1250) (b := 1250) rfl h1 (by omega)), if_neg (by omega)]; rfl
      · rw [if_neg (q_nle (L := 1250) (b := 1250) rfl (by omega) (by omega)), if_pos (by omega)]; rfl
    · simp only [if_neg hc]
      rw [if_pos trivial]
      have g0 : ∀ u : mvW, f_X5_reason_73 (nI P) 0 u = some (nI 0, u) := fun u => by unfold f_X5_reason_73; rw [if_pos rfl]; rfl
      by_cases h1 : c < 1250
      · rw [if_pos (q_lt (L := 1250) (b := 1250) rfl h1 (by omega)), g0, if_neg (by rw [decide_eq_false (by omega), Bool.false_and]; decide)]
        exact ⟨v1, rfl, e3, fun _ => e2⟩
      · rw [if_neg (q_nlt (L := 1250) (b := 1250) rfl (by omega) (by omega)), M_kindOf v1 (by omega) h2, Option.bind_some]
        by_cases h5 : 1350 ≤ c
        · rw [if_neg (by rw [show (c - 1250) / 25 + 1 = 5 by omega]; exact fun h => h rfl)]
          unfold f_X5_reason_73
          rw [if_neg (by decide), px_p35 (by omega), Option.bind_some]
          simp only []
          rw [(hR.keep e3).2.1, show nI P + 40 = nI (P + 40) from nI_add P 40, show (1 : Int32) - nI σ.2.1 = nI (1 - σ.2.1) from pk_sub (a := 1) hO.2, M_isInCheck e2.1 hO2.1 (by omega) (by omega), Option.bind_some, decide_eq_true h5, Bool.true_and]
          by_cases hc2 : chk (mkS σ c).1 (1 - σ.2.1) = true
          · simp only [if_pos hc2]
            obtain ⟨v2, g1, g2⟩ := M_hasPlay e2 hO2 (by omega)
            rw [if_neg (by decide), g1, Option.bind_some, hc2, Bool.true_and]
            refine ⟨v2, ?_, e3.trans (g2.mono (by omega)), fun _ => e2.keep g2⟩
            cases hasS (mkS σ c) <;> rfl
          · simp only [if_neg hc2]
            rw [if_pos trivial, if_neg (by simp [hc2])]
            exact ⟨v1, rfl, e3, fun _ => e2⟩
        · rw [if_pos (fun h => h5 (by have := (nI_eq (b := 5) (by omega) (by omega)).mp h; omega)), g0, decide_eq_false h5, if_neg (by simp)]
          exact ⟨v1, rfl, e3, fun _ => e2⟩
  · rw [if_neg (nI_nle (by omega) (by omega)), if_pos h0]
    exact ⟨v, rfl, FU.refl _ _, fun h => absurd h h0⟩
def numN (f : Nat → Bool) : Nat → Nat
  | 0 => 0
  | n + 1 => numN f n + (if f n = true then 1 else 0)
def alw (σ : PS) (c : Nat) : Bool := decide (resS σ c = 0)
def numS (σ : PS) : Nat := numN (alw σ) 1375
theorem numN_le (f : Nat → Bool) : ∀ n, numN f n ≤ n
  | 0 => Nat.le_refl _
  | n + 1 => by rw [numN]; have := numN_le f n; split <;> omega
theorem M_plays {P : Nat} {v : mvW} {σ : PS} (hR : RW v P σ) (hO : OKs σ) (hP : P ≤ 40) : ∃ v', f_X5_plays (nI P) v = some (nI (numS σ), v') ∧ FU (P + 40) v v' := by
  have loop : ∀ (j k N : Nat) (u : mvW), k + j = 1375 → j + 1 ≤ N → RW u P σ → FU (P + 40) v u → ∃ v', f_X5_plays_4 N (nI P) (nI (numN (alw σ) k)) (nI k) u = some (nI (numS σ), v') ∧ FU (P + 40) v v' := by
    intro j
    induction j with
    | zero =>
      intro k N u hk hN hu hf
      obtain ⟨n, rfl⟩ : ∃ n, N = n + 1 := ⟨N - 1, by omega⟩
      have : k = 1375 := by omega
      subst this
      exact ⟨u, by rw [f_X5_plays_4, if_pos (by decide)]; rfl, hf⟩
    | succ j ih =>
      intro k N u hk hN hu hf
      obtain ⟨n, rfl⟩ : ∃ n, N = n + 1 := ⟨N - 1, by omega⟩
      obtain ⟨v1, e1, e2, -⟩ := M_reason hu hO hP (c := k) (by omega)
      obtain ⟨v', f1, f2⟩ := ih (k + 1) n v1 (by omega) (by omega) (hu.keep e2) (hf.trans e2)
      refine ⟨v', ?_, f2⟩
      rw [f_X5_plays_4, if_neg (q_nle (L := 1375) (b := 1375) rfl (by omega) (by omega)), e1, Option.bind_some, nI_1, nI_1, show nI (numN (alw σ) k) + 0 = nI (numN (alw σ) k) from nI_add _ 0]
      rw [numN] at f1
      have hle := resS_le σ k
      by_cases h0 : resS σ k = 0
      · rw [if_neg (by rw [h0]; exact fun h => h rfl)]
        rw [if_pos (by simp [alw, h0])] at f1
        exact f1
      · rw [if_pos (nI_ne0 (by omega) (by omega))]
        rw [if_neg (by simp [alw, h0])] at f1
        exact f1
  exact loop 1375 0 4096 v (by omega) (by omega) hR (FU.refl _ _)
