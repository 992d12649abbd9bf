/-! the law: who attacks which square -/
theorem rayL_hi (b : Nat → Nat) (m : Nat) {t : Nat} (h1 : 25 ≤ t) (h2 : t < 32) : ∀ (l : List Nat) (far : Nat), (∀ q ∈ l, q < 25) → bt (rayL b m far l) t = false
  | [], _, _ => by simp [rayL, b_0]
  | q :: qs, far, h => by
    have hq := h q List.mem_cons_self
    have ih := rayL_hi b m h1 h2 qs (far + 1) (fun r hr => h r (List.mem_cons_of_mem _ hr))
    rw [rayL]
    by_cases e1 : far ≤ m
    · rw [if_pos e1, b_or, px_one (by omega) h2, decide_eq_false (by omega), Bool.false_or]
      by_cases e2 : b q = 0
      · rw [if_pos e2, ih]
      · rw [if_neg e2, b_0]
    · rw [if_neg e1, b_0]
theorem attM_hi (b : Nat → Nat) (x : Nat) {q t : Nat} (hq : q < 25) (h1 : 25 ≤ t) (h2 : t < 32) : bt (attM b x q) t = false := by
  have h : ∀ n, n ≤ 8 → bt (attN b x q n) t = false := by
    intro n
    induction n with
    | zero => intro _; simp [attN, b_0]
    | succ n ih =>
      intro hn
      rw [attN, b_or, ih (by omega), rayL_hi b (mst x n) h1 h2 (pth q n) 1 (fun r hr => pthN_lt 4 q n hq (by omega) r hr)]; rfl
  exact h 8 (Nat.le_refl 8)
def setA (b : Nat → Nat) (q : Nat) : Int32 := if b q = 0 then 0 else attM b (b q) q
theorem KW.o16 {w u : mvW} (h : ∀ c, c ≠ 16 → u c = w c) : KW w u := ⟨h 0 (by decide), h 9 (by decide), h 10 (by decide), by rw [h 11 (by decide)], h 12 (by decide), h 15 (by decide)⟩
theorem IV.o16 {w u : mvW} {σ : PS} {k : Nat} {hs : Nat → PS} (h : IV w σ k hs) (hu : ∀ c, c ≠ 16 → u c = w c) : IV u σ k hs := h.keep (h.1.oth (hu 2 (by decide)) (hu 3 (by decide))) (KW.o16 hu)
section AA
variable {w : mvW} {σ : PS} {k : Nat} {hs : Nat → PS}
theorem D_aa52 (h : IV w σ k hs) (h16 : ∀ q, q < 25 → w 16 q = setA σ.1 q) {x : Nat} (hx : x < 50) (k41 : Int32 → mvW → Option (Int32 × mvW)) : ∀ j i N, i + j = 25 → j + 1 ≤ N → f_L_areAttacks_0_52 k41 N (nI x) (nI (cntN σ.1 (x / 25) (x % 25) i)) (nI i) w = k41 (nI (x + 1)) w := by
  intro j
  induction j with
  | zero =>
    intro i N hi hN
    obtain ⟨n, rfl⟩ : ∃ n, N = n + 1 := ⟨N - 1, by omega⟩
    have : i = 25 := by omega
    subst this
    rw [f_L_areAttacks_0_52, if_pos (by decide), px_r25 (by omega), px_d25 (by omega), D_attackers h (by omega) (by omega), Option.bind_some]
    try dsimp only
    rw [if_pos (show nI (cnt σ.1 (x / 25) (x % 25)) = nI (cntN σ.1 (x / 25) (x % 25) 25) from rfl), nI_1]
  | succ j ih =>
    intro i N hi hN
    obtain ⟨n, rfl⟩ : ∃ n, N = n + 1 := ⟨N - 1, by omega⟩
    have hi25 : i < 25 := by omega
    have h20 := h.1.2.2.2.1 i hi25
    have r := ih (i + 1) n (by omega) (by omega)
    obtain ⟨n1, n2⟩ := mn_none (σ.1 i) h20
    rw [f_L_areAttacks_0_52, if_neg (q_nle (L := 25) (b := 25) rfl hi25 (by omega)), D_manI h hi25, Option.bind_some]
    try dsimp only
    rw [nI_1, nI_1, show nI (cntN σ.1 (x / 25) (x % 25) i) + 0 = nI (cntN σ.1 (x / 25) (x % 25) i) from Int32.add_zero _]
    rw [cntN] at r
    by_cases hz : σ.1 i = 0
    · rw [if_pos (n2.mpr hz)]
      rw [if_neg (by simp [isOwn, hz])] at r
      exact r
    · obtain ⟨f1, f2, f3, f4, f5, f6, f7, f8⟩ := mn_facts (σ.1 i) h20 hz
      rw [if_neg (fun e => hz (n2.mp e)), f8, px_r25 (by omega), px_d25 (by omega)]
      by_cases ho : (σ.1 i - 1) / 10 = x / 25
      · rw [if_neg (fun e => e (by rw [ho])), px_ix (n := 25) hi25 (by decide), Option.bind_some]
        try dsimp only
        rw [px_bit _ (by omega), h16 i hi25]
        unfold setA
        rw [if_neg hz, attM_bit _ _ hi25 (by omega)]
        have eo : isOwn σ.1 (x / 25) i = true := by simp [isOwn, hz, ho]
        rw [eo, Bool.true_and] at r
        by_cases ha : att σ.1 (σ.1 i) i (x % 25) = true
        · rw [if_pos ha, if_neg (fun e => e rfl)]
          rw [if_pos ha] at r
          exact r
        · rw [if_neg ha, if_pos (by decide)]
          rw [if_neg ha] at r
          exact r
      · rw [if_pos (fun e => ho ((nI_eq (by omega) (by omega)).mp e))]
        rw [if_neg (by simp [isOwn, ho])] at r
        exact r
theorem D_aa41 (h : IV w σ k hs) (h16 : ∀ q, q < 25 → w 16 q = setA σ.1 q) : ∀ j i N, i + j = 50 → j + 1 ≤ N → f_L_areAttacks_0_41 N (nI i) w = some (1, w) := by
  intro j
  induction j with
  | zero =>
    intro i N hi hN
    obtain ⟨n, rfl⟩ : ∃ n, N = n + 1 := ⟨N - 1, by omega⟩
    have : i = 50 := by omega
    subst this
    rw [f_L_areAttacks_0_41, if_pos (by decide)]
  | succ j ih =>
    intro i N hi hN
    obtain ⟨n, rfl⟩ : ∃ n, N = n + 1 := ⟨N - 1, by omega⟩
    rw [f_L_areAttacks_0_41, if_neg (q_nle (L := 50) (b := 50) rfl (by omega) (by omega))]
    exact (D_aa52 h h16 (x := i) (by omega) _ 25 0 4096 (by omega) (by omega)).trans (ih (i + 1) n (by omega) (by omega))
theorem D_areAttacks (h : IV w σ k hs) : Lk f_L_areAttacks_0 w σ k hs 1 := by
  have loop : ∀ j i N (u : mvW), i + j = 25 → j + 1 ≤ N → (∀ c, c ≠ 16 → u c = w c) → (∀ q, q < i → u 16 q = setA σ.1 q) → ∃ u', f_L_areAttacks_0_7 N (nI i) u = some (1, u') ∧ IV u' σ k hs := by
    intro j
    induction j with
    | zero =>
      intro i N u hi hN hu h16
      obtain ⟨n, rfl⟩ : ∃ n, N = n + 1 := ⟨N - 1, by omega⟩
      have : i = 25 := by omega
      subst this
      rw [f_L_areAttacks_0_7, if_pos (by decide)]
      exact ⟨u, D_aa41 (h.o16 hu) h16 50 0 4096 (by omega) (by omega), h.o16 hu⟩
    | succ j ih =>
      intro i N u hi hN hu h16
      obtain ⟨n, rfl⟩ : ∃ n, N = n + 1 := ⟨N - 1, by omega⟩
      have hi25 : i < 25 := by omega
      have hI := h.o16 hu
      have go : ∀ x : Int32, x = setA σ.1 i → ∃ u', f_L_areAttacks_0_7 n (nI (i + 1)) (mv_up u 16 i x) = some (1, u') ∧ IV u' σ k hs := by
        intro x hx
        refine ih (i + 1) n _ (by omega) (by omega) (fun c hc => (up_ne _ _ _ _ hc).trans (hu c hc)) (fun q hq => ?_)
        rw [rds]
        by_cases e : q = i
        · rw [if_pos e, hx, e]
        · rw [if_neg e]; exact h16 q (by omega)
      rw [f_L_areAttacks_0_7, if_neg (q_nle (L := 25) (b := 25) rfl hi25 (by omega)), D_attacked hI hi25, Option.bind_some]
      try dsimp only
      by_cases hz : σ.1 i = 0
      · rw [if_pos hz, if_neg (show ¬ (0 : Int32) ≤ -1005 by decide), px_ix (n := 25) hi25 (by decide), Option.bind_some]
        try dsimp only
        rw [nI_1]
        exact go 0 (by unfold setA; rw [if_pos hz])
      · rw [if_neg hz, if_pos (Int32.not_lt.mp (bt31 (attM_hi _ _ hi25 (by decide) (by decide)))), D_attacked hI hi25, Option.bind_some]
        try dsimp only
        rw [if_neg hz, px_ix (n := 25) hi25 (by decide), Option.bind_some]
        try dsimp only
        rw [nI_1]
        exact go _ (by unfold setA; rw [if_neg hz])
  unfold f_L_areAttacks_0
  exact loop 25 0 4096 (mv_z w 16) (by omega) (by omega) (fun c hc => by unfold mv_z; rw [if_neg hc]) (fun q hq => absurd hq (Nat.not_lt_zero q))
end AA
