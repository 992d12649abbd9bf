/-! the law: men, worths, kings and hands agree -/
def kc (b : Nat → Nat) : Nat → Nat
  | 0 => 0
  | n + 1 => kc b n + (if b n = 1 then 1 else if b n = 11 then 10 else 0)
theorem num_uni {f : Nat → Bool} : ∀ n, (∀ c, c < n → ∀ d, d < n → f c = true → f d = true → c = d) → numN f n ≤ 1
  | 0, _ => Nat.zero_le _
  | n + 1, h => by
    rw [numN]
    have ih := num_uni n (fun c hc d hd => h c (by omega) d (by omega))
    by_cases e : f n = true
    · rw [if_pos e]
      have : numN f n = 0 := by
        rcases Nat.eq_zero_or_pos (numN f n) with z | z
        · exact z
        · obtain ⟨c, hc, hf, -⟩ := numN_rank (f := f) (r := 0) n z
          have := h c (by omega) n (by omega) hf e
          omega
      omega
    · rw [if_neg e]; exact ih
theorem kc_num (b : Nat → Nat) : ∀ n, kc b n = numN (fun q => decide (b q = 1)) n + 10 * numN (fun q => decide (b q = 11)) n
  | 0 => rfl
  | n + 1 => by
    rw [kc, numN, numN, kc_num b n]
    by_cases h1 : b n = 1
    · simp [h1]; omega
    · by_cases h2 : b n = 11
      · simp [h2]; omega
      · simp [h1, h2]
theorem kc_ok {b : Nat → Nat} (hU : KU b) : kc b 25 % 10 < 2 ∧ kc b 25 / 10 < 2 ∧ kc b 25 < 100 := by
  have h0 := num_uni (f := fun q => decide (b q = 1)) 25 (fun c hc d hd h1 h2 => hU 0 (by decide) c d hc hd (of_decide_eq_true h1) (of_decide_eq_true h2))
  have h1 := num_uni (f := fun q => decide (b q = 11)) 25 (fun c hc d hd h1 h2 => hU 1 (by decide) c d hc hd (of_decide_eq_true h1) (of_decide_eq_true h2))
  rw [kc_num]
  omega
theorem wB_neg {b : Nat → Nat} (hO : OKb b) : ∀ n, n ≤ 25 → wB b 1 n = -wB b 0 n
  | 0, _ => by show (0 : Int32) = -0; decide
  | n + 1, hn => by
    have ih := wB_neg hO n (by omega)
    have h20 := hO n (by omega)
    rw [wB, wB, ih]
    by_cases h : b n = 0
    · rw [if_pos h, if_pos h]
    · rw [if_neg h, if_neg h]
      by_cases h0 : (b n - 1) / 10 = 0
      · rw [if_neg (by omega), if_pos h0]
        grind
      · rw [if_pos (by omega), if_neg h0]
        grind
theorem wrS_neg {σ : PS} (hO : OKs σ) : wrS σ 1 = -wrS σ 0 := by
  unfold wrS
  rw [wB_neg hO.1 25 (by omega)]
  generalize wB σ.1 0 25 = B
  generalize σ.2.2.1 = h
  simp [wHc, wt, tb_WORTHS]
  grind
section AM
variable {w : mvW} {σ : PS} {k : Nat} {hs : Nat → PS}
theorem D_am275 (h : IV w σ k hs) {s : Nat} (hs2 : σ.2.1 = s) : f_L_areMen_0_275 (nI s) 1 w = some (1, w) := by
  subst hs2
  have ht := h.1.2.2.2.2
  unfold f_L_areMen_0_275
  rw [if_neg (by decide), D_total4 h, Option.bind_some]
  try dsimp only
  rw [D_isChecked h (by omega), Option.bind_some]
  try dsimp only
  by_cases hc : chk σ.1 σ.2.1 = true
  · rw [if_pos hc, if_neg (show ¬ (1 : Int32) = 0 by decide), if_neg (show ¬ ¬ (1 : Int32) = 1 from fun e => e rfl)]
  · rw [if_neg hc, if_pos rfl, if_neg (show ¬ ¬ (0 : Int32) = 0 from fun e => e rfl)]
def hn5 (h : Nat → Int32) (j : Nat) : Int32 := if j ≤ 5 then hnd h 0 j else hnd h 0 5
theorem D_am127 (h : IV w σ k hs) (hn : ∀ i, i < 10 → 0 ≤ σ.2.2.1 i) : ∀ j i N, i + j = 10 → j + 1 ≤ N → f_L_areMen_0_127 N (nI (brd σ.1 25)) (wHm σ.2.2.1 (wB σ.1 0 25) 0 i) (nI (kc σ.1 25)) (hn5 σ.2.2.1 i) (nI i) w = some (1, w) := by
  intro j
  induction j with
  | zero =>
    intro i N hi hN
    obtain ⟨n, rfl⟩ : ∃ n, N = n + 1 := ⟨N - 1, by omega⟩
    have : i = 10 := by omega
    subst this
    obtain ⟨k1, k2, k3⟩ := kc_ok h.1.2.2.1
    have ew : wHm σ.2.2.1 (wB σ.1 0 25) 0 10 = wrS σ 0 := by unfold wrS; rw [wH_eq _ _ (by omega)]
    rw [ew, f_L_areMen_0_127, if_pos (by decide), D_total0 h, Option.bind_some]
    try dsimp only
    rw [D_total1 h, Option.bind_some]
    try dsimp only
    rw [if_neg (fun e => e rfl), D_total2 h, Option.bind_some]
    try dsimp only
    rw [if_neg (show ¬ ¬ hnd σ.2.2.1 0 5 = hn5 σ.2.2.1 10 from fun e => e (by unfold hn5; rw [if_neg (by decide)])), show f_X4_worth 0 w = _ from D_worth h (s := 0) (by omega), Option.bind_some]
    try dsimp only
    rw [if_neg (fun e => e rfl), show f_X4_worth 1 w = _ from D_worth h (s := 1) (by omega), Option.bind_some]
    try dsimp only
    rw [if_neg (fun e => e (wrS_neg h.1.2.2.2)), px_r10 (by omega), px_d10 (by omega), if_neg (q_nle (L := 2) (b := 2) rfl k1 (by omega)), if_neg (q_nle (L := 2) (b := 2) rfl k2 (by omega))]
    exact D_am275 h rfl
  | succ j ih =>
    intro i N hi hN
    obtain ⟨n, rfl⟩ : ∃ n, N = n + 1 := ⟨N - 1, by omega⟩
    have r := ih (i + 1) n (by omega) (by omega)
    have ea : (1 : Int32) + nI (i % 5) = nI (1 + i % 5) := nI_add 1 _
    have eh : 5 * (i / 5) + (1 + i % 5) - 1 = i := by omega
    rw [f_L_areMen_0_127, if_neg (q_nle (L := 10) (b := 10) rfl (by omega) (by omega)), px_r5 (by omega), px_d5 (by omega), ea, D_hand h (by omega) (by omega) (by omega), Option.bind_some, eh]
    try dsimp only
    rw [wHm] at r
    have hpos : 0 ≤ σ.2.2.1 i := hn i (by omega)
    have ew : f_L_worth (1 + (nI i - nI i / 5 * 5)) w = some (wt (i % 5 + 1), w) := by
      rw [px_r5 (by omega), ea, D_lworth (by omega), Nat.add_comm]
    by_cases h5 : i < 5
    · rw [if_neg (q_nle (L := 5) (b := 5) rfl h5 (by omega))]
      unfold f_L_areMen_0_164
      rw [if_neg (q_nle (L := 5) (b := 5) rfl h5 (by omega))]
      unfold f_L_areMen_0_182
      rw [ew, Option.bind_some]
      try dsimp only
      rw [if_pos hpos, nI_1]
      rw [if_pos (by omega)] at r
      rw [← r]
      have e5 : hn5 σ.2.2.1 i + σ.2.2.1 i = hn5 σ.2.2.1 (i + 1) := by
        unfold hn5
        rw [if_pos (by omega), if_pos (by omega), hnd, Nat.zero_add]
      rw [e5]
    · rw [if_pos (q_le (L := 5) (b := 5) rfl (by omega) (by omega))]
      unfold f_L_areMen_0_164
      rw [if_pos (q_le (L := 5) (b := 5) rfl (by omega) (by omega))]
      unfold f_L_areMen_0_182
      rw [ew, Option.bind_some]
      try dsimp only
      rw [if_pos hpos, nI_1]
      rw [if_neg (by omega)] at r
      rw [← r]
      have e5 : hn5 σ.2.2.1 i + 0 = hn5 σ.2.2.1 (i + 1) := by
        rw [Int32.add_zero]
        unfold hn5
        rw [if_neg (show ¬ i + 1 ≤ 5 by omega)]
        by_cases e : i ≤ 5
        · rw [if_pos e, show i = 5 by omega]
        · rw [if_neg e]
      rw [e5, Int32.neg_mul]
theorem D_areMen (h : IV w σ k hs) (hn : ∀ i, i < 10 → 0 ≤ σ.2.2.1 i) : f_L_areMen_0 w = some (1, w) := by
  have loop : ∀ j i N, i + j = 25 → j + 1 ≤ N → f_L_areMen_0_9 N (nI (brd σ.1 i)) (wB σ.1 0 i) (nI (kc σ.1 i)) (nI i) w = some (1, w) := by
    intro j
    induction j with
    | zero =>
      intro i N hi hN
      obtain ⟨n, rfl⟩ : ∃ n, N = n + 1 := ⟨N - 1, by omega⟩
      have : i = 25 := by omega
      subst this
      rw [f_L_areMen_0_9, if_pos (by decide)]
      exact D_am127 h hn 10 0 4096 (by omega) (by omega)
    | succ j ih =>
      intro i N hi hN
      obtain ⟨n, rfl⟩ : ∃ n, N = n + 1 := ⟨N - 1, by omega⟩
      have hi25 : i < 25 := by omega
      have h20 := h.1.2.2.2.1 i hi25
      have r := ih (i + 1) n (by omega) (by omega)
      obtain ⟨n1, n2⟩ := mn_none (σ.1 i) h20
      rw [f_L_areMen_0_9, if_neg (q_nle (L := 25) (b := 25) rfl hi25 (by omega)), D_manI h hi25, Option.bind_some]
      try dsimp only
      unfold brd at r ⊢
      rw [numN, wB, kc] at r
      by_cases hz : σ.1 i = 0
      · rw [if_neg (fun e => e (n1.mpr hz)), D_attacked h hi25, if_pos hz, Option.bind_some]
        try dsimp only
        rw [if_pos rfl, nI_1]
        rw [if_neg (by rw [hz]; decide), if_pos hz, if_neg (by rw [hz]; decide), if_neg (by rw [hz]; decide)] at r
        exact r
      · obtain ⟨f1, f2, f3, f4, f5, f6, f7, f8⟩ := mn_facts (σ.1 i) h20 hz
        have hk10 : knd (σ.1 i) < 10 := Nat.mod_lt _ (by decide)
        rw [if_pos (fun e => hz (n1.mp e)), if_neg (fun e => hz (n2.mp e)), if_pos f1]
        rw [if_pos (decide_eq_true hz), if_neg hz] at r
        have fin : ∀ x : Int32, x = (if (σ.1 i - 1) / 10 = 0 then wt (knd (σ.1 i)) else -wt (knd (σ.1 i))) → f_L_areMen_0_88 (fun x1' x2' x3' x4' w' => f_L_areMen_0_9 n x1' x2' x3' x4' w') (nI (numN (fun q => decide (σ.1 q ≠ 0)) i) + 1) (nI (kc σ.1 i)) (nI i) (mnI (σ.1 i)) x (wB σ.1 0 i) w = some (1, w) := by
          intro x hx
          have ewb : (if (σ.1 i - 1) / 10 = 0 then wB σ.1 0 i + wt (knd (σ.1 i)) else wB σ.1 0 i + -wt (knd (σ.1 i))) = wB σ.1 0 i + x := by
            rw [hx]
            by_cases h0 : (σ.1 i - 1) / 10 = 0
            · rw [if_pos h0, if_pos h0]
            · rw [if_neg h0, if_neg h0]
          rw [ewb] at r
          unfold f_L_areMen_0_88
          rw [nI_1, nI_1]
          by_cases hk : σ.1 i = 1 ∨ σ.1 i = 11
          · rw [if_neg (fun e => e (f5.mpr hk))]
            rcases hk with hk | hk
            · rw [f6 hk, nI_add]
              rw [if_pos hk] at r
              exact r
            · rw [f7 hk, nI_add]
              rw [if_neg (by omega), if_pos hk] at r
              exact r
          · rw [if_pos (fun e => hk (f5.mp e)), Int32.add_zero]
            rw [if_neg (fun e => hk (Or.inl e)), if_neg (fun e => hk (Or.inr e)), Nat.add_zero] at r
            exact r
        by_cases h0 : (σ.1 i - 1) / 10 = 0
        · rw [if_neg (fun e => f2.mp e h0)]
          have ew : f_L_worth (mnI (σ.1 i)) w = some (wt (knd (σ.1 i)), w) := by rw [f4 h0]; exact D_lworth hk10 w
          rw [ew, Option.bind_some]
          try dsimp only
          exact fin _ (by rw [if_pos h0])
        · rw [if_pos (f2.mpr h0), f3 h0, D_lworth hk10, Option.bind_some]
          try dsimp only
          exact fin _ (by rw [if_neg h0])
  unfold f_L_areMen_0
  exact loop 25 0 4096 (by omega) (by omega)
end AM
