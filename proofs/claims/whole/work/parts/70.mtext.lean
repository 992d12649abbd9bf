/-! the text: how the reference reads it -/
def TV (v : mvW) (n : Nat) : Prop := n ≤ 60 ∧ v 0 7 = nI n
theorem M_sign {v : mvW} {n : Nat} (hT : TV v n) {p : Nat} (hp : p < 2 ^ 30) : f_X5_sign (nI p) v = some (gS n (v 5) p, v) := by
  obtain ⟨hn, h7⟩ := hT
  unfold f_X5_sign gS
  by_cases h : n ≤ p
  · rw [if_pos (show v 0 7 ≤ nI p by rw [h7]; exact nI_le h (by omega)), if_pos h]
  · rw [if_neg (show ¬ v 0 7 ≤ nI p by rw [h7]; exact nI_ge (by omega) (by omega)), if_neg h, px_ix (n := 60) (by omega) (by decide), Option.bind_some]
    try dsimp only
theorem ls_v : ls 0 = 103 ∧ ls 1 = 115 ∧ ls 2 = 98 ∧ ls 3 = 114 ∧ ls 4 = 112 := ⟨rfl, rfl, rfl, rfl, rfl⟩
theorem M_kol (x : Int32) (v : mvW) : f_X5_kindOfLetter x v = some (nI (kdl x), v) := by
  obtain ⟨l0, l1, l2, l3, l4⟩ := ls_v
  unfold f_X5_kindOfLetter kdl
  rw [l0, l1, l2, l3, l4]
  by_cases a : x = 98
  · subst a; rfl
  by_cases b : x = 103
  · subst b; rfl
  by_cases c : x = 112
  · subst c; rfl
  by_cases d : x = 114
  · subst d; rfl
  by_cases e : x = 115
  · subst e; rfl
  rw [if_neg a, if_neg b, if_neg c, if_neg d, if_neg e, if_neg b, if_neg e, if_neg a, if_neg d, if_neg c]; rfl
theorem ngt {p : Nat} (hp : p < 2 ^ 30) : ((-1 : Int32) - nI p).toInt = -1 - (p : Int) := by
  rw [Int32.toInt_sub, nI_toInt (by omega), show (-1 : Int32).toInt = -1 from rfl]
  exact Int.bmod_eq_of_le (by omega) (by omega)
theorem ng0 {p : Nat} (hp : p < 2 ^ 30) : ¬ 0 ≤ (-1 : Int32) - nI p := by
  rw [Int32.le_iff_toInt_le, ngt hp]
  show ¬ (0 : Int) ≤ _
  omega
theorem ng1 (p : Nat) : (-2 : Int32) - nI p = -1 - nI (p + 1) := by
  rw [nI_succ]; grind
theorem ng2 (p : Nat) : (-1 : Int32) - (-1 - nI p) = nI p := by grind
theorem ng3 {p : Nat} (hp : p < 2 ^ 30) : (-1 : Int32) - nI p ≤ 0 := by
  rw [Int32.le_iff_toInt_le, ngt hp]
  show _ ≤ (0 : Int)
  omega
theorem M_dg (x : Int32) (v : mvW) : f_X5_in x 48 52 v = some (if dg x = true then 1 else 0, v) := by
  rw [show f_X5_in x 48 52 v = _ from t5_in x 48 52 v]
  unfold dg
  by_cases h : nI 48 ≤ x ∧ x ≤ nI 52
  · rw [if_pos h, decide_eq_true h, if_pos rfl]
  · rw [if_neg h, decide_eq_false h, if_neg (by decide)]
theorem M_squareEnd {v : mvW} {n : Nat} (hT : TV v n) {p : Nat} (hp : p < 2 ^ 29) : f_X5_squareEnd (nI p) v = some (if dg (gS n (v 5) p) = true then (if dg (gS n (v 5) (p + 1)) = true then nI (p + 2) else -1 - nI (p + 1)) else -1 - nI p, v) := by
  unfold f_X5_squareEnd
  rw [if_pos (nI_pos' (by omega)), M_sign hT (by omega), Option.bind_some]
  try dsimp only
  rw [M_dg, Option.bind_some]
  try dsimp only
  by_cases h1 : dg (gS n (v 5) p) = true
  · simp only [if_pos h1]
    rw [if_pos (by decide), nI_1, M_sign hT (by omega), Option.bind_some]
    try dsimp only
    rw [M_dg, Option.bind_some]
    try dsimp only
    by_cases h2 : dg (gS n (v 5) (p + 1)) = true
    · simp only [if_pos h2]
      rw [if_neg (by decide), show nI p + 2 = nI (p + 2) from nI_add p 2]
    · simp only [if_neg h2]
      rw [if_pos trivial, ng1]
  · simp only [if_neg h1]
    rw [if_neg (fun h => h trivial)]
theorem M_squareNeg {p : Nat} (hp : p < 2 ^ 30) (v : mvW) : f_X5_squareEnd (-1 - nI p) v = some (-1 - nI p, v) := by
  unfold f_X5_squareEnd
  rw [if_neg (ng0 hp)]
theorem M_behind {v : mvW} {n : Nat} (hT : TV v n) {p : Nat} (hp : p < 2 ^ 29) (a : Int32) : f_X5_behind (nI p) a v = some (if gS n (v 5) p = a then nI (p + 1) else -1 - nI p, v) := by
  unfold f_X5_behind
  rw [if_pos (nI_pos' (by omega)), M_sign hT (by omega), Option.bind_some]
  try dsimp only
  by_cases h : gS n (v 5) p = a
  · rw [if_neg (fun hh => hh h), if_pos h, nI_1]
  · rw [if_pos h, if_neg h]
theorem M_behindNeg {p : Nat} (hp : p < 2 ^ 30) (a : Int32) (v : mvW) : f_X5_behind (-1 - nI p) a v = some (-1 - nI p, v) := by
  unfold f_X5_behind
  rw [if_neg (ng0 hp)]
theorem M_playEnd {v : mvW} {n : Nat} (hT : TV v n) {p : Nat} (hp : p < 2 ^ 28) : f_X5_playEnd (nI p) v = some (if (pE (gS n (v 5)) p).1 = true then nI (pE (gS n (v 5)) p).2 else -1 - nI (pE (gS n (v 5)) p).2, v) := by
  unfold f_X5_playEnd pE
  rw [M_sign hT (by omega), Option.bind_some]
  try dsimp only
  rw [M_kol, Option.bind_some]
  try dsimp only
  have k5 := kdl_le (gS n (v 5) p)
  by_cases hk : kdl (gS n (v 5) p) = 0
  · rw [if_pos (show nI (kdl (gS n (v 5) p)) ≤ 0 by rw [hk]; decide), if_neg (show ¬ (kdl (gS n (v 5) p) ≠ 0) from fun h => h hk), M_squareEnd hT (by omega), Option.bind_some]
    try dsimp only
    by_cases h1 : dg (gS n (v 5) p) = true
    · simp only [if_pos h1]
      by_cases h2 : dg (gS n (v 5) (p + 1)) = true
      · simp only [if_pos h2]
        rw [M_behind hT (by omega), Option.bind_some]
        try dsimp only
        by_cases h3 : gS n (v 5) (p + 2) = 45
        · simp only [if_pos h3]
          rw [M_squareEnd hT (by omega), Option.bind_some]
          try dsimp only
          rw [show p + 2 + 1 = p + 3 from rfl, show p + 3 + 1 = p + 4 from rfl]
          by_cases h4 : dg (gS n (v 5) (p + 3)) = true
          · simp only [if_pos h4]
            by_cases h5 : dg (gS n (v 5) (p + 4)) = true
            · simp only [if_pos h5]
              rw [show p + 3 + 2 = p + 5 from rfl, if_neg (nI_nle (by omega) (by omega)), M_sign hT (by omega), Option.bind_some]
              try dsimp only
              by_cases h6 : gS n (v 5) (p + 5) = 43
              · simp only [if_pos h6]
                rw [if_neg (fun h => h h6), nI_1, if_pos trivial]
              · simp only [if_neg h6]
                rw [if_pos h6, if_pos trivial]
            · simp only [if_neg h5]
              rw [if_pos (ng3 (by omega))]
              simp
          · simp only [if_neg h4]
            rw [if_pos (ng3 (by omega))]
            simp
        · simp only [if_neg h3]
          rw [M_squareNeg (by omega), Option.bind_some]
          try dsimp only
          rw [if_pos (ng3 (by omega))]
          simp
      · simp only [if_neg h2]
        rw [M_behindNeg (by omega), Option.bind_some]
        try dsimp only
        rw [M_squareNeg (by omega), Option.bind_some]
        try dsimp only
        rw [if_pos (ng3 (by omega))]
        simp
    · simp only [if_neg h1]
      rw [M_behindNeg (by omega), Option.bind_some]
      try dsimp only
      rw [M_squareNeg (by omega), Option.bind_some]
      try dsimp only
      rw [if_pos (ng3 (by omega))]
      simp
  · rw [if_neg (show ¬ nI (kdl (gS n (v 5) p)) ≤ 0 from nI_nle (by omega) (by omega)), if_pos (show kdl (gS n (v 5) p) ≠ 0 from hk), nI_1, M_behind hT (by omega), Option.bind_some]
    try dsimp only
    by_cases h1 : gS n (v 5) (p + 1) = 42
    · simp only [if_pos h1]
      rw [M_squareEnd hT (by omega), Option.bind_some]
      try dsimp only
      rw [show p + 1 + 1 = p + 2 from rfl, show p + 2 + 1 = p + 3 from rfl]
      by_cases h2 : dg (gS n (v 5) (p + 2)) = true
      · simp only [if_pos h2]
        by_cases h3 : dg (gS n (v 5) (p + 3)) = true
        · simp only [if_pos h3]
          simp
        · simp only [if_neg h3]
          simp
      · simp only [if_neg h2]
        simp
    · simp only [if_neg h1]
      rw [M_squareNeg (by omega), Option.bind_some]
      try dsimp only
      simp
theorem M_squareIn {v : mvW} {n : Nat} (hT : TV v n) {p : Nat} (hp : p < 2 ^ 29) (h1 : dg (gS n (v 5) p) = true) (h2 : dg (gS n (v 5) (p + 1)) = true) : f_X5_squareIn (nI p) v = some (nI (sqv (gS n (v 5)) p), v) := by
  unfold f_X5_squareIn
  rw [M_sign hT (by omega), Option.bind_some]
  try dsimp only
  rw [nI_1, M_sign hT (by omega), Option.bind_some]
  try dsimp only
  obtain ⟨a, a1, a2, a3⟩ := dg_of h1
  obtain ⟨b, b1, b2, b3⟩ := dg_of h2
  unfold sqv
  rw [a3, b3, a2, b2, show nI (48 + a) - 48 = nI (48 + a - 48) from pk_sub (b := 48) (by omega), show (5 : Int32) * nI (48 + a - 48) = nI (5 * (48 + a - 48)) from pk_mul 5 _, nI_add, show nI (5 * (48 + a - 48) + (48 + b)) - 48 = nI (5 * (48 + a - 48) + (48 + b) - 48) from pk_sub (b := 48) (by omega)]
  exact congrArg (fun x => some (nI x, v)) (by omega)
theorem pE_dig {g : Nat → Int32} {p : Nat} (h : (pE g p).1 = true) : (kdl (g p) ≠ 0 ∧ dg (g (p + 2)) = true ∧ dg (g (p + 3)) = true ∧ (pE g p).2 = p + 4) ∨ (kdl (g p) = 0 ∧ dg (g p) = true ∧ dg (g (p + 1)) = true ∧ dg (g (p + 3)) = true ∧ dg (g (p + 4)) = true ∧ ((g (p + 5) = 43 ∧ (pE g p).2 = p + 6) ∨ (pE g p).2 = p + 5)) := by
  unfold pE at h ⊢
  by_cases hk : kdl (g p) ≠ 0
  · rw [if_pos hk] at h ⊢
    left
    by_cases h1 : g (p + 1) = 42
    · rw [if_pos h1] at h ⊢
      by_cases h2 : dg (g (p + 2)) = true
      · rw [if_pos h2] at h ⊢
        by_cases h3 : dg (g (p + 3)) = true
        · rw [if_pos h3]; exact ⟨hk, h2, h3, rfl⟩
        · rw [if_neg h3] at h; cases h
      · rw [if_neg h2] at h; cases h
    · rw [if_neg h1] at h; cases h
  · rw [if_neg hk] at h ⊢
    right
    by_cases h1 : dg (g p) = true
    · rw [if_pos h1] at h ⊢
      by_cases h2 : dg (g (p + 1)) = true
      · rw [if_pos h2] at h ⊢
        by_cases h3 : g (p + 2) = 45
        · rw [if_pos h3] at h ⊢
          by_cases h4 : dg (g (p + 3)) = true
          · rw [if_pos h4] at h ⊢
            by_cases h5 : dg (g (p + 4)) = true
            · rw [if_pos h5]
              refine ⟨Decidable.not_not.mp hk, h1, h2, h4, h5, ?_⟩
              by_cases h6 : g (p + 5) = 43
              · rw [if_pos h6]; exact Or.inl ⟨h6, rfl⟩
              · rw [if_neg h6]; exact Or.inr rfl
            · rw [if_neg h5] at h; cases h
          · rw [if_neg h4] at h; cases h
        · rw [if_neg h3] at h; cases h
      · rw [if_neg h2] at h; cases h
    · rw [if_neg h1] at h; cases h
theorem M_codeIn {v : mvW} {n : Nat} (hT : TV v n) {p : Nat} (hp : p < 2 ^ 28) (h : (pE (gS n (v 5)) p).1 = true) : f_X5_codeIn (nI p) v = some (nI (pC (gS n (v 5)) p), v) := by
  unfold f_X5_codeIn pC
  rw [M_sign hT (by omega), Option.bind_some]
  try dsimp only
  rw [M_kol, Option.bind_some]
  try dsimp only
  have k5 := kdl_le (gS n (v 5) p)
  rcases pE_dig h with ⟨hk, h2, h3, -⟩ | ⟨hk, h1, h2, h3, h4, -⟩
  · rw [if_neg (show ¬ nI (kdl (gS n (v 5) p)) ≤ 0 from nI_nle (by omega) (by omega)), if_pos hk, show nI p + 2 = nI (p + 2) from nI_add p 2, M_squareIn hT (by omega) h2 h3, Option.bind_some]
    try dsimp only
    rw [px_dc (by omega)]
  · rw [if_pos (show nI (kdl (gS n (v 5) p)) ≤ 0 by rw [hk]; decide), if_neg (show ¬ (kdl (gS n (v 5) p) ≠ 0) from fun h => h hk), show nI p + 5 = nI (p + 5) from nI_add p 5, M_sign hT (by omega), Option.bind_some]
    try dsimp only
    unfold f_X5_codeIn_51
    rw [M_squareIn hT (by omega) h1 h2, show nI p + 3 = nI (p + 3) from nI_add p 3]
    by_cases h6 : gS n (v 5) (p + 5) = 43
    · rw [if_neg (fun h => h h6), Option.bind_some]
      try dsimp only
      rw [M_squareIn hT (by omega) h3 h4, Option.bind_some]
      try dsimp only
      rw [decide_eq_true h6, show (25 : Int32) * nI (sqv (gS n (v 5)) p) = nI (25 * sqv (gS n (v 5)) p) from pk_mul 25 _, show (625 : Int32) + nI (25 * sqv (gS n (v 5)) p) = nI (625 + 25 * sqv (gS n (v 5)) p) from nI_add 625 _, nI_add]
      unfold mcd
      rw [if_pos rfl]
      exact congrArg (fun x => some (nI x, v)) (by omega)
    · rw [if_pos h6, Option.bind_some]
      try dsimp only
      rw [M_squareIn hT (by omega) h3 h4, Option.bind_some]
      try dsimp only
      rw [decide_eq_false h6, show (25 : Int32) * nI (sqv (gS n (v 5)) p) = nI (25 * sqv (gS n (v 5)) p) from pk_mul 25 _, Int32.zero_add, nI_add]
      unfold mcd
      rw [if_neg (by decide)]
      rfl
