/-! the text: how both sides read plays from it -/
def gS (n : Nat) (t : Nat → Int32) (i : Nat) : Int32 := if n ≤ i then -1 else t i
def dg (x : Int32) : Bool := decide (nI 48 ≤ x ∧ x ≤ nI 52)
def dv (x : Int32) : Nat := (x - 48).toNatClampNeg
def ls (k : Nat) : Int32 := ([103, 115, 98, 114, 112] : List Int32).getD k 0
def kdl (x : Int32) : Nat := if x = ls 0 then 1 else if x = ls 1 then 2 else if x = ls 2 then 3 else if x = ls 3 then 4 else if x = ls 4 then 5 else 0
theorem kdl_le (x : Int32) : kdl x ≤ 5 := by unfold kdl; repeat' split
                                             all_goals omega
theorem dg_of {x : Int32} (h : dg x = true) : ∃ k, k < 5 ∧ x = nI (48 + k) ∧ dv x = k := by
  unfold dg at h
  have h := of_decide_eq_true h
  rcases rng x 48 52 (by omega) (by omega) with ⟨⟨q, h1, h2, rfl⟩, _⟩ | hn
  · refine ⟨q - 48, by omega, by rw [show 48 + (q - 48) = q by omega], ?_⟩
    unfold dv
    rw [show nI q - 48 = nI (q - 48) from pk_sub (b := 48) h1, nI_clamp (by omega)]
  · exact absurd h hn
theorem dg_is {k : Nat} (h : k < 5) : dg (nI (48 + k)) = true := by
  unfold dg
  exact decide_eq_true ⟨nI_le (by omega) (by omega), nI_le (by omega) (by omega)⟩
def sqv (g : Nat → Int32) (p : Nat) : Nat := 5 * dv (g p) + dv (g (p + 1))
def pE (g : Nat → Int32) (p : Nat) : Bool × Nat :=
  if kdl (g p) ≠ 0 then (if g (p + 1) = 42 then (if dg (g (p + 2)) = true then (if dg (g (p + 3)) = true then (true, p + 4) else (false, p + 3)) else (false, p + 2)) else (false, p + 1))
  else if dg (g p) = true then (if dg (g (p + 1)) = true then (if g (p + 2) = 45 then (if dg (g (p + 3)) = true then (if dg (g (p + 4)) = true then (true, if g (p + 5) = 43 then p + 6 else p + 5) else (false, p + 4)) else (false, p + 3)) else (false, p + 2)) else (false, p + 1)) else (false, p)
def pC (g : Nat → Int32) (p : Nat) : Nat := if kdl (g p) ≠ 0 then dcd (kdl (g p)) (sqv g (p + 2)) else mcd (sqv g p) (sqv g (p + 3)) (decide (g (p + 5) = 43))
/-! the class reads -/
def cu (w : mvW) (p : Nat) : mvW := mv_up w 11 4 (nI p)
theorem cu_cu (w : mvW) (p q : Nat) : mv_up (cu w p) 11 4 (nI q) = cu w q := by
  funext c j
  unfold cu
  by_cases hc : c = 11
  · subst hc
    rw [rds, rds, rds]
    by_cases e : j = 4
    · rw [if_pos e, if_pos e]
    · rw [if_neg e, if_neg e, if_neg e]
  · rw [up_ne _ _ _ _ hc, up_ne _ _ _ _ hc, up_ne _ _ _ _ hc]
def TW (w : mvW) (n : Nat) : Prop := n ≤ 60 ∧ w 11 1 = nI n
theorem C_isNext {w : mvW} {n : Nat} (hT : TW w n) {p : Nat} (hp : p < 2 ^ 30) {a : Int32} (ha : a ≠ -1) : f_X1_isNext a (cu w p) = some (if gS n (w 12) p = a then 1 else 0, cu w p) := by
  obtain ⟨hn, h11⟩ := hT
  have e4 : cu w p 11 4 = nI p := by unfold cu; rw [rds, if_pos rfl]
  have e1 : cu w p 11 1 = nI n := by unfold cu; rw [rds, if_neg (by decide)]; exact h11
  have e12 : cu w p 12 = w 12 := by unfold cu; exact up_ne _ _ _ _ (by decide)
  unfold f_X1_isNext gS
  rw [if_neg (show ¬ cu w p 11 4 < 0 by rw [e4]; exact nI_pos (by omega))]
  by_cases h : n ≤ p
  · rw [if_pos (show cu w p 11 1 ≤ cu w p 11 4 by rw [e1, e4]; exact nI_le h (by omega)), if_pos h, if_neg (fun e => ha e.symm)]
  · rw [if_neg (show ¬ cu w p 11 1 ≤ cu w p 11 4 by rw [e1, e4]; exact nI_ge (by omega) (by omega)), if_neg (show ¬ 60 ≤ cu w p 11 4 by rw [e4]; exact q_nle (L := 60) (b := 60) rfl (by omega) (by omega)), show mv_ix 60 (cu w p 11 4) = some p by rw [e4]; exact px_ix (by omega) (by decide), Option.bind_some]
    try dsimp only
    rw [if_neg h, e12]
    by_cases e : w 12 p = a
    · rw [if_neg (fun h => h e), if_pos e]
    · rw [if_pos e, if_neg e]
theorem C_passes {w : mvW} {n : Nat} (hT : TW w n) {p : Nat} (hp : p < 2 ^ 30) {a : Int32} (ha : a ≠ -1) : f_X1_passes a (cu w p) = if gS n (w 12) p = a then some (1, cu w (p + 1)) else some (0, cu w p) := by
  have e4 : cu w p 11 4 = nI p := by unfold cu; rw [rds, if_pos rfl]
  unfold f_X1_passes
  rw [C_isNext hT hp ha, Option.bind_some]
  try dsimp only
  by_cases e : gS n (w 12) p = a
  · simp only [if_pos e]
    rw [if_pos (by decide), e4, nI_1, cu_cu]
  · simp only [if_neg e]
    rw [if_neg (fun h => h trivial)]
theorem J_len (w : mvW) : f_J0_length_8abf5 w = some (nI 5, w) := by
  unfold f_J0_length_8abf5 f_J0_coder_7d493
  have e : mv_nr .byte 0 w = some (0, w) := by unfold mv_nr; rw [if_pos (by decide)]
  rw [if_neg (by decide), e]
  rw [Option.bind_some]
  try dsimp only
  rw [show (5 : Int32) >>> ((0 : Int32) &&& 31) = nI 5 by decide]
theorem J_at {k : Nat} (hk : k < 5) (w : mvW) : f_J0_charAt_5068e (nI k) w = some (ls k, w) := by
  have : k = 0 ∨ k = 1 ∨ k = 2 ∨ k = 3 ∨ k = 4 := by omega
  rcases this with rfl | rfl | rfl | rfl | rfl <;> rfl
theorem ls_ne {k : Nat} (hk : k < 5) : ls k ≠ -1 := by
  have : k = 0 ∨ k = 1 ∨ k = 2 ∨ k = 3 ∨ k = 4 := by omega
  rcases this with rfl | rfl | rfl | rfl | rfl <;> decide
theorem C_kl {w : mvW} {n : Nat} (hT : TW w n) {p : Nat} (hp : p < 2 ^ 30) {k : Nat} (hk : k < 5) (N : Nat) : f_X1_kindOfLetter_2 (N + 1) (nI k) (cu w p) = if gS n (w 12) p = ls k then some (nI (k + 1), cu w p) else f_X1_kindOfLetter_2 N (nI (k + 1)) (cu w p) := by
  rw [f_X1_kindOfLetter_2, J_len, Option.bind_some]
  try dsimp only
  rw [if_neg (nI_ge hk (by omega)), J_at hk, Option.bind_some]
  try dsimp only
  rw [C_isNext hT hp (ls_ne hk), Option.bind_some]
  try dsimp only
  rw [nI_1]
  by_cases e : gS n (w 12) p = ls k
  · simp only [if_pos e]
    rw [if_neg (by decide), show (1 : Int32) + nI k = nI (1 + k) from nI_add 1 k, Nat.add_comm]
  · simp only [if_neg e]
    rw [if_pos trivial]
theorem C_kindOfLetter {w : mvW} {n : Nat} (hT : TW w n) {p : Nat} (hp : p < 2 ^ 30) : f_X1_kindOfLetter (cu w p) = some (if kdl (gS n (w 12) p) = 0 then -1 else nI (kdl (gS n (w 12) p)), cu w p) := by
  unfold f_X1_kindOfLetter kdl
  rw [show f_X1_kindOfLetter_2 4096 0 (cu w p) = f_X1_kindOfLetter_2 (4095 + 1) (nI 0) (cu w p) from rfl, C_kl hT hp (by omega), C_kl hT hp (by omega), C_kl hT hp (by omega), C_kl hT hp (by omega), C_kl hT hp (by omega)]
  rw [f_X1_kindOfLetter_2, J_len, Option.bind_some]
  try dsimp only
  rw [if_pos (nI_le (by omega) (by omega))]
  by_cases e0 : gS n (w 12) p = ls 0
  · rw [if_pos e0, if_pos e0]; rfl
  rw [if_neg e0, if_neg e0]
  by_cases e1 : gS n (w 12) p = ls 1
  · rw [if_pos e1, if_pos e1]; rfl
  rw [if_neg e1, if_neg e1]
  by_cases e2 : gS n (w 12) p = ls 2
  · rw [if_pos e2, if_pos e2]; rfl
  rw [if_neg e2, if_neg e2]
  by_cases e3 : gS n (w 12) p = ls 3
  · rw [if_pos e3, if_pos e3]; rfl
  rw [if_neg e3, if_neg e3]
  by_cases e4 : gS n (w 12) p = ls 4
  · rw [if_pos e4, if_pos e4]; rfl
  rw [if_neg e4, if_neg e4]; rfl
theorem cdig : ∀ k, k < 5 → (Int32.toUInt32 (48 + nI k) % 65536).toInt32 = nI (48 + k) ∧ nI (48 + k) ≠ -1 := by decide +kernel
theorem C_rd {w : mvW} {n : Nat} (hT : TW w n) {p : Nat} (hp : p < 2 ^ 30) : ∀ (j k N : Nat), k + j = 5 → j + 1 ≤ N → (∀ i, i < k → gS n (w 12) p ≠ nI (48 + i)) → f_X1_readDigit_2 N (nI k) (cu w p) = if dg (gS n (w 12) p) = true then some (nI (dv (gS n (w 12) p)), cu w (p + 1)) else some (-1, cu w p) := by
  intro j
  induction j with
  | zero =>
    intro k N hk hN hi
    obtain ⟨m, rfl⟩ : ∃ m, N = m + 1 := ⟨N - 1, by omega⟩
    have : k = 5 := by omega
    subst this
    rw [f_X1_readDigit_2, if_pos (by decide), if_neg]
    intro h
    obtain ⟨i, h1, h2, -⟩ := dg_of h
    exact hi i h1 h2
  | succ j ih =>
    intro k N hk hN hi
    obtain ⟨m, rfl⟩ : ∃ m, N = m + 1 := ⟨N - 1, by omega⟩
    obtain ⟨c1, c2⟩ := cdig k (by omega)
    rw [f_X1_readDigit_2, if_neg (q_nle (L := 5) (b := 5) rfl (by omega) (by omega)), c1, C_passes hT hp c2, nI_1]
    by_cases e : gS n (w 12) p = nI (48 + k)
    · rw [if_pos e, Option.bind_some]
      try dsimp only
      rw [if_neg (by decide)]
      have hd : dg (gS n (w 12) p) = true := by rw [e]; exact dg_is (by omega)
      rw [if_pos hd]
      obtain ⟨i, h1, h2, h3⟩ := dg_of hd
      have : i = k := by have := (nI_eq (by omega) (by omega)).mp (h2.symm.trans e); omega
      rw [h3, this]
    · rw [if_neg e, Option.bind_some]
      try dsimp only
      rw [if_pos rfl]
      exact ih (k + 1) m (by omega) (by omega) (fun i h => by
        by_cases e2 : i = k
        · rw [e2]; exact e
        · exact hi i (by omega))
theorem C_readDigit {w : mvW} {n : Nat} (hT : TW w n) {p : Nat} (hp : p < 2 ^ 30) : f_X1_readDigit (cu w p) = if dg (gS n (w 12) p) = true then some (nI (dv (gS n (w 12) p)), cu w (p + 1)) else some (-1, cu w p) :=
  C_rd hT hp 5 0 4096 (by omega) (by omega) (fun i h => absurd h (Nat.not_lt_zero i))
theorem nI_n1 {k : Nat} (h : k < 2 ^ 30) : ¬ nI k = -1 := fun e => by
  have := nI_pos (n := k) (by omega)
  rw [e] at this
  exact this (by decide)
theorem dv_lt {x : Int32} (h : dg x = true) : dv x < 5 := by
  obtain ⟨k, h1, -, h3⟩ := dg_of h
  omega
theorem C_readSquare {w : mvW} {n : Nat} (hT : TW w n) {p : Nat} (hp : p < 2 ^ 29) : f_X1_readSquare (cu w p) = if dg (gS n (w 12) p) = true then (if dg (gS n (w 12) (p + 1)) = true then some (nI (sqv (gS n (w 12)) p), cu w (p + 2)) else some (-1, cu w (p + 1))) else some (-1, cu w p) := by
  unfold f_X1_readSquare f_X1_readSquare_18
  rw [C_readDigit hT (by omega)]
  by_cases h1 : dg (gS n (w 12) p) = true
  · have l1 := dv_lt h1
    rw [if_pos h1, if_pos h1, Option.bind_some]
    try dsimp only
    rw [if_pos (nI_n1 (by omega)), C_readDigit hT (by omega)]
    by_cases h2 : dg (gS n (w 12) (p + 1)) = true
    · have l2 := dv_lt h2
      rw [if_pos h2, if_pos h2, Option.bind_some]
      try dsimp only
      rw [if_pos (nI_n1 (by omega)), show nI (dv (gS n (w 12) p)) * 5 = nI (dv (gS n (w 12) p) * 5) from pk_mul _ 5, nI_add]
      unfold sqv
      rw [Nat.mul_comm]
    · rw [if_neg h2, if_neg h2, Option.bind_some]
      try dsimp only
      rw [if_neg (fun h => h rfl)]
  · rw [if_neg h1, if_neg h1, Option.bind_some]
    try dsimp only
    rw [if_neg (fun h => h rfl), if_neg (fun h => h rfl)]
theorem sqv_lt {g : Nat → Int32} {p : Nat} (h1 : dg (g p) = true) (h2 : dg (g (p + 1)) = true) : sqv g p < 25 := by
  have := dv_lt h1
  have := dv_lt h2
  unfold sqv
  omega
theorem C_readPlay {w : mvW} {n : Nat} (hT : TW w n) {p : Nat} (hp : p < 2 ^ 28) : f_X1_readPlay (cu w p) = some (if (pE (gS n (w 12)) p).1 = true then nI (tld (pC (gS n (w 12)) p)) else -1, cu w (pE (gS n (w 12)) p).2) := by
  unfold f_X1_readPlay f_X1_readPlay_37 pE pC
  have k5 := kdl_le (gS n (w 12) p)
  rw [C_kindOfLetter hT (by omega), Option.bind_some]
  try dsimp only
  by_cases hk : kdl (gS n (w 12) p) = 0
  · simp only [if_pos hk]
    rw [if_pos trivial, if_neg (show ¬ (kdl (gS n (w 12) p) ≠ 0) from fun h => h hk), if_neg (show ¬ (kdl (gS n (w 12) p) ≠ 0) from fun h => h hk), C_readSquare hT (by omega)]
    by_cases h1 : dg (gS n (w 12) p) = true
    · simp only [if_pos h1]
      by_cases h2 : dg (gS n (w 12) (p + 1)) = true
      · simp only [if_pos h2]
        have q1 := sqv_lt (g := gS n (w 12)) h1 h2
        rw [Option.bind_some]
        try dsimp only
        rw [if_neg (nI_n1 (by omega)), C_passes hT (by omega) (by decide)]
        by_cases h3 : gS n (w 12) (p + 2) = 45
        · simp only [if_pos h3]
          rw [Option.bind_some]
          try dsimp only
          rw [if_pos (by decide), C_readSquare hT (by omega)]
          by_cases h4 : dg (gS n (w 12) (p + 3)) = true
          · rw [if_pos (show dg (gS n (w 12) (p + 2 + 1)) = true from h4)]
            simp only [if_pos h4]
            by_cases h5 : dg (gS n (w 12) (p + 4)) = true
            · rw [if_pos (show dg (gS n (w 12) (p + 2 + 1 + 1)) = true from h5)]
              simp only [if_pos h5]
              have q2 := sqv_lt (g := gS n (w 12)) (p := p + 3) h4 h5
              rw [Option.bind_some]
              try dsimp only
              rw [show p + 2 + 1 = p + 3 from rfl, show p + 3 + 2 = p + 5 from rfl, if_pos (nI_n1 (by omega)), C_passes hT (by omega) (by decide), if_pos trivial, tld_mcd q1 q2]
              by_cases h6 : gS n (w 12) (p + 5) = 43
              · simp only [if_pos h6]
                rw [Option.bind_some]
                try dsimp only
                rw [C_moveNumber _ _ true (a3 := 1) (by decide), Option.bind_some]
                try dsimp only
                rw [decide_eq_true h6]
              · simp only [if_neg h6]
                rw [Option.bind_some]
                try dsimp only
                rw [C_moveNumber _ _ false (a3 := 0) (by decide), Option.bind_some]
                try dsimp only
                rw [decide_eq_false h6]
            · rw [if_neg (show ¬ dg (gS n (w 12) (p + 2 + 1 + 1)) = true from h5)]
              simp only [if_neg h5]
              rw [Option.bind_some]
              try dsimp only
              rw [if_neg (fun h => h rfl)]
              rfl
          · rw [if_neg (show ¬ dg (gS n (w 12) (p + 2 + 1)) = true from h4)]
            simp only [if_neg h4]
            rw [Option.bind_some]
            try dsimp only
            rw [if_neg (fun h => h rfl)]
            rfl
        · simp only [if_neg h3]
          rw [Option.bind_some]
          try dsimp only
          rw [if_neg (fun h => h rfl)]
          rfl
      · simp only [if_neg h2]
        rw [Option.bind_some]
        try dsimp only
        rw [if_pos rfl]
        rfl
    · simp only [if_neg h1]
      rw [Option.bind_some]
      try dsimp only
      rw [if_pos rfl]
      rfl
  · simp only [if_neg hk]
    have e4 : cu w p 11 4 = nI p := by unfold cu; rw [rds, if_pos rfl]
    rw [if_neg (nI_n1 (by omega)), if_pos (show kdl (gS n (w 12) p) ≠ 0 from hk), if_pos (show kdl (gS n (w 12) p) ≠ 0 from hk), e4, nI_1, cu_cu, C_passes hT (by omega) (by decide)]
    by_cases h1 : gS n (w 12) (p + 1) = 42
    · simp only [if_pos h1]
      rw [Option.bind_some]
      try dsimp only
      rw [if_neg (by decide), C_readSquare hT (by omega)]
      by_cases h2 : dg (gS n (w 12) (p + 2)) = true
      · rw [if_pos (show dg (gS n (w 12) (p + 1 + 1)) = true from h2)]
        simp only [if_pos h2]
        by_cases h3 : dg (gS n (w 12) (p + 3)) = true
        · rw [if_pos (show dg (gS n (w 12) (p + 1 + 1 + 1)) = true from h3)]
          simp only [if_pos h3]
          have q2 := sqv_lt (g := gS n (w 12)) (p := p + 2) h2 h3
          rw [Option.bind_some]
          try dsimp only
          rw [show p + 1 + 1 = p + 2 from rfl, show p + 2 + 2 = p + 4 from rfl, if_pos (nI_n1 (by omega)), if_pos trivial, tld_dcd (by omega) k5 q2, C_dropNumber, Option.bind_some]
          try dsimp only
        · rw [if_neg (show ¬ dg (gS n (w 12) (p + 1 + 1 + 1)) = true from h3)]
          simp only [if_neg h3]
          rw [Option.bind_some]
          try dsimp only
          rw [if_neg (fun h => h rfl)]
          rfl
      · rw [if_neg (show ¬ dg (gS n (w 12) (p + 1 + 1)) = true from h2)]
        simp only [if_neg h2]
        rw [Option.bind_some]
        try dsimp only
        rw [if_neg (fun h => h rfl)]
        rfl
    · simp only [if_neg h1]
      rw [Option.bind_some]
      try dsimp only
      rw [if_pos rfl, if_neg (fun h => h trivial)]
      rfl
