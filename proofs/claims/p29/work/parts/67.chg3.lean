/-! the calls that change: clear, side, text's length, history and snapshot -/
def emp (σ : PS) : PS := (fun _ => 0, σ.2.1, fun _ => 0, σ.2.2.2)
theorem C_rem46 {w0 : mvW} : ∀ (j k N : Nat) (u : mvW), k + j = 2 → j + 1 ≤ N → FC w0 u → (∀ i, u 2 i = if i < 25 then 99 else if i < 37 then 0 else if i < 37 + k then -1 else w0 2 i) → ∃ w', f_X2_removeAllMen_46 N (nI k) u = some w' ∧ FC w0 w' ∧ ∀ i, w' 2 i = if i < 25 then 99 else if i < 37 then 0 else if i < 39 then -1 else w0 2 i := by
  intro j
  induction j with
  | zero =>
    intro k N u hk hN hf hu
    obtain ⟨n, rfl⟩ : ∃ n, N = n + 1 := ⟨N - 1, by omega⟩
    have : k = 2 := by omega
    subst this
    exact ⟨u, by rw [f_X2_removeAllMen_46, if_pos (by decide)], hf, hu⟩
  | succ j ih =>
    intro k N u hk hN hf hu
    obtain ⟨n, rfl⟩ : ∃ n, N = n + 1 := ⟨N - 1, by omega⟩
    rw [f_X2_removeAllMen_46, if_neg (q_nle (L := 2) (b := 2) rfl (by omega) (by omega)), px_37 (by omega), Option.bind_some]
    try dsimp only
    rw [nI_1]
    refine ih (k + 1) n _ (by omega) (by omega) (hf.trans (fun c hc => up_ne _ _ _ _ hc)) (fun i => ?_)
    rw [rds, hu i]
    by_cases e : i = 37 + k
    · rw [if_pos e, if_neg (by omega), if_neg (by omega), if_pos (by omega)]
    · rw [if_neg e]
      by_cases h1 : i < 25
      · rw [if_pos h1, if_pos h1]
      · rw [if_neg h1, if_neg h1]
        by_cases h2 : i < 37
        · rw [if_pos h2, if_pos h2]
        · rw [if_neg h2, if_neg h2]
          by_cases h3 : i < 37 + k
          · rw [if_pos h3, if_pos (by omega)]
          · rw [if_neg h3, if_neg (by omega)]
theorem C_rem25 {w0 : mvW} : ∀ (j k N : Nat) (u : mvW), k + j = 37 → 25 ≤ k → j + 1 ≤ N → FC w0 u → (∀ i, u 2 i = if i < 25 then 99 else if i < k then 0 else w0 2 i) → ∃ w', f_X2_removeAllMen_25 N (nI k) u = some w' ∧ FC w0 w' ∧ ∀ i, w' 2 i = if i < 25 then 99 else if i < 37 then 0 else if i < 39 then -1 else w0 2 i := by
  intro j
  induction j with
  | zero =>
    intro k N u hk h25 hN hf hu
    obtain ⟨n, rfl⟩ : ∃ n, N = n + 1 := ⟨N - 1, by omega⟩
    have : k = 37 := by omega
    subst this
    rw [f_X2_removeAllMen_25, if_pos (by decide)]
    refine C_rem46 2 0 4096 u (by omega) (by omega) hf (fun i => ?_)
    rw [hu i]
    by_cases h1 : i < 25
    · rw [if_pos h1, if_pos h1]
    · rw [if_neg h1, if_neg h1]
      by_cases h2 : i < 37
      · rw [if_pos h2, if_pos h2]
      · rw [if_neg h2, if_neg h2, if_neg (by omega)]
  | succ j ih =>
    intro k N u hk h25 hN hf hu
    obtain ⟨n, rfl⟩ : ∃ n, N = n + 1 := ⟨N - 1, by omega⟩
    rw [f_X2_removeAllMen_25, if_neg (q_nle (L := 37) (b := 37) rfl (by omega) (by omega)), px_44 (by omega), Option.bind_some]
    try dsimp only
    rw [nI_1]
    refine ih (k + 1) n _ (by omega) (by omega) (by omega) (hf.trans (fun c hc => up_ne _ _ _ _ hc)) (fun i => ?_)
    rw [rds, hu i]
    by_cases e : i = k
    · rw [if_pos e, if_neg (by omega), if_pos (by omega)]
    · rw [if_neg e]
      by_cases h1 : i < 25
      · rw [if_pos h1, if_pos h1]
      · rw [if_neg h1, if_neg h1]
        by_cases h2 : i < k
        · rw [if_pos h2, if_pos (by omega)]
        · rw [if_neg h2, if_neg (by omega)]
theorem C_rem2 {w0 : mvW} : ∀ (j k N : Nat) (u : mvW), k + j = 25 → j + 1 ≤ N → FC w0 u → (∀ i, u 2 i = if i < k then 99 else w0 2 i) → ∃ w', f_X2_removeAllMen_2 N (nI k) u = some w' ∧ FC w0 w' ∧ ∀ i, w' 2 i = if i < 25 then 99 else if i < 37 then 0 else if i < 39 then -1 else w0 2 i := by
  intro j
  induction j with
  | zero =>
    intro k N u hk hN hf hu
    obtain ⟨n, rfl⟩ : ∃ n, N = n + 1 := ⟨N - 1, by omega⟩
    have : k = 25 := by omega
    subst this
    rw [f_X2_removeAllMen_2, if_pos (by decide)]
    refine C_rem25 12 25 4096 u (by omega) (by omega) (by omega) hf (fun i => ?_)
    rw [hu i]
    by_cases h1 : i < 25
    · rw [if_pos h1, if_pos h1]
    · rw [if_neg h1, if_neg h1, if_neg (by omega)]
  | succ j ih =>
    intro k N u hk hN hf hu
    obtain ⟨n, rfl⟩ : ∃ n, N = n + 1 := ⟨N - 1, by omega⟩
    rw [f_X2_removeAllMen_2, if_neg (q_nle (L := 25) (b := 25) rfl (by omega) (by omega)), px_44 (by omega), Option.bind_some]
    try dsimp only
    rw [nI_1]
    refine ih (k + 1) n _ (by omega) (by omega) (hf.trans (fun c hc => up_ne _ _ _ _ hc)) (fun i => ?_)
    rw [rds, hu i]
    by_cases e : i = k
    · rw [if_pos e, if_pos (by omega)]
    · rw [if_neg e]
      by_cases h1 : i < k
      · rw [if_pos h1, if_pos (by omega)]
      · rw [if_neg h1, if_neg (by omega)]
theorem C_removeR (w : mvW) : ∃ w', f_X2_removeAllMen w = some w' ∧ FC w w' ∧ ∀ i, w' 2 i = if i < 25 then 99 else if i < 37 then 0 else if i < 39 then -1 else w 2 i :=
  C_rem2 25 0 4096 w (by omega) (by omega) (FC.refl w) (fun i => by rw [if_neg (Nat.not_lt_zero i)])
theorem KU_emp (σ : PS) : KU (emp σ).1 := fun s _ q _ _ _ h => absurd h (by show ¬ (0 : Nat) = 10 * s + 1; omega)
theorem C_removeAll {w : mvW} {σ : PS} (hC : CI w σ) : ∃ w', f_X2_removeAllMen w = some w' ∧ CI w' (emp σ) ∧ FC w w' := by
  obtain ⟨w', a1, a2, a3⟩ := C_removeR w
  obtain ⟨⟨h1, h2, h3, h4, h5⟩, hB, hU, hO⟩ := hC
  refine ⟨w', a1, ⟨⟨fun q hq => ?_, ?_, fun s k hs k1 k5 => ?_, fun i hi => ?_, fun s hs => ?_⟩, hB.keep a2, KU_emp σ, fun q hq => Nat.zero_le _, hO.2⟩, a2⟩
  · rw [a3, if_pos hq]; rfl
  · rw [a3, if_neg (by omega), if_neg (by omega), if_neg (by omega)]; exact h2
  · rw [a3, if_neg (by omega), if_pos (by omega)]; rfl
  · rw [a3, if_neg (by omega), if_neg (by omega), if_neg (by omega)]; exact h4 i hi
  · rw [a3, if_neg (by omega), if_neg (by omega), if_pos (by omega), kgI_none (kg_no (fun r hr => by show ¬ (0 : Nat) = 10 * s + 1; omega))]
theorem M_clear31 {v0 : mvW} (a : Int32) : ∀ (j k N : Nat) (u : mvW), k + j = 35 → j + 1 ≤ N → KV v0 u → (∀ i, u 1 i = if i < k then 0 else v0 1 i) → ∃ v', f_X5_clearAll_31 N a (nI k) u = some (a, v') ∧ KV v0 v' ∧ ∀ i, v' 1 i = if i < 35 then 0 else v0 1 i := by
  intro j
  induction j with
  | zero =>
    intro k N u hk hN hf hu
    obtain ⟨n, rfl⟩ : ∃ n, N = n + 1 := ⟨N - 1, by omega⟩
    have : k = 35 := by omega
    subst this
    exact ⟨u, by rw [f_X5_clearAll_31, if_pos (by decide)], hf, hu⟩
  | succ j ih =>
    intro k N u hk hN hf hu
    obtain ⟨n, rfl⟩ : ∃ n, N = n + 1 := ⟨N - 1, by omega⟩
    rw [f_X5_clearAll_31, if_neg (q_nle (L := 35) (b := 35) rfl (by omega) (by omega)), px_160 (by omega), Option.bind_some]
    try dsimp only
    rw [nI_1]
    refine ih (k + 1) n _ (by omega) (by omega) (hf.trans (KV.up _ _ _)) (fun i => ?_)
    rw [rds, hu i]
    by_cases e : i = k
    · rw [if_pos e, if_pos (by omega)]
    · rw [if_neg e]
      by_cases h1 : i < k
      · rw [if_pos h1, if_pos (by omega)]
      · rw [if_neg h1, if_neg (by omega)]
theorem L_clearAll {w v : mvW} (h : Rel w v) : Same f_X4_clearAll f_X5_clearAll w v := by
  obtain ⟨σ, hC, hR, hX⟩ := h
  have hO := hC.2.2.2
  unfold Same f_X4_clearAll f_X5_clearAll
  rw [C_menOnBoard hC, Option.bind_some]
  try dsimp only
  rw [show f_X2_menInHand 0 w = _ from C_menInHand hC (s := 0) (by omega), Option.bind_some]
  try dsimp only
  rw [show f_X2_menInHand 1 w = _ from C_menInHand hC (s := 1) (by omega), Option.bind_some]
  try dsimp only
  rw [M_onBoard hR hO, Option.bind_some]
  try dsimp only
  rw [show f_X5_inHand 0 v = _ from M_inHand hR (s := 0) (by omega), Option.bind_some]
  try dsimp only
  rw [show f_X5_inHand 1 v = _ from M_inHand hR (s := 1) (by omega), Option.bind_some]
  try dsimp only
  by_cases hz : nI (brd σ.1 25) + hnd σ.2.2.1 (5 * 0) 5 + hnd σ.2.2.1 (5 * 1) 5 = 0
  · refine ⟨-1005, w, v, ?_, ?_, σ, hC, hR, hX⟩
    · rw [if_neg (fun h => h hz)]
    · rw [if_neg (fun h => h hz)]
  · obtain ⟨w2, v2, d1, d2, d3, d4, d5⟩ := Rec hC hR hX
    obtain ⟨w3, e1, e2, e3⟩ := C_removeAll d3
    obtain ⟨v3, g1, g2, g3⟩ := M_clear31 (v0 := v2) (nI (brd σ.1 25) + hnd σ.2.2.1 (5 * 0) 5 + hnd σ.2.2.1 (5 * 1) 5) 35 0 4096 v2 (by omega) (by omega) (KV.refl v2) (fun i => by rw [if_neg (Nat.not_lt_zero i)])
    refine ⟨nI (brd σ.1 25) + hnd σ.2.2.1 (5 * 0) 5 + hnd σ.2.2.1 (5 * 1) 5, w3, v3, ?_, ?_, emp σ, e2, ?_, d5.keep e3.k g2⟩
    · rw [if_pos hz, d1, Option.bind_some]
      try dsimp only
      rw [e1, Option.bind_some]
      try dsimp only
    · rw [if_pos hz, d2, Option.bind_some]
      try dsimp only
      exact g1
    · rw [RW_RV] at d4 ⊢
      obtain ⟨h1, h2, h3, h4⟩ := d4
      refine ⟨fun q hq => ?_, ?_, fun i hi => ?_, fun i hi => ?_⟩
      · rw [g3, if_pos (by omega)]; rfl
      · rw [g3, if_neg (by omega)]; exact h2
      · rw [g3, if_pos (by omega)]; rfl
      · rw [g3, if_neg (by omega)]; exact h4 i hi
theorem RW_side {v : mvW} {σ : PS} (hR : RW v 0 σ) (t : Nat) : RW (mv_up v 1 35 (nI t)) 0 (sT σ t) := by
  rw [RW_RV] at hR ⊢
  obtain ⟨h1, h2, h3, h4⟩ := hR
  refine ⟨fun q hq => ?_, ?_, fun i hi => ?_, fun i hi => ?_⟩
  · rw [rds, if_neg (by omega)]; exact h1 q hq
  · rw [rds, if_pos rfl]; rfl
  · rw [rds, if_neg (by omega)]; exact h3 i hi
  · rw [rds, if_neg (by omega)]; exact h4 i hi
theorem L_setSide {w v : mvW} (h : Rel w v) (a1 : Int32) : Same (f_X4_setSide a1) (f_X5_setSide a1) w v := by
  obtain ⟨σ, hC, hR, hX⟩ := h
  have hO := hC.2.2.2
  have ht1 := hO.2
  rcases sd2 a1 with ⟨s, hs, rfl⟩ | ⟨n4, n5⟩
  · unfold Same f_X4_setSide f_X5_setSide
    rw [sd1 hs, Option.bind_some]
    try dsimp only
    rw [if_pos (by decide), px_isSide hs, Option.bind_some]
    try dsimp only
    rw [if_pos (show ¬ (1 : Int32) = 0 by decide), C_sideToPlay hC, Option.bind_some]
    try dsimp only
    by_cases he : σ.2.1 = s
    · refine ⟨-1005, w, v, ?_, ?_, σ, hC, hR, hX⟩
      · rw [if_neg (show ¬ ¬ nI σ.2.1 = nI s from fun h => h (by rw [he]))]
      · rw [if_neg (show ¬ ¬ v 1 35 = nI s from fun h => h (by rw [v_side hR, he]))]
    · have hne : ¬ nI σ.2.1 = nI s := fun h => he ((nI_eq (by omega) (by omega)).mp h)
      obtain ⟨w2, v2, d1, d2, d3, d4, d5⟩ := Rec hC hR hX
      obtain ⟨s1, s2⟩ := C_setSide d3 (t := s) (by omega)
      obtain ⟨w3, e1, e2, e3, -, -⟩ := C_findPlays s1
      have r3 := RW_side d4 s
      obtain ⟨v3, g1, g2, g3⟩ := M_plays0 r3 s1.2.2.2
      refine ⟨nI (numS (sT σ s)), w3, v3, ?_, ?_, sT σ s, e2, g2, d5.keep (s2.k.trans e3.k) ((KV.up _ _ _).trans g3)⟩
      · rw [if_pos hne, d1, Option.bind_some]
        try dsimp only
        unfold f_X2_setSideToPlay
        rw [Option.bind_some]
        try dsimp only
        rw [e1, Option.bind_some]
        try dsimp only
      · rw [if_pos (show ¬ v 1 35 = nI s by rw [v_side hR]; exact hne), d2, Option.bind_some]
        try dsimp only
        rw [g1, Option.bind_some]
        try dsimp only
  · refine ⟨-1001, w, v, ?_, ?_, σ, hC, hR, hX⟩
    · unfold f_X4_setSide
      rw [n4, Option.bind_some]
      try dsimp only
      rw [if_neg (fun h => h rfl)]
    · unfold f_X5_setSide
      rw [n5, Option.bind_some]
      try dsimp only
      rw [if_neg (fun h => h rfl)]
theorem CI.oth {w : mvW} {σ : PS} (h : CI w σ) {w' : mvW} (h2 : w' 2 = w 2) (h3 : w' 3 = w 3) : CI w' σ := by
  obtain ⟨a, b, c, d⟩ := h
  exact ⟨by rw [h2]; exact a, fun q d hq hd => by rw [h3]; exact b q d hq hd, c, d⟩
theorem RW.oth {v : mvW} {σ : PS} (h : RW v 0 σ) {v' : mvW} (h1 : v' 1 = v 1) : RW v' 0 σ := by
  rw [RW_RV] at h ⊢
  rw [h1]; exact h
theorem L_clearText {w v : mvW} (h : Rel w v) : Same f_X4_clearText f_X5_clearText w v := by
  obtain ⟨σ, hC, hR, hH, ⟨n, hn, h11, h7, hh⟩, hS⟩ := h
  refine ⟨nI n, mv_up w 11 1 0, mv_up v 0 7 0, ?_, ?_, σ, hC.up (by decide) (by decide) _ _, hR.oth (up_ne _ _ _ _ (by decide)), ?_, ?_, ?_⟩
  · show some (w 11 1, mv_up w 11 1 0) = _
    rw [h11]
  · show some (v 0 7, mv_up v 0 7 0) = _
    rw [h7]
  · unfold Hst
    rw [up_ne w 11 1 0 (c := 9) (by decide), up_ne w 11 1 0 (c := 10) (by decide), up_ne v 0 7 0 (c := 3) (by decide), rds, if_neg (by decide)]
    exact hH
  · refine ⟨0, by omega, by rw [rds, if_pos rfl]; rfl, by rw [rds, if_pos rfl]; rfl, fun i hi => absurd hi (Nat.not_lt_zero i)⟩
  · unfold Snp
    rw [up_ne w 11 1 0 (c := 0) (by decide), up_ne w 11 1 0 (c := 15) (by decide), up_ne v 0 7 0 (c := 4) (by decide), rds, if_neg (by decide)]
    exact hS
theorem L_type {w v : mvW} (h : Rel w v) {c : Nat} (hc : c < 65536) : Same (f_X4_type (nI c)) (f_X5_type (nI c)) w v := by
  obtain ⟨σ, hC, hR, hH, ⟨n, hn, h11, h7, hh⟩, hS⟩ := h
  by_cases h60 : n = 60
  · subst h60
    refine ⟨-1003, w, v, ?_, ?_, σ, hC, hR, hH, ⟨60, hn, h11, h7, hh⟩, hS⟩
    · unfold f_X4_type f_X1_isFull
      rw [if_neg (show ¬ w 11 1 < 60 by rw [h11]; decide), Option.bind_some]
      try dsimp only
      rw [if_neg (by decide)]
    · unfold f_X5_type
      rw [if_neg (show ¬ ¬ v 0 7 = 60 by rw [h7]; exact fun h => h rfl)]
  · have ev : vp_nar .char (nI c) = nI c := by unfold vp_nar; rw [(pk_charN hc).1]
    refine ⟨nI (n + 1), mv_up (mv_up w 12 n (nI c)) 11 1 (nI (n + 1)), mv_up (mv_up v 5 n (nI c)) 0 7 (nI (n + 1)), ?_, ?_, σ, (hC.up (by decide) (by decide) _ _).up (by decide) (by decide) _ _, hR.oth (by rw [up_ne _ _ _ _ (by decide), up_ne _ _ _ _ (by decide)]), ?_, ?_, ?_⟩
    · unfold f_X4_type f_X1_isFull f_X1_append f_X1_size
      rw [if_pos (show w 11 1 < 60 by rw [h11]; exact q_lt (L := 60) (b := 60) rfl (by omega) (by omega)), Option.bind_some]
      try dsimp only
      rw [if_pos rfl, if_neg (show ¬ w 11 1 < 0 by rw [h11]; exact q_nlt (L := 0) (b := 0) rfl (by omega) (by omega)), if_neg (show ¬ 60 ≤ w 11 1 by rw [h11]; exact q_nle (L := 60) (b := 60) rfl (by omega) (by omega)), show mv_ix 60 (w 11 1) = some n by rw [h11]; exact px_ix (by omega) (by decide), Option.bind_some]
      try dsimp only
      rw [Option.bind_some]
      try dsimp only
      rw [ev, rdn _ 12 n 1 11 _ (by decide), h11, nI_1, Option.bind_some]
      try dsimp only
      rw [rds, if_pos rfl]
    · unfold f_X5_type
      rw [if_pos (show ¬ v 0 7 = 60 by rw [h7]; exact q_ne (L := 60) (b := 60) rfl (by omega) (by omega) h60), show mv_ix 60 (v 0 7) = some n by rw [h7]; exact px_ix (by omega) (by decide), Option.bind_some]
      try dsimp only
      rw [rdn _ 5 n 7 0 _ (by decide), h7, nI_1, rds, if_pos rfl]
    · unfold Hst
      rw [up_ne _ 11 1 _ (c := 9) (by decide), up_ne _ 12 n _ (c := 9) (by decide), up_ne _ 11 1 _ (c := 10) (by decide), up_ne _ 12 n _ (c := 10) (by decide), up_ne _ 0 7 _ (c := 3) (by decide), up_ne _ 5 n _ (c := 3) (by decide), rds, if_neg (by decide), rdn _ 5 n 3 0 _ (by decide)]
      exact hH
    · refine ⟨n + 1, by omega, by rw [rds, if_pos rfl], by rw [rds, if_pos rfl], fun i hi => ?_⟩
      rw [rdn _ 11 1 i 12 _ (by decide), rdn _ 0 7 i 5 _ (by decide), rds, rds]
      by_cases e : i = n
      · rw [if_pos e, if_pos e]; exact ⟨rfl, c, hc, rfl⟩
      · rw [if_neg e, if_neg e]; exact hh i (by omega)
    · unfold Snp
      rw [up_ne _ 11 1 _ (c := 0) (by decide), up_ne _ 12 n _ (c := 0) (by decide), up_ne _ 11 1 _ (c := 15) (by decide), up_ne _ 12 n _ (c := 15) (by decide), up_ne _ 0 7 _ (c := 4) (by decide), up_ne _ 5 n _ (c := 4) (by decide), rds, if_neg (by decide), rdn _ 5 n 5 0 _ (by decide)]
      exact hS
