/-! the law's own body (printed by wip/p29/lawgen29.py) -/
def f_L_law_146 (w : mvW) : Option (Int32 × mvW) := (f_X4_man 25 w).bind fun z0 => (if ¬ z0.1 = (-1001) then none else (f_X4_put 0 20 z0.2).bind fun z1 => (if ¬ z1.1 = (-1001) then none else (f_X4_hand 2 1 z1.2).bind fun z2 => (if ¬ z2.1 = (-1001) then none else (f_X4_setHand 0 1 5 z2.2).bind fun z3 => (if ¬ z3.1 = (-1002) then none else (f_X4_total 14 z3.2).bind fun z4 => (if ¬ z4.1 = (-1002) then none else (f_X4_make (-1) z4.2).bind fun z5 => (if ¬ z5.1 = (-1004) then none else (f_X4_worth 2 z5.2).bind fun z6 => (if ¬ z6.1 = (-1001) then none else some (1, z6.2))))))))
def f_L_law_122 (k67 : Int32 → mvW → Option (Int32 × mvW)) (x2 : Int32) (w : mvW) : Option (Int32 × mvW) := (if ¬ (x2 - x2 / 10 * 10) = 8 then k67 (x2 + 1) w else (f_L_arePlays_0 w).bind fun z => (if ¬ z.1 = 0 then k67 (x2 + 1) z.2 else none))
def f_L_law_108 (k67 : Int32 → mvW → Option (Int32 × mvW)) (x2 : Int32) (w : mvW) : Option (Int32 × mvW) := (if ¬ (x2 - x2 / 5 * 5) = 3 then f_L_law_122 k67 x2 w else (f_L_areDrops_0 w).bind fun z => (if z.1 = 0 then none else f_L_law_122 k67 x2 z.2))
def f_L_law_67 (cv : Int32 → Int32) : Nat → Int32 → mvW → Option (Int32 × mvW)
  | 0, _, _ => none
  | n + 1, x2, w => (if 22 ≤ x2 then f_L_law_146 w else (if x2 < 0 then none else (f_L_does_0 (cv x2) w).bind fun z81 => (if z81.1 = 0 then none else (f_L_areMen_0 z81.2).bind fun z88 => (if z88.1 = 0 then none else (if ¬ (x2 - x2 / 4 * 4) = 1 then f_L_law_108 (f_L_law_67 cv n) x2 z88.2 else (f_L_areAttacks_0 z88.2).bind fun z102 => (if z102.1 = 0 then none else f_L_law_108 (f_L_law_67 cv n) x2 z102.2))))))
def f_L_law (cv : Int32 → Int32) (w : mvW) : Option (Int32 × mvW) := (f_X4_init (mv_z w 0)).bind fun z4 => (f_L_areMen_0 z4).bind fun z9 => (if z9.1 = 0 then none else (f_X4_total 1 z9.2).bind fun z17 => (if ¬ z17.1 = 12 then none else (f_X4_worth 0 z17.2).bind fun z27 => (if ¬ z27.1 = 0 then none else (f_X4_undo z27.2).bind fun z34 => (if ¬ z34.1 = (-1005) then none else (f_X4_restore z34.2).bind fun z44 => (if ¬ z44.1 = (-1005) then none else (f_X4_mate z44.2).bind fun z54 => (if z54.1 = (-1005) then f_L_law_67 cv 4096 0 z54.2 else none))))))
/-! the law's body: it answers true -/
theorem D_makeM1 {w : mvW} {σ : PS} {k : Nat} {hs : Nat → PS} (h : IV w σ k hs) : Lk (f_X4_make (-1)) w σ k hs (-1004) := D_makeNo h (by unfold plS; rw [if_pos (by decide)])
theorem D_law146 {w : mvW} {σ : PS} {k : Nat} {hs : Nat → PS} (h : IV w σ k hs) : ∃ w', f_L_law_146 w = some (1, w') := by
  obtain ⟨w1, e1, h1⟩ := D_makeM1 h
  refine ⟨w1, ?_⟩
  unfold f_L_law_146
  rw [D_man25, Option.bind_some]
  try dsimp only
  rw [if_neg (fun e => e rfl), D_put20, Option.bind_some]
  try dsimp only
  rw [if_neg (fun e => e rfl), D_hand2, Option.bind_some]
  try dsimp only
  rw [if_neg (fun e => e rfl), D_setHandO, Option.bind_some]
  try dsimp only
  rw [if_neg (fun e => e rfl), D_total14, Option.bind_some]
  try dsimp only
  rw [if_neg (fun e => e rfl), e1, Option.bind_some]
  try dsimp only
  rw [if_neg (fun e => e rfl), D_worth2, Option.bind_some]
  try dsimp only
  rw [if_neg (fun e => e rfl)]
theorem px_r4 {x : Nat} (h : x < 2 ^ 31) : nI x - nI x / 4 * 4 = nI (x % 4) := pk_rem (d := 4) h (by omega) (by omega)
theorem D_law122 {m e : Nat} (he : e < 22) {σ : PS} (hB : Bd σ m) (hm : m ≤ 1000) {w : mvW} {k : Nat} {hs : Nat → PS} (h : IV w σ k hs) (k67 : Int32 → mvW → Option (Int32 × mvW)) (hk : ∀ (u : mvW) (k' : Nat) (hs' : Nat → PS), IV u σ k' hs' → ∃ w', k67 (nI (e + 1)) u = some (1, w')) : ∃ w', f_L_law_122 k67 (nI e) w = some (1, w') := by
  unfold f_L_law_122
  rw [px_r10 (by omega), nI_1]
  by_cases c : e % 10 = 8
  · obtain ⟨w1, k1, hs1, e1, h1⟩ := D_arePlays hB hm h
    rw [if_neg (show ¬ ¬ nI (e % 10) = 8 by rw [c]; exact fun g => g rfl), e1, Option.bind_some]
    try dsimp only
    rw [if_pos (by decide)]
    exact hk w1 k1 hs1 h1
  · rw [if_pos (q_ne (L := 8) (b := 8) rfl (by omega) (by omega) c)]
    exact hk w k hs h
theorem D_law108 {m e : Nat} (he : e < 22) {σ : PS} (hB : Bd σ m) (hm : m ≤ 1000) {w : mvW} {k : Nat} {hs : Nat → PS} (h : IV w σ k hs) (k67 : Int32 → mvW → Option (Int32 × mvW)) (hk : ∀ (u : mvW) (k' : Nat) (hs' : Nat → PS), IV u σ k' hs' → ∃ w', k67 (nI (e + 1)) u = some (1, w')) : ∃ w', f_L_law_108 k67 (nI e) w = some (1, w') := by
  unfold f_L_law_108
  rw [px_r5 (by omega)]
  by_cases c : e % 5 = 3
  · obtain ⟨w1, e1, h1⟩ := D_areDrops h
    rw [if_neg (show ¬ ¬ nI (e % 5) = 3 by rw [c]; exact fun g => g rfl), e1, Option.bind_some]
    try dsimp only
    rw [if_neg (by decide)]
    exact D_law122 he hB hm h1 k67 hk
  · rw [if_pos (q_ne (L := 3) (b := 3) rfl (by omega) (by omega) c)]
    exact D_law122 he hB hm h k67 hk
theorem D_law67 (cv : Int32 → Int32) : ∀ (j e N : Nat) (w : mvW) (σ : PS) (k : Nat) (hs : Nat → PS), e + j = 22 → j + 1 ≤ N → IV w σ k hs → Bd σ e → ∃ w', f_L_law_67 cv N (nI e) w = some (1, w') := by
  intro j
  induction j with
  | zero =>
    intro e N w σ k hs he hN h hB
    obtain ⟨n, rfl⟩ : ∃ n, N = n + 1 := ⟨N - 1, by omega⟩
    have : e = 22 := by omega
    subst this
    rw [f_L_law_67, if_pos (by decide)]
    exact D_law146 h
  | succ j ih =>
    intro e N w σ k hs he hN h hB
    obtain ⟨n, rfl⟩ : ∃ n, N = n + 1 := ⟨N - 1, by omega⟩
    obtain ⟨w1, τ, k1, hs1, e1, h1, hB1⟩ := D_does h hB (by omega) (cv (nI e))
    have hk : ∀ (u : mvW) (k' : Nat) (hs' : Nat → PS), IV u τ k' hs' → ∃ w', f_L_law_67 cv n (nI (e + 1)) u = some (1, w') := fun u k' hs' hu => ih (e + 1) n u τ k' hs' (by omega) (by omega) hu hB1
    rw [f_L_law_67, if_neg (q_nle (L := 22) (b := 22) rfl (by omega) (by omega)), if_neg (q_nlt (L := 0) (b := 0) rfl (Nat.zero_le _) (by omega)), e1, Option.bind_some]
    try dsimp only
    rw [if_neg (by decide), D_areMen h1 (hB1.pos (by omega)), Option.bind_some]
    try dsimp only
    rw [if_neg (by decide), px_r4 (by omega)]
    by_cases c : e % 4 = 1
    · obtain ⟨w2, e2, h2⟩ := D_areAttacks h1
      rw [if_neg (show ¬ ¬ nI (e % 4) = 1 by rw [c]; exact fun g => g rfl), e2, Option.bind_some]
      try dsimp only
      rw [if_neg (by decide)]
      exact D_law108 (m := e + 1) (by omega) hB1 (by omega) h2 _ hk
    · rw [if_pos (q_ne (L := 1) (b := 1) rfl (by omega) (by omega) c)]
      exact D_law108 (m := e + 1) (by omega) hB1 (by omega) h1 _ hk
theorem Start4 : ∃ w, f_X4_init (fun _ _ => 0) = some w ∧ IV w fmS 0 (fun _ => fmS) := by
  have h4 := chk4_ok
  unfold chk4 at h4
  cases e4 : f_X4_init (fun _ _ => 0) with
  | none => rw [e4] at h4; cases h4
  | some w =>
    rw [e4] at h4
    simp only [Bool.and_eq_true, decide_eq_true_eq] at h4
    obtain ⟨⟨⟨⟨⟨⟨⟨a1, a2⟩, a3⟩, a4⟩, a5⟩, a6⟩, a7⟩, a8⟩ := h4
    have c1 := fun q hq => of_decide_eq_true (all_r a1 q hq)
    have c2 := fun q hq => of_decide_eq_true (all_r a2 q hq)
    have c3 := fun q hq => of_decide_eq_true (all_r a3 q hq)
    have c4 := fun q hq => of_decide_eq_true (all_r a4 q hq)
    have c5 := fun q hq d hd => of_decide_eq_true (all_r (all_r a5 q hq) d hd)
    refine ⟨w, rfl, ⟨⟨c1, c4 0 (by decide), fun s k hs h1 h5 => ?_, fun i hi => ?_, c3⟩, fun q d hq hd => c5 q hq d hd, fun s hs q r hq hr => fmS_ok.2 s hs q hq r hr, fmS_ok.1, Nat.zero_le _⟩, ⟨by omega, a7, fun i hi => absurd hi (Nat.not_lt_zero i)⟩, a6⟩
    · have := c2 (6 * s + k) (by omega)
      rw [← Nat.add_assoc] at this
      exact this
    · have := c4 (1 + i) (by omega)
      rw [← Nat.add_assoc] at this
      exact this
theorem fm_mts : ∀ m, m < 55 → ∀ t, t < 25 → mts fmS (25 * m + t) = false := by decide +kernel
theorem fm_brd : nI (brd fmS.1 25) = 12 := by decide +kernel
theorem fm_wr : wrS fmS 0 = 0 := by decide +kernel
theorem fm_bd : Bd fmS 0 := ⟨fun i _ => ⟨0, by omega, rfl⟩, 0, by omega, rfl⟩
theorem D_law (cv : Int32 → Int32) : ∃ w', f_L_law cv (fun _ _ => 0) = some (1, w') := by
  obtain ⟨w, e0, h⟩ := Start4
  have hA : MatA fmS (-1005) := Or.inl ⟨rfl, fun c hc => by
    have := fm_mts (c / 25) (by omega) (c % 25) (by omega)
    rw [show 25 * (c / 25) + c % 25 = c by omega] at this
    exact this⟩
  obtain ⟨w1, e1, h1⟩ := D_mate h hA
  obtain ⟨w', e2⟩ := D_law67 cv 22 0 4096 w1 fmS 0 _ (by omega) (by omega) h1 fm_bd
  refine ⟨w', ?_⟩
  have ez : mv_z (fun _ _ => 0) 0 = fun _ _ => 0 := by
    funext c
    unfold mv_z
    split <;> rfl
  unfold f_L_law
  rw [ez, e0, Option.bind_some]
  try dsimp only
  rw [D_areMen h (fm_bd.pos (by omega)), Option.bind_some]
  try dsimp only
  rw [if_neg (by decide), D_total1 h, Option.bind_some]
  try dsimp only
  rw [if_neg (fun g => g fm_brd), show f_X4_worth 0 w = _ from D_worth h (s := 0) (by omega), Option.bind_some]
  try dsimp only
  rw [if_neg (fun g => g fm_wr), D_undo0 h, Option.bind_some]
  try dsimp only
  rw [if_neg (fun g => g rfl), D_restore h, Option.bind_some]
  try dsimp only
  rw [if_neg (fun g => g rfl), e1, Option.bind_some]
  try dsimp only
  rw [if_pos rfl]
  exact e2
