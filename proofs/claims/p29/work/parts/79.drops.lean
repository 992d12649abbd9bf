/-! the law: squares of drops and reasons agree -/
theorem res_drop1 {σ : PS} (hO : OKs σ) {kd q : Nat} (h1 : 1 ≤ kd) (h5 : kd ≤ 5) (hq : q < 25) : (resS σ (dcd kd q) = 1 ↔ σ.2.2.1 (5 * σ.2.1 + kd - 1) = 0) ∧ (resS σ (dcd kd q) = 0 → σ.1 q = 0) := by
  rw [resS_drop hO h1 h5 hq]
  unfold wndS
  by_cases hh : σ.2.2.1 (5 * σ.2.1 + kd - 1) = 0
  · rw [if_pos hh]
    exact ⟨⟨fun _ => hh, fun _ => rfl⟩, fun e => by simp at e⟩
  · rw [if_neg hh]
    by_cases hb : σ.1 q = 0
    · rw [if_neg (show ¬ σ.1 q ≠ 0 from fun e => e hb)]
      refine ⟨⟨fun e => ?_, fun e => absurd e hh⟩, fun _ => hb⟩
      exfalso
      revert e
      repeat' split
      all_goals (intro e; first | omega | simp_all)
    · rw [if_pos hb]
      exact ⟨⟨fun e => by simp at e, fun e => absurd e hh⟩, fun e => by simp at e⟩
section AD
variable {σ : PS} {k : Nat} {hs : Nat → PS}
theorem D_ad55 {w : mvW} (h : IV w σ k hs) {kd i : Nat} (h1 : 1 ≤ kd) (h5 : kd ≤ 5) (hi : i < 25) (k23 : Int32 → Int32 → Int32 → Int32 → mvW → Option (Int32 × mvW)) (x3 x : Int32) : f_L_areDrops_0_55 k23 (nI σ.2.1) (nI kd) x3 (nI i) (nI (resS σ (dcd kd i))) x x w = k23 (nI σ.2.1) (nI kd) x3 (nI (i + 1)) w := by
  have hO := h.1.2.2.2
  have hle := resS_le σ (dcd kd i)
  obtain ⟨r1, r2⟩ := res_drop1 hO h1 h5 hi
  have ht := hO.2
  have f95 : ∀ y : Int32, f_L_areDrops_0_95 k23 (nI σ.2.1) (nI kd) x3 (nI i) (nI (resS σ (dcd kd i))) y y w = k23 (nI σ.2.1) (nI kd) x3 (nI (i + 1)) w := by
    intro y
    unfold f_L_areDrops_0_95
    rw [if_neg (fun e => e rfl), nI_1]
    by_cases hz : resS σ (dcd kd i) = 0
    · rw [if_neg (fun e => e (by rw [hz]; rfl)), D_manI h hi, Option.bind_some]
      try dsimp only
      rw [if_pos ((mn_none _ (hO.1 i hi)).1.mpr (r2 hz))]
    · rw [if_pos (nI_ne0 (by omega) (by omega))]
  have f81 : ∀ y : Int32, (y = if σ.2.2.1 (5 * σ.2.1 + kd - 1) = 0 then 1 else 0) → f_L_areDrops_0_81 k23 (nI σ.2.1) (nI kd) x3 (nI i) (nI (resS σ (dcd kd i))) y w = k23 (nI σ.2.1) (nI kd) x3 (nI (i + 1)) w := by
    intro y hy
    unfold f_L_areDrops_0_81
    rw [D_hand h (by omega) h1 h5, Option.bind_some]
    try dsimp only
    by_cases hh : σ.2.2.1 (5 * σ.2.1 + kd - 1) = 0
    · rw [if_pos hh] at hy
      rw [if_neg (fun e => e hh), hy]
      exact f95 1
    · rw [if_neg hh] at hy
      rw [if_pos hh, hy]
      exact f95 0
  unfold f_L_areDrops_0_55
  rw [if_neg (fun e => e rfl), if_neg (q_nlt (L := 0) (b := 0) rfl (by omega) (by omega)), if_neg (show ¬ (6 : Int32) < nI (resS σ (dcd kd i)) from nI_nlt (a := 6) (b := resS σ (dcd kd i)) (by omega) (by decide))]
  by_cases he : resS σ (dcd kd i) = 1
  · rw [if_neg (fun e => e (by rw [he]; rfl))]
    exact f81 1 (by rw [if_pos (r1.mp he)])
  · rw [if_pos (q_ne (L := 1) (b := 1) rfl (by omega) (by omega) he)]
    exact f81 0 (by rw [if_neg (fun e => he (r1.mpr e))])
theorem D_ad23 {kd : Nat} (h1 : 1 ≤ kd) (h5 : kd ≤ 5) (k8 : Int32 → Int32 → mvW → Option (Int32 × mvW)) : ∀ j i N (w : mvW), i + j = 25 → j + 1 ≤ N → IV w σ k hs → ∃ w', f_L_areDrops_0_23 k8 N (nI σ.2.1) (nI kd) (msk (bF σ (49 + kd))) (nI i) w = k8 (nI σ.2.1) (nI (kd + 1)) w' ∧ IV w' σ k hs := by
  intro j
  induction j with
  | zero =>
    intro i N w hi hN h
    obtain ⟨n, rfl⟩ : ∃ n, N = n + 1 := ⟨N - 1, by omega⟩
    have : i = 25 := by omega
    subst this
    exact ⟨w, by rw [f_L_areDrops_0_23, if_pos (by decide), nI_1], h⟩
  | succ j ih =>
    intro i N w hi hN h
    obtain ⟨n, rfl⟩ : ∃ n, N = n + 1 := ⟨N - 1, by omega⟩
    have hi25 : i < 25 := by omega
    obtain ⟨w1, e1, h'⟩ := D_dropReason h h1 h5 hi25
    obtain ⟨w', b1, b2⟩ := ih (i + 1) n w1 (by omega) (by omega) h'
    refine ⟨w', ?_, b2⟩
    have eb : bF σ (49 + kd) i = alw σ (dcd kd i) := by
      unfold bF dcd
      exact congrArg (alw σ) (by omega)
    rw [f_L_areDrops_0_23, if_neg (q_nle (L := 25) (b := 25) rfl hi25 (by omega)), e1, Option.bind_some]
    try dsimp only
    rw [px_bit _ (show i < 32 by omega), msk_bit _ hi25, eb]
    cases ha : alw σ (dcd kd i) with
    | true =>
      rw [if_neg (fun e => e (px_rs.1 ha)), if_pos rfl]
      exact (D_ad55 h' h1 h5 hi25 _ _ 1).trans b1
    | false =>
      rw [if_pos (px_rs.2 ha), if_neg (by decide)]
      exact (D_ad55 h' h1 h5 hi25 _ _ 0).trans b1
theorem D_areDrops {w : mvW} (h : IV w σ k hs) : Lk f_L_areDrops_0 w σ k hs 1 := by
  have loop : ∀ j kd N (u : mvW), kd + j = 6 → 1 ≤ kd → j + 1 ≤ N → IV u σ k hs → ∃ u', f_L_areDrops_0_8 N (nI σ.2.1) (nI kd) u = some (1, u') ∧ IV u' σ k hs := by
    intro j
    induction j with
    | zero =>
      intro kd N u hk h1 hN hu
      obtain ⟨n, rfl⟩ : ∃ n, N = n + 1 := ⟨N - 1, by omega⟩
      have : kd = 6 := by omega
      subst this
      refine ⟨u, ?_, hu⟩
      rw [f_L_areDrops_0_8, if_pos (by decide), D_dropsNo (by decide), Option.bind_some]
      try dsimp only
      rw [if_neg (fun e => e rfl), D_dropsNo (by decide), Option.bind_some]
      try dsimp only
      rw [if_neg (fun e => e rfl)]
    | succ j ih =>
      intro kd N u hk h1 hN hu
      obtain ⟨n, rfl⟩ : ∃ n, N = n + 1 := ⟨N - 1, by omega⟩
      obtain ⟨u1, e1, h'⟩ := D_drops hu h1 (show kd ≤ 5 by omega)
      obtain ⟨u2, e2, h''⟩ := D_ad23 h1 (show kd ≤ 5 by omega) (fun x1' x2' w' => f_L_areDrops_0_8 n x1' x2' w') 25 0 4096 u1 (by omega) (by omega) h'
      obtain ⟨u', b1, b2⟩ := ih (kd + 1) n u2 (by omega) (by omega) (by omega) h''
      refine ⟨u', ?_, b2⟩
      rw [f_L_areDrops_0_8, if_neg (q_nle (L := 6) (b := 6) rfl (by omega) (by omega)), e1, Option.bind_some]
      exact e2.trans b1
  unfold Lk f_L_areDrops_0
  rw [D_total0 h, Option.bind_some]
  exact loop 5 1 4096 w (by omega) (by omega) (by omega) h
end AD
