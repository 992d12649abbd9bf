/-! the class's attacks -/
theorem mst_le : ∀ x, x < 21 → ∀ d, d < 8 → mst x d ≤ 4 := by decide +kernel
theorem C_tab : ∀ x, x < 20 → ∀ d, d < 8 → bt (tb_STEPS.getD x 0) d = decide (1 ≤ mst (x + 1) d) ∧ bt (tb_SLIDES.getD x 0) d = decide (2 ≤ mst (x + 1) d) ∧ (2 ≤ mst (x + 1) d → mst (x + 1) d = 4) := by decide +kernel
theorem C_ixb {at_ d : Nat} (ha : at_ < 25) (hd : d < 8) : nI at_ * 8 + nI d = nI (8 * at_ + d) := by
  rw [show nI at_ * (8 : Int32) = nI (at_ * 8) from pk_mul at_ 8, nI_add, Nat.mul_comm]
theorem C_far {x d far : Nat} (hx : x < 20) (hd : d < 8) (h1 : 1 ≤ far) (h4 : far ≤ 4) : bt (if ¬ nI far = 1 then tb_SLIDES.getD x 0 else tb_STEPS.getD x 0) d = decide (far ≤ mst (x + 1) d) := by
  obtain ⟨t1, t2, t3⟩ := C_tab x hx d hd
  by_cases e : far = 1
  · subst e
    rw [if_neg (fun h => h rfl), t1]
  · rw [if_pos (q_ne (L := 1) (b := 1) rfl (by omega) (by omega) e), t2]
    by_cases h2 : 2 ≤ mst (x + 1) d
    · rw [t3 h2, decide_eq_true (by omega), decide_eq_true (by omega)]
    · rw [decide_eq_false h2, decide_eq_false (by omega)]
theorem C_ray {w : mvW} {σ : PS} (hC : CI w σ) (k33 : Int32 → Int32 → Int32 → Int32 → mvW → Option (Int32 × mvW)) {q0 : Int32} {x d : Nat} (hx : x < 20) (hd : d < 8) : ∀ (j at_ far : Nat) (s : Int32) (N : Nat), at_ < 25 → 1 ≤ far → far ≤ 5 → pthN (j + 1) at_ d = pthN j at_ d → j + 3 ≤ N → f_X2_attackedFrom_46 k33 N q0 (nI x) s (nI d) (nI at_) (nI far) w = k33 q0 (nI x) (s ||| rayL σ.1 (mst (x + 1) d) far (pthN j at_ d)) (nI d + 1) w := by
  have hm4 := mst_le (x + 1) (by omega) d hd
  -- one round, with the continuation of a free square given
  have one : ∀ (at_ far : Nat) (s : Int32) (n : Nat), at_ < 25 → 1 ≤ far → far ≤ 4 → f_X2_attackedFrom_46 k33 (n + 1) q0 (nI x) s (nI d) (nI at_) (nI far) w = (if far ≤ mst (x + 1) d then (match nxt at_ d with | none => k33 q0 (nI x) s (nI d + 1) w | some r => if σ.1 r = 0 then f_X2_attackedFrom_46 k33 n q0 (nI x) (s ||| (1 <<< (nI r &&& 31))) (nI d) (nI r) (nI (far + 1)) w else k33 q0 (nI x) (s ||| (1 <<< (nI r &&& 31))) (nI d + 1) w) else k33 q0 (nI x) s (nI d + 1) w) := by
    intro at_ far s n ha h1 h4
    have hb := C_far hx hd h1 h4
    have g71 : ∀ s0, s0 = (if ¬ nI far = 1 then tb_SLIDES.getD x 0 else tb_STEPS.getD x 0) → f_X2_attackedFrom_71 k33 (fun x1' x2' x3' x4' x5' x6' w' => f_X2_attackedFrom_46 k33 n x1' x2' x3' x4' x5' x6' w') q0 (nI x) s (nI d) (nI at_) (nI far) s0 w = (if far ≤ mst (x + 1) d then (match nxt at_ d with | none => k33 q0 (nI x) s (nI d + 1) w | some r => if σ.1 r = 0 then f_X2_attackedFrom_46 k33 n q0 (nI x) (s ||| (1 <<< (nI r &&& 31))) (nI d) (nI r) (nI (far + 1)) w else k33 q0 (nI x) (s ||| (1 <<< (nI r &&& 31))) (nI d + 1) w) else k33 q0 (nI x) s (nI d + 1) w) := by
      intro s0 hs0
      unfold f_X2_attackedFrom_71
      rw [px_bit _ (by omega), hs0, hb, C_ixb ha hd]
      by_cases hfm : far ≤ mst (x + 1) d
      · rw [if_pos hfm, decide_eq_true hfm, if_pos rfl, if_neg (by decide), if_neg (nI_pos (by omega)), if_pos (q_lt (L := 200) (b := 200) rfl (by omega) (by omega)), px_ix (by omega) (by decide), Option.bind_some, hC.2.1 at_ d ha hd]
        cases hn : nxt at_ d with
        | none => dsimp only; rw [if_pos (by decide)]
        | some r =>
          have hr := nxt_lt at_ ha d hd r hn
          dsimp only
          rw [if_neg (nI_pos (by omega)), if_pos (q_lt (L := 25) (b := 25) rfl hr (by omega)), px_ix (by omega) (by decide), Option.bind_some, hC.1.1 r hr]
          by_cases h0 : σ.1 r = 0
          · rw [if_pos ((px_encE _ (hC.2.2.2.1 r hr)).mpr h0), if_pos h0, nI_1]
          · rw [if_neg (fun h => h0 ((px_encE _ (hC.2.2.2.1 r hr)).mp h)), if_neg h0]
      · rw [if_neg hfm, decide_eq_false hfm, if_pos (by decide)]
    rw [f_X2_attackedFrom_46, if_neg (q_nle (L := 5) (b := 5) rfl (by omega) (by omega))]
    by_cases e : nI far = 1
    · rw [if_neg (fun h => h e), px_ix (show x < tb_STEPS.length from hx) (by decide), Option.bind_some]
      exact g71 _ (by rw [if_neg (fun h => h e)])
    · rw [if_pos e, px_ix (show x < tb_SLIDES.length from hx) (by decide), Option.bind_some]
      exact g71 _ (by rw [if_pos e])
  have end5 : ∀ (at_ : Nat) (s : Int32) (n : Nat), f_X2_attackedFrom_46 k33 (n + 1) q0 (nI x) s (nI d) (nI at_) (nI 5) w = k33 q0 (nI x) s (nI d + 1) w := by
    intro at_ s n
    rw [f_X2_attackedFrom_46, if_pos (by decide)]
  intro j
  induction j with
  | zero =>
    intro at_ far s N ha h1 h5 hc hN
    obtain ⟨n, rfl⟩ : ∃ n, N = n + 1 := ⟨N - 1, by omega⟩
    have hn : nxt at_ d = none := by
      rw [pthN, pthN] at hc
      cases h : nxt at_ d with
      | none => rfl
      | some r => rw [h] at hc; simp at hc
    rw [show pthN 0 at_ d = [] from rfl, rayL, px_or0]
    by_cases e5 : far = 5
    · rw [e5, end5]
    · rw [one at_ far s n ha h1 (by omega), hn]
      simp
  | succ j ih =>
    intro at_ far s N ha h1 h5 hc hN
    obtain ⟨n, rfl⟩ : ∃ n, N = n + 1 := ⟨N - 1, by omega⟩
    by_cases e5 : far = 5
    · rw [e5, end5]
      have : rayL σ.1 (mst (x + 1) d) 5 (pthN (j + 1) at_ d) = 0 := by
        cases pthN (j + 1) at_ d with
        | nil => rfl
        | cons a l => rw [rayL, if_neg (by omega)]
      rw [this, px_or0]
    · rw [one at_ far s n ha h1 (by omega)]
      cases hn : nxt at_ d with
      | none =>
        rw [show pthN (j + 1) at_ d = [] by rw [pthN, hn], rayL, px_or0]
        simp
      | some r =>
        have hr := nxt_lt at_ ha d hd r hn
        have hc' : pthN (j + 1) r d = pthN j r d := by
          rw [pthN, pthN, hn] at hc
          exact (List.cons.inj hc).2
        rw [show pthN (j + 1) at_ d = r :: pthN j r d by rw [pthN, hn], rayL]
        dsimp only
        by_cases hfm : far ≤ mst (x + 1) d
        · rw [if_pos hfm, if_pos hfm]
          by_cases h0 : σ.1 r = 0
          · rw [if_pos h0, if_pos h0, ih r (far + 1) _ n hr (by omega) (by omega) hc' (by omega), px_ora]
          · rw [if_neg h0, if_neg h0, px_or0]
        · rw [if_neg hfm, if_neg hfm, px_or0]
theorem C_attackedFrom {w : mvW} {σ : PS} (hC : CI w σ) {q : Nat} (hq : q < 25) : f_X2_attackedFrom (nI q) w = some (if σ.1 q = 0 then 0 else attM σ.1 (σ.1 q) q, w) := by
  have h20 := hC.2.2.2.1 q hq
  unfold f_X2_attackedFrom
  rw [C_manOn hC hq, Option.bind_some]
  dsimp only
  by_cases h0 : σ.1 q = 0
  · rw [if_pos h0, h0, if_neg (by decide), if_pos (by decide)]
  · rw [if_neg h0]
    obtain ⟨x, hbx⟩ : ∃ x, σ.1 q = x + 1 := ⟨σ.1 q - 1, by omega⟩
    have hx20 : x < 20 := by omega
    rw [hbx, show encM (x + 1) = nI x by unfold encM; rw [if_neg (by omega), Nat.add_sub_cancel], if_neg (nI_pos (by omega)), if_neg (q_nle (L := 20) (b := 20) rfl hx20 (by omega)), if_pos (q_lt (L := 20) (b := 20) rfl hx20 (by omega))]
    have loop : ∀ k d N, d + k = 8 → k + 1 ≤ N → f_X2_attackedFrom_33 N (nI q) (nI x) (attN σ.1 (x + 1) q d) (nI d) w = some (attM σ.1 (x + 1) q, w) := by
      intro k
      induction k with
      | zero =>
        intro d N hd hN
        obtain ⟨n, rfl⟩ : ∃ n, N = n + 1 := ⟨N - 1, by omega⟩
        have : d = 8 := by omega
        subst this
        rw [f_X2_attackedFrom_33, if_pos (by decide)]; rfl
      | succ k ih =>
        intro d N hd hN
        obtain ⟨n, rfl⟩ : ∃ n, N = n + 1 := ⟨N - 1, by omega⟩
        have hd8 : d < 8 := by omega
        rw [f_X2_attackedFrom_33, if_neg (q_nle (L := 8) (b := 8) rfl hd8 (by omega)), show (1 : Int32) = nI 1 from rfl, C_ray hC _ hx20 hd8 4 q 1 _ 4096 hq (by omega) (by omega) (pth_end q hq d hd8 5 (by omega)) (by omega)]
        rw [nI_1]
        exact ih (d + 1) n (by omega) (by omega)
    exact loop 8 0 4096 (by omega) (by omega)
/-- the first man on a path strikes back, or not -/
def hitB (b : Nat → Nat) (s back : Nat) : Nat → List Nat → Nat
  | _, [] => 0
  | far, q :: qs => if b q ≠ 0 then (if (decide ((b q - 1) / 10 = s) && decide (far ≤ mst (b q) back)) = true then 1 else 0) else hitB b s back (far + 1) qs
def cbN (b : Nat → Nat) (s t : Nat) : Nat → Nat
  | 0 => 0
  | d + 1 => cbN b s t d + hitB b s (7 - d) 1 (pth t d)
theorem hitB_le (b : Nat → Nat) (s back : Nat) : ∀ (l : List Nat) (far : Nat), hitB b s back far l ≤ 1
  | [], _ => by simp [hitB]
  | q :: qs, far => by
    rw [hitB]
    have := hitB_le b s back qs (far + 1)
    repeat' split
    all_goals omega
theorem cbN_le (b : Nat → Nat) (s t : Nat) : ∀ n, cbN b s t n ≤ n
  | 0 => Nat.le_refl _
  | n + 1 => by rw [cbN]; have := cbN_le b s t n; have := hitB_le b s (7 - n) (pth t n) 1; omega
theorem C_back {w : mvW} {σ : PS} (hC : CI w σ) (k5 : Int32 → Int32 → Int32 → Int32 → mvW → Option (Int32 × mvW)) {sq : Int32} {s d mm : Nat} (hs : s ≤ 1) (hd : d < 8) (hmm : mm < 1000) : ∀ (j at_ far N : Nat), at_ < 25 → 1 ≤ far → far + (pthN j at_ d).length ≤ 5 → pthN (j + 1) at_ d = pthN j at_ d → j + 3 ≤ N → f_X2_countAttackers_25 k5 N (nI s) sq (nI mm) (nI d) (nI (7 - d)) (nI at_) (nI far) w = k5 (nI s) sq (nI (mm + hitB σ.1 s (7 - d) far (pthN j at_ d))) (nI d + 1) w := by
  have one : ∀ (at_ far n : Nat), at_ < 25 → 1 ≤ far → far ≤ 4 → f_X2_countAttackers_25 k5 (n + 1) (nI s) sq (nI mm) (nI d) (nI (7 - d)) (nI at_) (nI far) w = (match nxt at_ d with | none => k5 (nI s) sq (nI mm) (nI d + 1) w | some r => if σ.1 r ≠ 0 then k5 (nI s) sq (nI (mm + (if (decide ((σ.1 r - 1) / 10 = s) && decide (far ≤ mst (σ.1 r) (7 - d))) = true then 1 else 0))) (nI d + 1) w else f_X2_countAttackers_25 k5 n (nI s) sq (nI mm) (nI d) (nI (7 - d)) (nI r) (nI (far + 1)) w) := by
    intro at_ far n ha h1 h4
    rw [f_X2_countAttackers_25, if_neg (q_nle (L := 5) (b := 5) rfl (by omega) (by omega)), C_ixb ha hd, if_neg (nI_pos (by omega)), if_neg (q_nle (L := 200) (b := 200) rfl (by omega) (by omega)), px_ix (by omega) (by decide), Option.bind_some, hC.2.1 at_ d ha hd]
    unfold f_X2_countAttackers_67
    cases hn : nxt at_ d with
    | none => dsimp only; rw [if_pos (by decide)]
    | some r =>
      have hr := nxt_lt at_ ha d hd r hn
      have h20 := hC.2.2.2.1 r hr
      dsimp only
      rw [if_neg (nI_pos (by omega)), if_pos (q_lt (L := 25) (b := 25) rfl hr (by omega)), px_ix (by omega) (by decide), Option.bind_some, hC.1.1 r hr]
      by_cases h0 : σ.1 r = 0
      · rw [h0, if_neg (show ¬ encM 0 < 0 by decide), if_pos (show 20 ≤ encM 0 by decide), if_neg (show ¬ (0 : Nat) ≠ 0 from fun h => h rfl), nI_1]
      · rw [if_pos h0]
        obtain ⟨x, hbx⟩ : ∃ x, σ.1 r = x + 1 := ⟨σ.1 r - 1, by omega⟩
        have hx20 : x < 20 := by omega
        rw [hbx, show encM (x + 1) = nI x by unfold encM; rw [if_neg (by omega), Nat.add_sub_cancel], if_neg (nI_pos (by omega)), if_neg (q_nle (L := 20) (b := 20) rfl hx20 (by omega)), if_pos (q_lt (L := 20) (b := 20) rfl hx20 (by omega)), Nat.add_sub_cancel]
        have hb := C_far (d := 7 - d) hx20 (by omega) h1 h4
        have g140 : ∀ s0, s0 = (if ¬ nI far = 1 then tb_SLIDES.getD x 0 else tb_STEPS.getD x 0) → f_X2_countAttackers_140 k5 (nI s) sq (nI mm) (nI d) (nI (7 - d)) (nI x) s0 w = k5 (nI s) sq (nI (mm + (if (decide (x / 10 = s) && decide (far ≤ mst (x + 1) (7 - d))) = true then 1 else 0))) (nI d + 1) w := by
          intro s0 hs0
          unfold f_X2_countAttackers_140
          rw [px_d10 (by omega), px_bit _ (by omega), hs0, hb]
          by_cases e1 : x / 10 = s
          · rw [if_neg (fun h : ¬ nI (x / 10) = nI s => h (by rw [e1])), decide_eq_true e1, Bool.true_and]
            by_cases e2 : far ≤ mst (x + 1) (7 - d)
            · rw [decide_eq_true e2, if_neg (by decide), nI_1]; rfl
            · rw [decide_eq_false e2, if_pos (by decide)]; rfl
          · rw [if_pos (fun h => e1 ((nI_eq (by omega) (by omega)).mp h)), decide_eq_false e1, Bool.false_and]; rfl
        by_cases e : nI far = 1
        · rw [if_neg (fun h => h e), px_ix (show x < tb_STEPS.length from hx20) (by decide), Option.bind_some]
          exact g140 _ (by rw [if_neg (fun h => h e)])
        · rw [if_pos e, px_ix (show x < tb_SLIDES.length from hx20) (by decide), Option.bind_some]
          exact g140 _ (by rw [if_pos e])
  have end5 : ∀ (at_ n : Nat), f_X2_countAttackers_25 k5 (n + 1) (nI s) sq (nI mm) (nI d) (nI (7 - d)) (nI at_) (nI 5) w = k5 (nI s) sq (nI mm) (nI d + 1) w := by
    intro at_ n
    rw [f_X2_countAttackers_25, if_pos (by decide)]
  intro j
  induction j with
  | zero =>
    intro at_ far N ha h1 h5 hc hN
    obtain ⟨n, rfl⟩ : ∃ n, N = n + 1 := ⟨N - 1, by omega⟩
    have hn : nxt at_ d = none := by
      rw [pthN, pthN] at hc
      cases h : nxt at_ d with
      | none => rfl
      | some r => rw [h] at hc; simp at hc
    rw [show pthN 0 at_ d = [] from rfl, hitB]
    by_cases e5 : far = 5
    · rw [e5, end5]; rfl
    · have h5' : far ≤ 5 := by omega
      rw [one at_ far n ha h1 (by omega)]; simp only [hn]; rfl
  | succ j ih =>
    intro at_ far N ha h1 h5 hc hN
    obtain ⟨n, rfl⟩ : ∃ n, N = n + 1 := ⟨N - 1, by omega⟩
    cases hn : nxt at_ d with
    | none =>
      rw [show pthN (j + 1) at_ d = [] by rw [pthN, hn], hitB]
      by_cases e5 : far = 5
      · rw [e5, end5]; rfl
      · rw [one at_ far n ha h1 (by omega)]; simp only [hn]; rfl
    | some r =>
      have hr := nxt_lt at_ ha d hd r hn
      have hc' : pthN (j + 1) r d = pthN j r d := by
        rw [pthN, pthN, hn] at hc
        exact (List.cons.inj hc).2
      rw [show pthN (j + 1) at_ d = r :: pthN j r d by rw [pthN, hn]] at h5 ⊢
      simp only [List.length_cons] at h5
      rw [one at_ far n ha h1 (by omega), hitB]
      simp only [hn]
      by_cases h0 : σ.1 r = 0
      · rw [if_neg (fun h => h h0), if_neg (fun h => h h0)]
        exact ih r (far + 1) n hr (by omega) (by omega) hc' (by omega)
      · rw [if_pos h0, if_pos h0]
theorem pth_len : ∀ q, q < 25 → ∀ d, d < 8 → (pth q d).length ≤ 4 := by decide +kernel
theorem C_countB {w : mvW} {σ : PS} (hC : CI w σ) {s t : Nat} (hs : s ≤ 1) (ht : t < 25) : f_X2_countAttackers (nI s) (nI t) w = some (nI (cbN σ.1 s t 8), w) := by
  unfold f_X2_countAttackers
  have loop : ∀ k d N, d + k = 8 → k + 1 ≤ N → f_X2_countAttackers_5 N (nI s) (nI t) (nI (cbN σ.1 s t d)) (nI d) w = some (nI (cbN σ.1 s t 8), w) := by
    intro k
    induction k with
    | zero =>
      intro d N hd hN
      obtain ⟨n, rfl⟩ : ∃ n, N = n + 1 := ⟨N - 1, by omega⟩
      have : d = 8 := by omega
      subst this
      rw [f_X2_countAttackers_5, if_pos (by decide)]
    | succ k ih =>
      intro d N hd hN
      obtain ⟨n, rfl⟩ : ∃ n, N = n + 1 := ⟨N - 1, by omega⟩
      have hd8 : d < 8 := by omega
      have hle := cbN_le σ.1 s t d
      rw [f_X2_countAttackers_5, if_neg (q_nle (L := 8) (b := 8) rfl hd8 (by omega)), show (7 : Int32) - nI d = nI (7 - d) from pk_sub (a := 7) (by omega), show (1 : Int32) = nI 1 from rfl, C_back hC _ hs hd8 (by omega) 4 t 1 4096 ht (by omega) (by have := pth_len t ht d hd8; unfold pth at this; omega) (pth_end t ht d hd8 5 (by omega)) (by omega)]
      rw [nI_1]
      exact ih (d + 1) n (by omega) (by omega)
  exact loop 8 0 4096 (by omega) (by omega)
theorem C_countNo (s : Int32) (w : mvW) : f_X2_countAttackers s (-1) w = some (0, w) := by
  unfold f_X2_countAttackers
  have loop : ∀ k d N, d + k = 8 → k + 1 ≤ N → f_X2_countAttackers_5 N s (-1) 0 (nI d) w = some (0, w) := by
    intro k
    induction k with
    | zero =>
      intro d N hd hN
      obtain ⟨n, rfl⟩ : ∃ n, N = n + 1 := ⟨N - 1, by omega⟩
      have : d = 8 := by omega
      subst this
      rw [f_X2_countAttackers_5, if_pos (by decide)]
    | succ k ih =>
      intro d N hd hN
      obtain ⟨n, rfl⟩ : ∃ n, N = n + 1 := ⟨N - 1, by omega⟩
      have hd8 : d < 8 := by omega
      have neg : ∀ d, d < 8 → (-1 : Int32) * 8 + nI d < 0 := by decide +kernel
      rw [f_X2_countAttackers_5, if_neg (q_nle (L := 8) (b := 8) rfl hd8 (by omega)), show (4096 : Nat) = 4095 + 1 from rfl, f_X2_countAttackers_25, if_neg (by decide), if_pos (neg d hd8)]
      unfold f_X2_countAttackers_67
      rw [if_pos (by decide), nI_1]
      exact ih (d + 1) n (by omega) (by omega)
  exact loop 8 0 4096 (by omega) (by omega)
