/-! the class finds its plays -/
theorem numN_add (f : Nat → Bool) (m : Nat) : ∀ k, numN f (m + k) = numN f m + numN (fun t => f (m + t)) k
  | 0 => rfl
  | k + 1 => by
    rw [← Nat.add_assoc, numN, numN, numN_add f m k, Nat.add_assoc]
theorem numN_cong {f g : Nat → Bool} : ∀ n, (∀ t, t < n → f t = g t) → numN f n = numN g n
  | 0, _ => rfl
  | n + 1, h => by rw [numN, numN, h n (by omega), numN_cong n (fun t ht => h t (by omega))]
def bF (σ : PS) (i : Nat) : Nat → Bool := fun t => alw σ (25 * i + t)
def blk (σ : PS) (i : Nat) : Nat := numN (bF σ i) 25
def sumB (σ : PS) (lo : Nat) : Nat → Nat
  | 0 => 0
  | n + 1 => sumB σ lo n + blk σ (lo + n)
theorem sumB_add (σ : PS) (lo m : Nat) : ∀ n, sumB σ lo (m + n) = sumB σ lo m + sumB σ (lo + m) n
  | 0 => rfl
  | n + 1 => by rw [← Nat.add_assoc, sumB, sumB, sumB_add σ lo m n, Nat.add_assoc, Nat.add_assoc lo m n]
theorem numN_sumB (σ : PS) : ∀ n, numN (alw σ) (25 * n) = sumB σ 0 n
  | 0 => rfl
  | n + 1 => by rw [Nat.mul_add, numN_add, numN_sumB σ n, sumB, Nat.zero_add]; rfl
theorem numS_sum (σ : PS) : numS σ = sumB σ 0 25 + sumB σ 25 25 + sumB σ 50 5 := by
  have h1 := sumB_add σ 0 25 30
  have h2 := sumB_add σ 25 25 5
  have h3 := numN_sumB σ 55
  unfold numS
  rw [show (1375 : Nat) = 25 * 55 from rfl, h3, h1, h2, Nat.add_assoc]
theorem alw_move {σ : PS} (hO : OKs σ) {f to : Nat} (hf : f < 25) (ht : to < 25) (pr : Bool) : alw σ (mcd f to pr) = (isOwn σ.1 σ.2.1 f && (safeT σ.1 f to && (if pr = true then prm σ.1 f to else !frc σ.1 f to))) := by
  unfold alw
  rw [resS_move hO hf ht]
  cases h1 : isOwn σ.1 σ.2.1 f with
  | false => simp [wnmS, h1]
  | true =>
    obtain ⟨o1, o2⟩ := own_of h1
    cases h2 : safeT σ.1 f to with
    | false =>
      rw [if_neg (show ¬ (false = true) by decide), Bool.false_and, Bool.and_false]
      split
      · next h => exact decide_eq_false h
      · rfl
    | true =>
      have h2' := h2
      unfold safeT at h2'
      rw [o2] at h2'
      simp only [Bool.and_eq_true, decide_eq_true_eq, Bool.not_eq_true'] at h2'
      obtain ⟨-, a1, a2, a3⟩ := h2'
      have h3 : (isOwn σ.1 σ.2.1 to || (decide (σ.1 to ≠ 0) && decide (knd (σ.1 to) = 0))) = false := by
        unfold cEn at a2
        unfold isOwn
        by_cases hz : σ.1 to = 0
        · simp [hz]
        · simp [hz] at a2
          simp [hz, a2.1, a2.2]
      have e5 : frc σ.1 f to = (decide (knd (σ.1 f) = 5) && isLast σ.2.1 to) := by unfold frc; rw [o2]; simp [o1]
      have e4 : prm σ.1 f to = canP σ.1 σ.2.1 f to := by unfold prm canP; rw [o2]; simp [o1]
      have ew : wnmS σ.1 σ.2.1 f to pr = if pr = true then (if canP σ.1 σ.2.1 f to = true then 0 else 4) else if (decide (knd (σ.1 f) = 5) && isLast σ.2.1 to) = true then 5 else 0 := by
        unfold wnmS
        rw [h1, if_neg (show ¬ (true = false) by decide), a1, if_neg (show ¬ (true = false) by decide), h3, if_neg (show ¬ (false = true) by decide)]
      rw [ew, e4, e5]
      cases pr
      · cases (decide (knd (σ.1 f) = 5) && isLast σ.2.1 to) <;> rfl
      · cases canP σ.1 σ.2.1 f to <;> rfl
theorem alw_drop {σ : PS} (hO : OKs σ) {kd to : Nat} (h1 : 1 ≤ kd) (h5 : kd ≤ 5) (ht : to < 25) : alw σ (dcd kd to) = (opn σ kd (safeD σ.1 σ.2.1) to && !(decide (kd = 5) && matT σ to)) := by
  unfold alw
  rw [resS_drop hO h1 h5 ht]
  unfold wndS opn
  by_cases a1 : σ.2.2.1 (5 * σ.2.1 + kd - 1) = 0
  · simp [a1]
  · by_cases a2 : σ.1 to = 0
    · by_cases a3 : kd = 5
      · have a1' : ¬ σ.2.2.1 (5 * σ.2.1 + 4) = 0 := by simpa [a3] using a1
        cases hl : isLast σ.2.1 to <;> cases hp : hasPw σ.1 σ.2.1 (to % 5) <;> cases hs : safeD σ.1 σ.2.1 to <;> cases hm : matT σ to <;> simp [a1', a2, a3, hl, hp]
      · cases hs : safeD σ.1 σ.2.1 to <;> simp [a1, a2, a3]
    · simp [a1, a2, safeD]
/-- what the finding of plays leaves alone -/
def FG (w w' : mvW) : Prop := ∀ c, c ≠ 2 → c ≠ 5 → c ≠ 6 → c ≠ 7 → w' c = w c
theorem FG.refl (w : mvW) : FG w w := fun _ _ _ _ _ => rfl
theorem FG.trans {a b c : mvW} (h1 : FG a b) (h2 : FG b c) : FG a c := fun k h hh hhh hhhh => (h2 k h hh hhh hhhh).trans (h1 k h hh hhh hhhh)
theorem FC.g {a b : mvW} (h : FC a b) : FG a b := fun k hk _ _ _ => h k hk
theorem CI.up {w : mvW} {σ : PS} (h : CI w σ) {c : Nat} (h2 : c ≠ 2) (h3 : c ≠ 3) (i : Nat) (x : Int32) : CI (mv_up w c i x) σ := by
  obtain ⟨a, b, c', d⟩ := h
  refine ⟨?_, ?_, c', d⟩
  · have : mv_up w c i x 2 = w 2 := by funext j; exact rdn w c i j 2 x (fun h => h2 h.symm)
    rw [this]; exact a
  · intro q d hq hd
    rw [rdn w c i _ 3 x (fun h => h3 h.symm)]; exact b q d hq hd
theorem FG.up {w : mvW} {c : Nat} (h : c = 5 ∨ c = 6 ∨ c = 7) (i : Nat) (x : Int32) : FG w (mv_up w c i x) := by
  intro k h2 h5 h6 h7
  funext j
  exact rdn w c i j k x (by omega)
theorem rds (w : mvW) (c i j : Nat) (x : Int32) : mv_up w c i x c j = if j = i then x else w c j := by simp [mv_up, upd]
def FndM (w : mvW) (σ : PS) (n : Nat) : Prop := ∀ i, i < n → w 5 i = msk (bF σ i) ∧ w 6 i = msk (bF σ (25 + i))
def FndD (w : mvW) (σ : PS) (n : Nat) : Prop := ∀ k, 1 ≤ k → k < n → w 7 k = msk (bF σ (49 + k))
theorem bF_pl {σ : PS} (hO : OKs σ) {f t : Nat} (hf : f < 25) (ht : t < 25) : bF σ f t = ((isOwn σ.1 σ.2.1 f && safeT σ.1 f t) && !frc σ.1 f t) := by
  have := alw_move hO hf ht false
  rw [if_neg (by decide), ← Bool.and_assoc] at this
  exact this
theorem bF_pr {σ : PS} (hO : OKs σ) {f t : Nat} (hf : f < 25) (ht : t < 25) : bF σ (25 + f) t = ((isOwn σ.1 σ.2.1 f && safeT σ.1 f t) && prm σ.1 f t) := by
  have := alw_move hO hf ht true
  rw [if_pos rfl, ← Bool.and_assoc] at this
  rw [← this]
  unfold bF mcd
  rw [if_pos rfl]
  exact congrArg (alw σ) (by omega)
theorem bF_dr {σ : PS} (hO : OKs σ) {k t : Nat} (h1 : 1 ≤ k) (h5 : k ≤ 5) (ht : t < 25) : bF σ (49 + k) t = (opn σ k (safeD σ.1 σ.2.1) t && !(decide (k = 5) && matT σ t)) := by
  rw [← alw_drop hO h1 h5 ht]
  unfold bF dcd
  exact congrArg (alw σ) (by omega)
theorem C_find12 {σ : PS} {w0 : mvW} (k12 : Int32 → Int32 → Int32 → mvW → Option (Int32 × mvW)) {f : Nat} {w : mvW} (hC : CI w σ) (hf : f < 25) (hM : FndM w σ f) (hG : FG w0 w) :
    ∃ w', (f_X2_manOn (nI f) w).bind (fun z3 => (f_X4_sideOf z3.1 z3.2).bind fun z4 => (if ¬ z4.1 = nI σ.2.1 then f_X3_findPlays_38 k12 (nI σ.2.1) (nI (sumB σ 0 f + sumB σ 25 f)) (nI f) 0 z4.2 else f_X3_findPlays_38 k12 (nI σ.2.1) (nI (sumB σ 0 f + sumB σ 25 f)) (nI f) 1 z4.2)) = k12 (nI σ.2.1) (nI (sumB σ 0 (f + 1) + sumB σ 25 (f + 1))) (nI (f + 1)) w' ∧ CI w' σ ∧ FG w0 w' ∧ FndM w' σ (f + 1) := by
  have hO := hC.2.2.2
  have hf20 := hO.1 f hf
  have ht1 : σ.2.1 ≤ 1 := hO.2
  have g54 : ∀ u, CI u σ → FG w0 u → FndM u σ f → ∃ w', f_X3_findPlays_54 k12 (nI σ.2.1) (nI (sumB σ 0 f + sumB σ 25 f)) (nI f) (msk (fun t => isOwn σ.1 σ.2.1 f && safeT σ.1 f t)) u = k12 (nI σ.2.1) (nI (sumB σ 0 (f + 1) + sumB σ 25 (f + 1))) (nI (f + 1)) w' ∧ CI w' σ ∧ FG w0 w' ∧ FndM w' σ (f + 1) := by
    intro u hu hg hm
    unfold f_X3_findPlays_54
    rw [C_forcing hu hf, Option.bind_some]
    dsimp only
    rw [px_ix hf (by decide), Option.bind_some, msk_andn, msk_cong (g := bF σ f) (fun t ht => (bF_pl hO hf ht).symm)]
    have hu1 : CI (mv_up u 5 f (msk (bF σ f))) σ := hu.up (by decide) (by decide) _ _
    rw [C_promoting hu1 hf, Option.bind_some]
    dsimp only
    rw [Option.bind_some, Option.bind_some, msk_and, msk_cong (g := bF σ (25 + f)) (fun t ht => (bF_pr hO hf ht).symm)]
    rw [rdn _ 6 f f 5 _ (by decide), rds, if_pos rfl, C_bitCount, Option.bind_some]
    dsimp only
    rw [Option.bind_some, rds, if_pos rfl, C_bitCount, Option.bind_some]
    dsimp only
    refine ⟨mv_up (mv_up u 5 f (msk (bF σ f))) 6 f (msk (bF σ (25 + f))), ?_, hu1.up (by decide) (by decide) _ _, hg.trans ((FG.up (Or.inl rfl) _ _).trans (FG.up (Or.inr (Or.inl rfl)) _ _)), ?_⟩
    · rw [nI_add, nI_add, nI_1]
      rw [show sumB σ 0 f + sumB σ 25 f + (numN (bF σ f) 25 + numN (bF σ (25 + f)) 25) = sumB σ 0 (f + 1) + sumB σ 25 (f + 1) by
        rw [sumB, sumB, Nat.zero_add]; unfold blk; omega]
    · intro i hi
      rw [rdn _ 6 f i 5 _ (by decide), rds, rds, rdn _ 5 f i 6 _ (by decide)]
      by_cases e : i = f
      · subst e; rw [if_pos rfl, if_pos rfl]; exact ⟨rfl, rfl⟩
      · rw [if_neg e, if_neg e]; exact hm i (by omega)
  rw [C_manOn hC hf, Option.bind_some]
  unfold f_X4_sideOf
  rw [Option.bind_some]
  dsimp only
  rw [px_side _ hf20]
  cases h1 : isOwn σ.1 σ.2.1 f with
  | false =>
    have hne : ¬ nI (if σ.1 f = 0 then 9 else (σ.1 f - 1) / 10) = nI σ.2.1 := by
      by_cases hz : σ.1 f = 0
      · rw [if_pos hz]
        exact fun h => by have := (nI_eq (by omega) (by omega)).mp h; omega
      · rw [if_neg hz]
        intro h
        have := (nI_eq (by omega) (by omega)).mp h
        simp [isOwn, hz, this] at h1
    rw [if_pos hne]
    unfold f_X3_findPlays_38
    rw [if_pos rfl]
    have := g54 w hC hG hM
    rw [h1, msk_cong (g := fun _ => false) (fun t _ => by rw [Bool.false_and]), ← noneM] at this
    exact this
  | true =>
    obtain ⟨o1, o2⟩ := own_of h1
    rw [if_neg (fun h => h (by rw [if_neg o1, o2]))]
    unfold f_X3_findPlays_38
    rw [if_neg (by decide)]
    obtain ⟨w1, e1, e2, e3⟩ := C_safeTargets hC hf
    rw [e1, Option.bind_some]
    dsimp only
    have := g54 w1 e2 (hG.trans e3.g) (fun i hi => by rw [e3 5 (by decide), e3 6 (by decide)]; exact hM i hi)
    rw [h1, msk_cong (g := safeT σ.1 f) (fun t _ => by rw [Bool.true_and])] at this
    exact this
theorem C_find122 {σ : PS} {w0 : mvW} : ∀ (j k N : Nat) (u : mvW), k + j = 6 → 1 ≤ k → j + 1 ≤ N → CI u σ → FG w0 u → FndM u σ 25 → FndD u σ k → ∃ w', f_X3_findPlays_122 N (nI (sumB σ 0 25 + sumB σ 25 25 + sumB σ 50 (k - 1))) (msk (safeD σ.1 σ.2.1)) (nI k) u = some (nI (numS σ), w') ∧ CI w' σ ∧ FG w0 w' ∧ FndM w' σ 25 ∧ FndD w' σ 6 := by
  intro j
  induction j with
  | zero =>
    intro k N u hk h1 hN hu hg hm hd
    obtain ⟨n, rfl⟩ : ∃ n, N = n + 1 := ⟨N - 1, by omega⟩
    have : k = 6 := by omega
    subst this
    refine ⟨u, ?_, hu, hg, hm, hd⟩
    rw [f_X3_findPlays_122, if_pos (by decide), numS_sum]
  | succ j ih =>
    intro k N u hk h1 hN hu hg hm hd
    obtain ⟨n, rfl⟩ : ∃ n, N = n + 1 := ⟨N - 1, by omega⟩
    have hO := hu.2.2.2
    have k5 : k ≤ 5 := by omega
    have g160 : ∀ v, CI v σ → FG w0 v → FndM v σ 25 → FndD v σ k → ∃ w', f_X3_findPlays_160 (fun x2' x3' x4' w' => f_X3_findPlays_122 n x2' x3' x4' w') (nI (sumB σ 0 25 + sumB σ 25 25 + sumB σ 50 (k - 1))) (msk (safeD σ.1 σ.2.1)) (nI k) (msk (bF σ (49 + k))) (nI k) v = some (nI (numS σ), w') ∧ CI w' σ ∧ FG w0 w' ∧ FndM w' σ 25 ∧ FndD w' σ 6 := by
      intro v hv hgv hmv hdv
      unfold f_X3_findPlays_160
      rw [px_ix (n := 6) (by omega) (by decide), Option.bind_some, Option.bind_some, rds, if_pos rfl, C_bitCount, Option.bind_some]
      dsimp only
      rw [nI_add, nI_1]
      have := ih (k + 1) n (mv_up v 7 k (msk (bF σ (49 + k)))) (by omega) (by omega) (by omega) (hv.up (by decide) (by decide) _ _) (hgv.trans (FG.up (Or.inr (Or.inr rfl)) _ _))
        (fun i hi => by rw [rdn _ 7 k i 5 _ (by decide), rdn _ 7 k i 6 _ (by decide)]; exact hmv i hi)
        (fun i hi1 hi => by
          rw [rds]
          by_cases e : i = k
          · subst e; rw [if_pos rfl]
          · rw [if_neg e]; exact hdv i hi1 (by omega))
      rw [show k + 1 - 1 = (k - 1) + 1 by omega, show sumB σ 50 (k - 1 + 1) = sumB σ 50 (k - 1) + blk σ (50 + (k - 1)) from rfl, show 50 + (k - 1) = 49 + k by omega, ← Nat.add_assoc] at this
      exact this
    rw [f_X3_findPlays_122, if_neg (show ¬ (5 : Int32) < nI k from nI_nlt k5 (by decide)), C_openToDrops hu h1 k5, Option.bind_some]
    dsimp only
    by_cases e5 : k = 5
    · rw [if_neg (fun h => h (by rw [e5]; rfl))]
      obtain ⟨w1, a1, a2, a3⟩ := C_withoutMates hu (g := opn σ k (safeD σ.1 σ.2.1)) (fun t ht h => by
        unfold opn safeD at h
        simp only [Bool.and_eq_true, decide_eq_true_eq] at h
        exact h.2.1.1)
      rw [a1, Option.bind_some, msk_cong (f := fun t => opn σ k (safeD σ.1 σ.2.1) t && !matT σ t) (g := bF σ (49 + k)) (fun t ht => by rw [bF_dr hO h1 k5 ht, decide_eq_true e5, Bool.true_and])]
      dsimp only
      exact g160 w1 a2 (hg.trans a3.g) (fun i hi => by rw [a3 5 (by decide), a3 6 (by decide)]; exact hm i hi) (fun i h hi => by rw [a3 7 (by decide)]; exact hd i h hi)
    · rw [if_pos (show ¬ nI k = 5 from fun h => e5 ((nI_eq (b := 5) (by omega) (by omega)).mp h)), msk_cong (f := opn σ k (safeD σ.1 σ.2.1)) (g := bF σ (49 + k)) (fun t ht => by rw [bF_dr hO h1 k5 ht, decide_eq_false e5, Bool.false_and]; simp)]
      exact g160 u hu hg hm hd
theorem C_find12L {σ : PS} {w0 : mvW} : ∀ (j f N : Nat) (u : mvW), f + j = 25 → j + 1 ≤ N → CI u σ → FG w0 u → FndM u σ f → ∃ w', f_X3_findPlays_12 N (nI σ.2.1) (nI (sumB σ 0 f + sumB σ 25 f)) (nI f) u = some (nI (numS σ), w') ∧ CI w' σ ∧ FG w0 w' ∧ FndM w' σ 25 ∧ FndD w' σ 6 := by
  intro j
  induction j with
  | zero =>
    intro f N u hk hN hu hg hm
    obtain ⟨n, rfl⟩ : ∃ n, N = n + 1 := ⟨N - 1, by omega⟩
    have : f = 25 := by omega
    subst this
    obtain ⟨w1, a1, a2, a3⟩ := C_safeDrops hu
    rw [f_X3_findPlays_12, if_pos (by decide), a1, Option.bind_some]
    have r := C_find122 (w0 := w0) 5 1 4096 w1 (by omega) (by omega) (by omega) a2 (hg.trans a3.g) (fun i hi => by rw [a3 5 (by decide), a3 6 (by decide)]; exact hm i hi) (fun i h hi => by omega)
    rw [show (1 : Nat) - 1 = 0 from rfl, show sumB σ 50 0 = 0 from rfl, Nat.add_zero, show nI 1 = (1 : Int32) from rfl] at r
    exact r
  | succ j ih =>
    intro f N u hk hN hu hg hm
    obtain ⟨n, rfl⟩ : ∃ n, N = n + 1 := ⟨N - 1, by omega⟩
    obtain ⟨w1, a1, a2, a3, a4⟩ := C_find12 (fun x1' x2' x3' w' => f_X3_findPlays_12 n x1' x2' x3' w') hu (by omega) hm hg
    rw [f_X3_findPlays_12, if_neg (q_nle (L := 25) (b := 25) rfl (by omega) (by omega)), a1]
    exact ih (f + 1) n w1 (by omega) (by omega) a2 a3 a4
theorem C_findPlays {w : mvW} {σ : PS} (hC : CI w σ) : ∃ w', f_X3_findPlays w = some (nI (numS σ), w') ∧ CI w' σ ∧ FG w w' ∧ FndM w' σ 25 ∧ FndD w' σ 6 := by
  unfold f_X3_findPlays
  rw [C_sideToPlay hC, Option.bind_some]
  have r := C_find12L (w0 := w) 25 0 4096 w (by omega) (by omega) hC (FG.refl w) (fun i hi => by omega)
  rw [show sumB σ 0 0 = 0 from rfl, show sumB σ 25 0 = 0 from rfl, show nI (0 + 0) = (0 : Int32) from rfl] at r
  exact r
