/-! counts of men and worths -/
def brd (b : Nat → Nat) (n : Nat) : Nat := numN (fun q => decide (b q ≠ 0)) n
theorem px_44 {k : Nat} (h : k < 44) : mv_ix 44 (nI k) = some k := px_ix h (by decide)
theorem px_160 {k : Nat} (h : k < 160) : mv_ix 160 (nI k) = some k := px_ix h (by decide)
theorem C_menOnBoard {w : mvW} {σ : PS} (hC : CI w σ) : f_X2_menOnBoard w = some (nI (brd σ.1 25), w) := by
  have loop : ∀ j k N, k + j = 25 → j + 1 ≤ N → f_X2_menOnBoard_4 N (nI (brd σ.1 k)) (nI k) w = some (nI (brd σ.1 25), w) := by
    intro j
    induction j with
    | zero =>
      intro k N hk hN
      obtain ⟨n, rfl⟩ : ∃ n, N = n + 1 := ⟨N - 1, by omega⟩
      have : k = 25 := by omega
      subst this
      rw [f_X2_menOnBoard_4, if_pos (by decide)]
    | succ j ih =>
      intro k N hk hN
      obtain ⟨n, rfl⟩ : ∃ n, N = n + 1 := ⟨N - 1, by omega⟩
      have hk25 : k < 25 := by omega
      have r := ih (k + 1) n (by omega) (by omega)
      rw [f_X2_menOnBoard_4, if_neg (q_nle (L := 25) (b := 25) rfl hk25 (by omega)), px_44 (by omega), Option.bind_some, nI_1, nI_1]
      have e : w 2 k = encM (σ.1 k) := hC.1.1 k hk25
      unfold brd at r ⊢
      rw [numN] at r
      by_cases h : σ.1 k = 0
      · rw [if_pos (show w 2 k = 99 by rw [e, h]; rfl)]
        rw [if_neg (by rw [h]; decide)] at r
        exact r
      · rw [if_neg (show ¬ w 2 k = 99 by rw [e]; exact fun hh => h ((px_encE _ (hC.2.2.2.1 k hk25)).mp hh))]
        rw [if_pos (decide_eq_true h)] at r
        exact r
  exact loop 25 0 4096 (by omega) (by omega)
theorem M_onBoard {v : mvW} {σ : PS} (hR : RW v 0 σ) (hO : OKs σ) : f_X5_onBoard v = some (nI (brd σ.1 25), v) := by
  have loop : ∀ j k N, k + j = 25 → j + 1 ≤ N → f_X5_onBoard_4 N (nI (brd σ.1 k)) (nI k) v = some (nI (brd σ.1 25), v) := by
    intro j
    induction j with
    | zero =>
      intro k N hk hN
      obtain ⟨n, rfl⟩ : ∃ n, N = n + 1 := ⟨N - 1, by omega⟩
      have : k = 25 := by omega
      subst this
      rw [f_X5_onBoard_4, if_pos (by decide)]
    | succ j ih =>
      intro k N hk hN
      obtain ⟨n, rfl⟩ : ∃ n, N = n + 1 := ⟨N - 1, by omega⟩
      have hk25 : k < 25 := by omega
      have h20 := hO.1 k hk25
      have r := ih (k + 1) n (by omega) (by omega)
      rw [f_X5_onBoard_4, if_neg (q_nle (L := 25) (b := 25) rfl hk25 (by omega)), px_160 (by omega), Option.bind_some, nI_1, nI_1]
      have e : v 1 k = nI (σ.1 k) := by have := hR.1 k hk25; rwa [Nat.zero_add] at this
      unfold brd at r ⊢
      rw [numN] at r
      by_cases h : σ.1 k = 0
      · rw [if_pos (show v 1 k ≤ 0 by rw [e, h]; decide), show ∀ x : Int32, x + 0 = x from Int32.add_zero]
        rw [if_neg (by rw [h]; decide)] at r
        exact r
      · rw [if_neg (show ¬ v 1 k ≤ 0 by rw [e]; exact nI_nle (by omega) (by omega))]
        rw [if_pos (decide_eq_true h)] at r
        exact r
  exact loop 25 0 4096 (by omega) (by omega)
def hnd (h : Nat → Int32) (i0 : Nat) : Nat → Int32
  | 0 => 0
  | n + 1 => hnd h i0 n + h (i0 + n)
theorem C_menInHand {w : mvW} {σ : PS} (hC : CI w σ) {s : Nat} (hs : s < 2) : f_X2_menInHand (nI s) w = some (hnd σ.2.2.1 (5 * s) 5, w) := by
  have loop : ∀ j k N, k + j = 5 → j + 1 ≤ N → f_X2_menInHand_4 N (nI s) (hnd σ.2.2.1 (5 * s) k) (nI (k + 1)) w = some (hnd σ.2.2.1 (5 * s) 5, w) := by
    intro j
    induction j with
    | zero =>
      intro k N hk hN
      obtain ⟨n, rfl⟩ : ∃ n, N = n + 1 := ⟨N - 1, by omega⟩
      have : k = 5 := by omega
      subst this
      rw [f_X2_menInHand_4, if_pos (by decide)]
    | succ j ih =>
      intro k N hk hN
      obtain ⟨n, rfl⟩ : ∃ n, N = n + 1 := ⟨N - 1, by omega⟩
      have r := ih (k + 1) n (by omega) (by omega)
      rw [f_X2_menInHand_4, if_neg (show ¬ (5 : Int32) < nI (k + 1) from nI_nlt (a := 5) (b := k + 1) (by omega) (by decide)), C_inHand hC hs (by omega) (by omega), Option.bind_some, nI_1]
      rw [hnd] at r
      exact r
  exact loop 5 0 4096 (by omega) (by omega)
theorem M_inHand {v : mvW} {σ : PS} (hR : RW v 0 σ) {s : Nat} (hs : s < 2) : f_X5_inHand (nI s) v = some (hnd σ.2.2.1 (5 * s) 5, v) := by
  have loop : ∀ j k N, k + j = 5 → j + 1 ≤ N → f_X5_inHand_4 N (nI s) (hnd σ.2.2.1 (5 * s) k) (nI k) v = some (hnd σ.2.2.1 (5 * s) 5, v) := by
    intro j
    induction j with
    | zero =>
      intro k N hk hN
      obtain ⟨n, rfl⟩ : ∃ n, N = n + 1 := ⟨N - 1, by omega⟩
      have : k = 5 := by omega
      subst this
      rw [f_X5_inHand_4, if_pos (by decide)]
    | succ j ih =>
      intro k N hk hN
      obtain ⟨n, rfl⟩ : ∃ n, N = n + 1 := ⟨N - 1, by omega⟩
      have r := ih (k + 1) n (by omega) (by omega)
      have ei : (25 : Int32) + 5 * nI s + nI k = nI (25 + 5 * s + k) := by
        rw [show (5 : Int32) * nI s = nI (5 * s) from pk_mul 5 s, show (25 : Int32) + nI (5 * s) = nI (25 + 5 * s) from nI_add 25 _, nI_add]
      rw [f_X5_inHand_4, if_neg (q_nle (L := 5) (b := 5) rfl (by omega) (by omega)), ei, px_160 (by omega), Option.bind_some, nI_1]
      have e : v 1 (25 + 5 * s + k) = σ.2.2.1 (5 * s + k) := by
        have := hR.2.2.1 (5 * s + k) (by omega)
        rwa [show 0 + 25 + (5 * s + k) = 25 + 5 * s + k by omega] at this
      rw [e]
      rw [hnd] at r
      exact r
  exact loop 5 0 4096 (by omega) (by omega)
def wt (k : Nat) : Int32 := tb_WORTHS.getD k 0
theorem M_worthOf {k : Nat} (hk : k < 10) (v : mvW) : f_X5_worthOf (nI k) v = some (wt k, v) := by
  have : k = 0 ∨ k = 1 ∨ k = 2 ∨ k = 3 ∨ k = 4 ∨ k = 5 ∨ k = 6 ∨ k = 7 ∨ k = 8 ∨ k = 9 := by omega
  rcases this with rfl | rfl | rfl | rfl | rfl | rfl | rfl | rfl | rfl | rfl <;> rfl
def wB (b : Nat → Nat) (s : Nat) : Nat → Int32
  | 0 => 0
  | n + 1 => if b n = 0 then wB b s n else if (b n - 1) / 10 = s then wB b s n + wt (knd (b n)) else wB b s n + (-wt (knd (b n)))
def wHc (h : Nat → Int32) (B : Int32) (s : Nat) : Nat → Int32
  | 0 => B
  | n + 1 => wHc h B s n + (h (5 * s + n) - h (5 * (1 - s) + n)) * (wt (n + 1) + 1)
def wHm (h : Nat → Int32) (B : Int32) (s : Nat) : Nat → Int32
  | 0 => B
  | n + 1 => if n / 5 = s then wHm h B s n + h n * (wt (n % 5 + 1) + 1) else wHm h B s n + (-(h n * (wt (n % 5 + 1) + 1)))
theorem wH_eq (h : Nat → Int32) (B : Int32) {s : Nat} (hs : s ≤ 1) : wHc h B s 5 = wHm h B s 10 := by
  have : s = 0 ∨ s = 1 := by omega
  rcases this with rfl | rfl
  · simp [wHc, wHm, wt, tb_WORTHS]
    grind
  · simp [wHc, wHm, wt, tb_WORTHS]
    grind
def wrS (σ : PS) (s : Nat) : Int32 := wHc σ.2.2.1 (wB σ.1 s 25) s 5
theorem tb_ix {k : Nat} (hk : k < 10) : mv_ix tb_WORTHS.length (nI k) = some k := px_ix (n := tb_WORTHS.length) hk (by decide)
theorem C_worthFor {w : mvW} {σ : PS} (hC : CI w σ) {s : Nat} (hs : s ≤ 1) : f_X2_worthFor (nI s) w = some (wrS σ s, w) := by
  have l2 : ∀ j k N, k + j = 5 → j + 1 ≤ N → f_X2_worthFor_82 N (nI s) (wHc σ.2.2.1 (wB σ.1 s 25) s k) (nI (k + 1)) w = some (wrS σ s, w) := by
    intro j
    induction j with
    | zero =>
      intro k N hk hN
      obtain ⟨n, rfl⟩ : ∃ n, N = n + 1 := ⟨N - 1, by omega⟩
      have : k = 5 := by omega
      subst this
      rw [f_X2_worthFor_82, if_pos (by decide)]; rfl
    | succ j ih =>
      intro k N hk hN
      obtain ⟨n, rfl⟩ : ∃ n, N = n + 1 := ⟨N - 1, by omega⟩
      have r := ih (k + 1) n (by omega) (by omega)
      have e1 : (1 : Int32) - nI s = nI (1 - s) := pk_sub (a := 1) hs
      rw [f_X2_worthFor_82, if_neg (show ¬ (5 : Int32) < nI (k + 1) from nI_nlt (a := 5) (b := k + 1) (by omega) (by decide)), if_neg (q_nle (L := 10) (b := 10) rfl (by omega) (by omega)), C_inHand hC (by omega) (by omega) (by omega), Option.bind_some, e1]
      dsimp only
      rw [C_inHand hC (by omega) (by omega) (by omega), Option.bind_some]
      dsimp only
      rw [tb_ix (by omega), Option.bind_some, nI_1]
      rw [wHc] at r
      exact r
  have loop : ∀ j k N, k + j = 25 → j + 1 ≤ N → f_X2_worthFor_4 N (nI s) (wB σ.1 s k) (nI k) w = some (wrS σ s, w) := by
    intro j
    induction j with
    | zero =>
      intro k N hk hN
      obtain ⟨n, rfl⟩ : ∃ n, N = n + 1 := ⟨N - 1, by omega⟩
      have : k = 25 := by omega
      subst this
      rw [f_X2_worthFor_4, if_pos (by decide)]
      exact l2 5 0 4096 (by omega) (by omega)
    | succ j ih =>
      intro k N hk hN
      obtain ⟨n, rfl⟩ : ∃ n, N = n + 1 := ⟨N - 1, by omega⟩
      have hk25 : k < 25 := by omega
      have h20 := hC.2.2.2.1 k hk25
      have r := ih (k + 1) n (by omega) (by omega)
      have e : w 2 k = encM (σ.1 k) := hC.1.1 k hk25
      rw [f_X2_worthFor_4, if_neg (q_nle (L := 25) (b := 25) rfl hk25 (by omega)), px_44 (by omega), Option.bind_some, nI_1, e]
      unfold f_X4_kindOf
      rw [Option.bind_some]
      dsimp only
      rw [wB] at r
      by_cases h : σ.1 k = 0
      · rw [if_pos (show encM (σ.1 k) = 99 by rw [h]; rfl)]
        rw [if_pos h] at r
        exact r
      · obtain ⟨k1, k2⟩ := px_kind _ h20 h
        have hk10 : knd (σ.1 k) < 10 := Nat.mod_lt _ (by decide)
        rw [if_neg (show ¬ encM (σ.1 k) = 99 from fun hh => h ((px_encE _ h20).mp hh)), k1, if_neg (q_nlt (L := 0) (b := 0) rfl (by omega) (by omega)), if_neg (q_nle (L := 10) (b := 10) rfl hk10 (by omega))]
        unfold f_X4_sideOf
        rw [Option.bind_some]
        dsimp only
        rw [k2]
        rw [if_neg h] at r
        by_cases hs2 : (σ.1 k - 1) / 10 = s
        · rw [if_neg (fun hh => hh (by rw [hs2])), tb_ix hk10, Option.bind_some]
          rw [if_pos hs2] at r
          exact r
        · rw [if_pos (show ¬ nI ((σ.1 k - 1) / 10) = nI s from fun hh => hs2 ((nI_eq (by omega) (by omega)).mp hh)), tb_ix hk10, Option.bind_some]
          rw [if_neg hs2] at r
          exact r
  exact loop 25 0 4096 (by omega) (by omega)
theorem M_worthIn {P : Nat} {v : mvW} {σ : PS} (hR : RW v P σ) (hO : OKs σ) (hP : P ≤ 120) {s : Nat} (hs : s ≤ 1) : f_X5_worthIn (nI P) (nI s) v = some (wrS σ s, v) := by
  have l2 : ∀ j k N, k + j = 10 → j + 1 ≤ N → f_X5_worthIn_78 N (nI P) (nI s) (wHm σ.2.2.1 (wB σ.1 s 25) s k) (nI k) v = some (wrS σ s, v) := by
    intro j
    induction j with
    | zero =>
      intro k N hk hN
      obtain ⟨n, rfl⟩ : ∃ n, N = n + 1 := ⟨N - 1, by omega⟩
      have : k = 10 := by omega
      subst this
      rw [f_X5_worthIn_78, if_pos (by decide)]
      unfold wrS
      rw [wH_eq _ _ hs]
    | succ j ih =>
      intro k N hk hN
      obtain ⟨n, rfl⟩ : ∃ n, N = n + 1 := ⟨N - 1, by omega⟩
      have r := ih (k + 1) n (by omega) (by omega)
      have ei : nI P + 25 + nI k = nI (P + 25 + k) := by
        rw [show nI P + 25 = nI (P + 25) from nI_add P 25, nI_add]
      rw [f_X5_worthIn_78, if_neg (q_nle (L := 10) (b := 10) rfl (by omega) (by omega)), ei, px_160 (by omega), Option.bind_some, px_r5 (by omega), nI_1, M_worthOf (by omega), Option.bind_some, px_d5 (by omega), nI_1, hR.2.2.1 k (by omega)]
      dsimp only
      rw [wHm] at r
      by_cases hs2 : k / 5 = s
      · rw [if_neg (fun hh => hh (by rw [hs2]))]
        rw [if_pos hs2] at r
        exact r
      · rw [if_pos (show ¬ nI (k / 5) = nI s from fun hh => hs2 ((nI_eq (by omega) (by omega)).mp hh))]
        rw [if_neg hs2] at r
        exact r
  have loop : ∀ j k N, k + j = 25 → j + 1 ≤ N → f_X5_worthIn_5 N (nI P) (nI s) (wB σ.1 s k) (nI k) v = some (wrS σ s, v) := by
    intro j
    induction j with
    | zero =>
      intro k N hk hN
      obtain ⟨n, rfl⟩ : ∃ n, N = n + 1 := ⟨N - 1, by omega⟩
      have : k = 25 := by omega
      subst this
      rw [f_X5_worthIn_5, if_pos (by decide)]
      exact l2 10 0 4096 (by omega) (by omega)
    | succ j ih =>
      intro k N hk hN
      obtain ⟨n, rfl⟩ : ∃ n, N = n + 1 := ⟨N - 1, by omega⟩
      have hk25 : k < 25 := by omega
      have h20 := hO.1 k hk25
      have r := ih (k + 1) n (by omega) (by omega)
      rw [f_X5_worthIn_5, if_neg (q_nle (L := 25) (b := 25) rfl hk25 (by omega)), M_sideOn hR.1 hO.1 hk25 hP, Option.bind_some, nI_1]
      dsimp only
      rw [wB] at r
      by_cases h : σ.1 k = 0
      · rw [if_pos h, if_neg (by decide), Int32.add_zero]
        rw [if_pos h] at r
        exact r
      · have hk10 : (σ.1 k - 1) % 10 < 10 := Nat.mod_lt _ (by decide)
        rw [if_neg h, if_pos (show 0 ≤ nI ((σ.1 k - 1) / 10) from nI_pos' (by omega)), M_manAt v hk25 hP, Option.bind_some, hR.1 k hk25, px_m1 (by omega)]
        dsimp only
        rw [px_r10 (by omega), M_worthOf hk10]
        rw [if_neg h] at r
        by_cases hs2 : (σ.1 k - 1) / 10 = s
        · rw [if_neg (fun hh => hh (by rw [hs2])), Option.bind_some]
          dsimp only
          rw [px_r10 (by omega), M_worthOf hk10, Option.bind_some]
          rw [if_pos hs2] at r
          exact r
        · rw [if_pos (show ¬ nI ((σ.1 k - 1) / 10) = nI s from fun hh => hs2 ((nI_eq (by omega) (by omega)).mp hh)), Option.bind_some]
          rw [if_neg hs2] at r
          exact r
  exact loop 25 0 4096 (by omega) (by omega)
