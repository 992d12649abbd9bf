/-! perform -/
def ft (g : Nat → Int32) (n : Nat) : Nat → Nat → Option Nat × List Nat
  | 0, p => (some p, [])
  | k + 1, p => if (pE g p).1 = true then (if n ≤ (pE g p).2 then (none, [pC g p]) else if g (pE g p).2 = 59 then ((ft g n k ((pE g p).2 + 1)).1, pC g p :: (ft g n k ((pE g p).2 + 1)).2) else (some (pE g p).2, [pC g p])) else (some (pE g p).2, [])
def ftA (o : Option Nat) : Int32 := o.elim (-1) nI
def ftB (o : Option Nat) : Int32 := o.elim (-1005) nI
theorem gS_lt {n : Nat} {t : Nat → Int32} {i : Nat} (h : gS n t i ≠ -1) : i < n := by
  unfold gS at h
  by_cases e : n ≤ i
  · rw [if_pos e] at h; exact absurd rfl h
  · omega
theorem dg_n1 {x : Int32} (h : dg x = true) : x ≠ -1 := by
  obtain ⟨k, h1, h2, -⟩ := dg_of h
  rw [h2]; exact nI_n1 (by omega)
theorem pE_end {n : Nat} {t : Nat → Int32} {p : Nat} (h : (pE (gS n t) p).1 = true) : p + 4 ≤ (pE (gS n t) p).2 ∧ (pE (gS n t) p).2 ≤ n ∧ p < n := by
  rcases pE_dig h with ⟨-, -, h3, e⟩ | ⟨-, -, -, -, h4, ⟨h6, e⟩ | e⟩
  · have := gS_lt (dg_n1 h3); omega
  · have := gS_lt (show gS n t (p + 5) ≠ -1 by rw [h6]; decide); omega
  · have := gS_lt (dg_n1 h4); omega
theorem pE_le (g : Nat → Int32) (p : Nat) : (pE g p).2 ≤ p + 6 := by
  unfold pE
  repeat' split
  all_goals (try dsimp only)
  all_goals (try split)
  all_goals omega
theorem pC_lt {g : Nat → Int32} {p : Nat} (h : (pE g p).1 = true) : pC g p < 1375 := by
  unfold pC
  have k5 := kdl_le (g p)
  rcases pE_dig h with ⟨hk, h2, h3, -⟩ | ⟨hk, h1, h2, h3, h4, -⟩
  · rw [if_pos hk]
    exact (dcd_eq (by omega) k5 (sqv_lt (p := p + 2) h2 h3)).2.1
  · rw [if_neg (fun h => h hk)]
    have := (mcd_eq (sqv_lt h1 h2) (sqv_lt (p := p + 3) h3 h4) (decide (g (p + 5) = 43))).1
    omega
theorem M_fault4 {v : mvW} {n : Nat} (hT : TV v n) : ∀ (k i p N : Nat), i + k = 60 → k + 1 ≤ N → 5 * i ≤ p → p ≤ 60 → f_X5_fault_4 N (nI p) (nI i) v = some (ftB (ft (gS n (v 5)) n k p).1, v) := by
  intro k
  induction k with
  | zero => intro i p N h1 h2 h3 h4; omega
  | succ k ih =>
    intro i p N h1 h2 h3 h4
    obtain ⟨m, rfl⟩ : ∃ m, N = m + 1 := ⟨N - 1, by omega⟩
    have hn := hT.1
    rw [f_X5_fault_4, if_neg (q_nle (L := 60) (b := 60) rfl (by omega) (by omega)), M_playEnd hT (by omega), Option.bind_some]
    try dsimp only
    rw [ft]
    by_cases h : (pE (gS n (v 5)) p).1 = true
    · obtain ⟨e1, e2, e3⟩ := pE_end h
      simp only [if_pos h]
      rw [if_pos (nI_pos' (by omega))]
      by_cases he : n ≤ (pE (gS n (v 5)) p).2
      · have : (pE (gS n (v 5)) p).2 = n := by omega
        rw [if_neg (show ¬ ¬ nI (pE (gS n (v 5)) p).2 = v 0 7 by rw [hT.2, this]; exact fun h => h rfl), if_pos he]
        rfl
      · rw [if_pos (show ¬ nI (pE (gS n (v 5)) p).2 = v 0 7 by rw [hT.2]; exact fun h => by have := (nI_eq (by omega) (by omega)).mp h; omega), if_neg he, M_sign hT (by omega), Option.bind_some]
        try dsimp only
        by_cases hs : gS n (v 5) (pE (gS n (v 5)) p).2 = 59
        · rw [if_pos hs, if_pos hs, nI_1, nI_1]
          exact ih (i + 1) _ m (by omega) (by omega) (by omega) (by omega)
        · rw [if_neg hs, if_neg hs]; rfl
    · simp only [if_neg h]
      rw [if_neg (ng0 (p := (pE (gS n (v 5)) p).2) (by
        have : (pE (gS n (v 5)) p).2 ≤ p + 6 := pE_le _ _
        omega)), ng2]
      rfl
def cw (w : mvW) (i : Nat) (x : Int32) (m : Nat) : mvW := mv_up (mv_up w 13 i x) 11 3 (nI m)
theorem cw_cu (w : mvW) (e i : Nat) (x : Int32) (m : Nat) : mv_up (mv_up (cu w e) 13 i x) 11 3 (nI m) = cu (cw w i x m) e := by
  funext c j
  unfold cu cw
  by_cases hc : c = 11
  · subst hc
    rw [rds, rdn _ 13 i j 11 x (by decide), rds, rds, rds, rdn _ 13 i j 11 x (by decide)]
    by_cases e3 : j = 3
    · rw [if_pos e3, if_neg (by omega), if_pos e3]
    · rw [if_neg e3, if_neg e3]
  · rw [up_ne _ 11 3 _ hc, up_ne _ 11 4 _ hc, up_ne _ 11 3 _ hc]
    by_cases h13 : c = 13
    · subst h13
      rw [rds, rds, up_ne _ 11 4 _ hc]
    · rw [up_ne _ 13 i _ h13, up_ne _ 13 i _ h13, up_ne _ 11 4 _ hc]
theorem C_readPlaysL {n : Nat} {t : Nat → Int32} : ∀ (k i p N : Nat) (w : mvW), i + k = 60 → k + 1 ≤ N → 5 * i ≤ p → p ≤ 60 → TW w n → w 12 = t → ∃ w', f_X1_readPlays_12 N (nI i) (cu w p) = some (ftA (ft (gS n t) n k p).1, w') ∧ (∀ c, c ≠ 11 → c ≠ 13 → w' c = w c) ∧ w' 11 1 = w 11 1 ∧ (∀ j, j < i → w' 13 j = w 13 j) ∧ ((ft (gS n t) n k p).1 = none → w' 11 3 = nI (i + (ft (gS n t) n k p).2.length) ∧ i + (ft (gS n t) n k p).2.length ≤ 60 ∧ ∀ j c, (ft (gS n t) n k p).2[j]? = some c → c < 1375 ∧ w' 13 (i + j) = nI (tld c)) := by
  intro k
  induction k with
  | zero => intro i p N w h1 h2 h3 h4; omega
  | succ k ih =>
    intro i p N w h1 h2 h3 h4 hT ht
    obtain ⟨m, rfl⟩ : ∃ m, N = m + 1 := ⟨N - 1, by omega⟩
    have hn := hT.1
    have hcu : ∀ q, (∀ c, c ≠ 11 → c ≠ 13 → cu w q c = w c) ∧ cu w q 11 1 = w 11 1 ∧ ∀ j, j < i → cu w q 13 j = w 13 j := fun q => by
      unfold cu
      exact ⟨fun c hc _ => up_ne _ _ _ _ hc, by rw [rds, if_neg (by decide)], fun j _ => by rw [up_ne _ _ _ _ (by decide)]⟩
    rw [f_X1_readPlays_12, if_neg (q_nle (L := 60) (b := 60) rfl (by omega) (by omega)), C_readPlay hT (by omega), Option.bind_some]
    try dsimp only
    rw [ft]
    rw [ht]
    by_cases h : (pE (gS n t) p).1 = true
    · obtain ⟨e1, e2, e3⟩ := pE_end h
      have pl := pC_lt h
      have tl := tld_lt pl
      simp only [if_pos h]
      rw [if_pos (nI_n1 (by omega)), px_ix (n := 60) (by omega) (by decide), Option.bind_some]
      try dsimp only
      rw [nI_1, cw_cu]
      have b1 : cu (cw w i (nI (tld (pC (gS n t) p))) (i + 1)) (pE (gS n t) p).2 11 4 = nI (pE (gS n t) p).2 := by unfold cu; rw [rds, if_pos rfl]
      have b2 : cw w i (nI (tld (pC (gS n t) p))) (i + 1) 11 1 = nI n := by unfold cw; rw [rds, if_neg (by decide), rdn _ 13 i 1 11 _ (by decide)]; exact hT.2
      have b3 : cu (cw w i (nI (tld (pC (gS n t) p))) (i + 1)) (pE (gS n t) p).2 11 1 = nI n := by unfold cu; rw [rds, if_neg (by decide)]; exact b2
      have b12 : cw w i (nI (tld (pC (gS n t) p))) (i + 1) 12 = t := by unfold cw; rw [up_ne _ _ _ _ (by decide), up_ne _ _ _ _ (by decide)]; exact ht
      have b13 : ∀ j, cw w i (nI (tld (pC (gS n t) p))) (i + 1) 13 j = if j = i then nI (tld (pC (gS n t) p)) else w 13 j := fun j => by unfold cw; rw [rdn _ 11 3 j 13 _ (by decide), rds]
      have b113 : cw w i (nI (tld (pC (gS n t) p))) (i + 1) 11 3 = nI (i + 1) := by unfold cw; rw [rds, if_pos rfl]
      have bc : ∀ c, c ≠ 11 → c ≠ 13 → cw w i (nI (tld (pC (gS n t) p))) (i + 1) c = w c := fun c hc hc2 => by unfold cw; rw [up_ne _ _ _ _ hc, up_ne _ _ _ _ hc2]
      have bTW : TW (cw w i (nI (tld (pC (gS n t) p))) (i + 1)) n := ⟨hn, b2⟩
      generalize cw w i (nI (tld (pC (gS n t) p))) (i + 1) = u at *
      have ucu : ∀ q, (∀ c, c ≠ 11 → c ≠ 13 → cu u q c = w c) ∧ cu u q 11 1 = w 11 1 ∧ (∀ j, cu u q 13 j = u 13 j) ∧ cu u q 11 3 = u 11 3 := fun q => by
        unfold cu
        refine ⟨fun c hc hc2 => by rw [up_ne _ _ _ _ hc]; exact bc c hc hc2, by rw [rds, if_neg (by decide), b2, hT.2], fun j => by rw [up_ne _ _ _ _ (by decide)], by rw [rds, if_neg (by decide)]⟩
      have tail1 : ∀ q, (∀ j, j < i → cu u q 13 j = w 13 j) := fun q j hj => by rw [(ucu q).2.2.1, b13, if_neg (by omega)]
      by_cases he : n ≤ (pE (gS n t) p).2
      · rw [if_neg (show ¬ cu u (pE (gS n t) p).2 11 4 < cu u (pE (gS n t) p).2 11 1 by rw [b1, b3]; exact nI_nlt he (by omega)), if_pos he]
        refine ⟨_, rfl, (ucu _).1, (ucu _).2.1, tail1 _, fun _ => ⟨?_, ?_, fun j c hj => ?_⟩⟩
        · rw [(ucu _).2.2.2, b113]; rfl
        · show i + 1 ≤ 60
          omega
        · rcases j with _ | j
          · have : pC (gS n t) p = c := by simpa using hj
            subst this
            exact ⟨pl, by rw [(ucu _).2.2.1, b13, if_pos (by omega)]⟩
          · simp at hj
      · rw [if_pos (show cu u (pE (gS n t) p).2 11 4 < cu u (pE (gS n t) p).2 11 1 by rw [b1, b3]; exact nI_lt (by omega) (by omega)), if_neg he, C_passes bTW (by omega) (by decide), b12]
        by_cases hs : gS n t (pE (gS n t) p).2 = 59
        · rw [if_pos hs, if_pos hs, Option.bind_some]
          try dsimp only
          rw [if_pos (by decide)]
          obtain ⟨w', c1, c2, c3, c4, c5⟩ := ih (i + 1) ((pE (gS n t) p).2 + 1) m u (by omega) (by omega) (by omega) (by omega) bTW b12
          refine ⟨w', c1, fun c hc hc2 => (c2 c hc hc2).trans (bc c hc hc2), by rw [c3, b2, hT.2], fun j hj => by rw [c4 j (by omega), b13, if_neg (by omega)], fun hnone => ?_⟩
          obtain ⟨d1, d2, d3⟩ := c5 hnone
          refine ⟨?_, ?_, fun j c hj => ?_⟩
          · rw [d1, List.length_cons]; exact congrArg nI (by omega)
          · rw [List.length_cons]; omega
          · rcases j with _ | j
            · have : pC (gS n t) p = c := by simpa using hj
              subst this
              exact ⟨pl, by rw [c4 _ (by omega), b13, if_pos (by omega)]⟩
            · obtain ⟨f1, f2⟩ := d3 j c (by simpa using hj)
              exact ⟨f1, by rw [← f2]; exact congrArg (w' 13) (by omega)⟩
        · rw [if_neg hs, if_neg hs, Option.bind_some]
          try dsimp only
          rw [if_neg (fun h => h rfl), b1]
          exact ⟨_, rfl, (ucu _).1, (ucu _).2.1, tail1 _, fun h => by cases h⟩
    · simp only [if_neg h]
      rw [if_neg (fun h => h trivial)]
      have b1 : cu w (pE (gS n t) p).2 11 4 = nI (pE (gS n t) p).2 := by unfold cu; rw [rds, if_pos rfl]
      rw [b1]
      exact ⟨_, rfl, (hcu _).1, (hcu _).2.1, (hcu _).2.2, fun h => by cases h⟩
