/-! the calls that look: plays by rank, squares of drops, the mating play, the tightest -/
theorem numN_lt {f : Nat → Bool} {c d : Nat} (h : c < d) (hc : f c = true) : numN f c < numN f d := by
  have h3 := numN_mono_n f (d - (c + 1)) (c + 1)
  rw [show c + 1 + (d - (c + 1)) = d by omega, numN, if_pos hc] at h3
  omega
theorem numN_inj {f : Nat → Bool} {c d : Nat} (hc : f c = true) (hd : f d = true) (h : numN f c = numN f d) : c = d := by
  rcases Nat.lt_trichotomy c d with e | e | e
  · have := numN_lt e hc; omega
  · exact e
  · have := numN_lt e hd; omega
theorem px_rs {σ : PS} {c : Nat} : (alw σ c = true → nI (resS σ c) = 0) ∧ (alw σ c = false → ¬ nI (resS σ c) = 0) := by
  have := resS_le σ c
  constructor
  · intro h
    unfold alw at h
    rw [of_decide_eq_true h]; rfl
  · intro h
    unfold alw at h
    have := of_decide_eq_false h
    exact nI_ne0 (by omega) (by omega)
theorem M_playAt {σ : PS} {r : Nat} {A : Int32} (hO : OKs σ) (hr : r < 2 ^ 31) (hA : (numS σ ≤ r ∧ A = -1005) ∨ ∃ c0, c0 < 1375 ∧ alw σ c0 = true ∧ numN (alw σ) c0 = r ∧ A = nI (tld c0)) : ∀ (j c N : Nat) (v : mvW), c + j = 1375 → j + 1 ≤ N → RW v 0 σ → numN (alw σ) c ≤ r → ∃ v', f_X5_playAt_12 N (nI (r - numN (alw σ) c)) (nI c) v = some (A, v') ∧ RW v' 0 σ ∧ KV v v' := by
  intro j
  induction j with
  | zero =>
    intro c N v hc hN hR hle
    obtain ⟨n, rfl⟩ : ∃ n, N = n + 1 := ⟨N - 1, by omega⟩
    have : c = 1375 := by omega
    subst this
    refine ⟨v, ?_, hR, KV.refl v⟩
    rw [f_X5_playAt_12, if_pos (by decide)]
    rcases hA with ⟨-, rfl⟩ | ⟨c0, h1, h2, h3, -⟩
    · rfl
    · have := numN_lt h1 h2; omega
  | succ j ih =>
    intro c N v hc hN hR hle
    obtain ⟨n, rfl⟩ : ∃ n, N = n + 1 := ⟨N - 1, by omega⟩
    obtain ⟨v1, a1, a2, a3, -⟩ := M_reason0 hR hO (c := c) (by omega)
    rw [f_X5_playAt_12, if_neg (q_nle (L := 1375) (b := 1375) rfl (by omega) (by omega)), a1, Option.bind_some]
    try dsimp only
    rw [nI_1]
    cases ha : alw σ c with
    | false =>
      rw [if_pos (px_rs.2 ha)]
      have e : numN (alw σ) (c + 1) = numN (alw σ) c := by rw [numN, if_neg (by rw [ha]; decide)]; rfl
      obtain ⟨v', b1, b2, b3⟩ := ih (c + 1) n v1 (by omega) (by omega) a2 (by omega)
      rw [e] at b1
      exact ⟨v', b1, b2, a3.trans b3⟩
    | true =>
      rw [if_neg (show ¬ ¬ nI (resS σ c) = 0 from fun h => h (px_rs.1 ha))]
      have e : numN (alw σ) (c + 1) = numN (alw σ) c + 1 := by rw [numN, if_pos ha]
      by_cases hq : numN (alw σ) c = r
      · rw [if_neg (show ¬ ¬ nI (r - numN (alw σ) c) = 0 from fun h => h (by rw [hq, Nat.sub_self]; rfl)), M_told (by omega), Option.bind_some]
        try dsimp only
        refine ⟨v1, ?_, a2, a3⟩
        rcases hA with ⟨h1, -⟩ | ⟨c0, h1, h2, h3, rfl⟩
        · have := numN_lt (show c < 1375 by omega) ha
          have h2 : numN (alw σ) 1375 = numS σ := rfl
          omega
        · rw [numN_inj ha h2 (by omega)]
      · have e2 : nI (r - numN (alw σ) c) + (-1) = nI (r - numN (alw σ) (c + 1)) := by
          rw [e, show r - numN (alw σ) c = (r - (numN (alw σ) c + 1)) + 1 by omega]
          exact pk_m1 _
        rw [if_pos (show ¬ nI (r - numN (alw σ) c) = 0 from nI_ne0 (by omega) (by omega)), e2]
        obtain ⟨v', b1, b2, b3⟩ := ih (c + 1) n v1 (by omega) (by omega) a2 (by omega)
        exact ⟨v', b1, b2, a3.trans b3⟩
theorem LstI.fg {w w' : mvW} {σ : PS} {n : Nat} (h : LstI w σ n) (hf : FG w w') : LstI w' σ n := by
  have g : ∀ c, c ≠ 2 → c ≠ 5 → c ≠ 6 → c ≠ 7 → w' c = w c := hf
  obtain ⟨a, b⟩ := h
  exact ⟨by rw [g 4 (by decide) (by decide) (by decide) (by decide)]; exact a, fun c hc hca => by rw [g 8 (by decide) (by decide) (by decide) (by decide)]; exact b c hc hca⟩
theorem C_found {w : mvW} {σ : PS} (hC : CI w σ) : ∃ w1 w2, f_X3_findPlays w = some (nI (numS σ), w1) ∧ f_X3_listPlays w1 = some (nI (numS σ), w2) ∧ CI w2 σ ∧ KW w w2 ∧ LstI w2 σ 1375 := by
  obtain ⟨w1, a1, a2, a3, a4, a5⟩ := C_findPlays hC
  obtain ⟨w2, b1, b2, b3, b4⟩ := C_listPlays a2 a4 a5
  exact ⟨w1, w2, a1, b1, b2, a3.k.trans b3.k, b4⟩
theorem L_playAt {w v : mvW} (h : Rel w v) (a1 : Int32) : Same (f_X4_playAt a1) (f_X5_playAt a1) w v := by
  obtain ⟨σ, hC, hR, hX⟩ := h
  have hO := hC.2.2.2
  by_cases h0 : a1 < 0
  · refine ⟨-1002, w, v, ?_, ?_, σ, hC, hR, hX⟩
    · unfold f_X4_playAt; rw [if_neg (Int32.not_le.mpr h0)]
    · unfold f_X5_playAt; rw [if_neg (Int32.not_le.mpr h0)]
  · obtain ⟨r, hr, rfl⟩ := nI_of h0
    have hl := numS_lt σ
    have hroom := numS_room hO
    obtain ⟨w1, w2, b1, b2, b3, b4, b5⟩ := C_found hC
    by_cases hge : numS σ ≤ r
    · obtain ⟨v', c1, c2, c3⟩ := M_playAt hO hr (Or.inl ⟨hge, rfl⟩) 1375 0 4096 v (by omega) (by omega) hR (Nat.zero_le _)
      refine ⟨-1005, w2, v', ?_, ?_, σ, b3, c2, hX.keep b4 c3⟩
      · unfold f_X4_playAt
        rw [if_pos (Int32.not_lt.mp h0), b1, Option.bind_some]
        try dsimp only
        rw [b2, Option.bind_some]
        try dsimp only
        rw [if_pos (nI_le hge hr)]
      · unfold f_X5_playAt
        rw [if_pos (Int32.not_lt.mp h0)]
        exact c1
    · obtain ⟨c, hc, ha, hn⟩ := numN_rank (f := alw σ) (r := r) 1375 (by have h2 : numN (alw σ) 1375 = numS σ := rfl; omega)
      obtain ⟨v', c1, c2, c3⟩ := M_playAt hO hr (Or.inr ⟨c, hc, ha, hn, rfl⟩) 1375 0 4096 v (by omega) (by omega) hR (Nat.zero_le _)
      refine ⟨nI (tld c), w2, v', ?_, ?_, σ, b3, c2, hX.keep b4 c3⟩
      · unfold f_X4_playAt
        have e := C_listed b5 hc ha hroom
        rw [hn] at e
        rw [if_pos (Int32.not_lt.mp h0), b1, Option.bind_some]
        try dsimp only
        rw [b2, Option.bind_some]
        try dsimp only
        rw [if_neg (nI_ge (by omega) (by omega)), e, Option.bind_some]
        try dsimp only
      · unfold f_X5_playAt
        rw [if_pos (Int32.not_lt.mp h0)]
        exact c1
theorem M_drops15 {σ : PS} (hO : OKs σ) {k : Nat} (h1 : 1 ≤ k) (h5 : k ≤ 5) : ∀ (j t N : Nat) (v : mvW), t + j = 25 → j + 1 ≤ N → RW v 0 σ → ∃ v', f_X5_drops_15 N (nI k) (mkN (bF σ (49 + k)) t) (nI t) v = some (msk (bF σ (49 + k)), v') ∧ RW v' 0 σ ∧ KV v v' := by
  intro j
  induction j with
  | zero =>
    intro t N v ht hN hR
    obtain ⟨n, rfl⟩ : ∃ n, N = n + 1 := ⟨N - 1, by omega⟩
    have : t = 25 := by omega
    subst this
    exact ⟨v, by rw [f_X5_drops_15, if_pos (by decide)]; rfl, hR, KV.refl v⟩
  | succ j ih =>
    intro t N v ht hN hR
    obtain ⟨n, rfl⟩ : ∃ n, N = n + 1 := ⟨N - 1, by omega⟩
    obtain ⟨-, d2, -⟩ := dcd_eq h1 h5 (to := t) (by omega)
    obtain ⟨v1, a1, a2, a3, -⟩ := M_reason0 hR hO (c := dcd k t) d2
    obtain ⟨v', b1, b2, b3⟩ := ih (t + 1) n v1 (by omega) (by omega) a2
    refine ⟨v', ?_, b2, a3.trans b3⟩
    rw [f_X5_drops_15, if_neg (q_nle (L := 25) (b := 25) rfl (by omega) (by omega)), px_dc h1, a1, Option.bind_some]
    try dsimp only
    rw [nI_1]
    have eb : bF σ (49 + k) t = alw σ (dcd k t) := by
      unfold bF dcd
      exact congrArg (alw σ) (by omega)
    rw [mkN, eb] at b1
    cases ha : alw σ (dcd k t) with
    | false =>
      rw [if_pos (px_rs.2 ha), px_or0]
      rw [ha, if_neg (by decide)] at b1
      exact b1
    | true =>
      rw [if_neg (show ¬ ¬ nI (resS σ (dcd k t)) = 0 from fun h => h (px_rs.1 ha))]
      rw [ha, if_pos rfl] at b1
      exact b1
theorem L_drops {w v : mvW} (h : Rel w v) (a1 : Int32) : Same (f_X4_drops a1) (f_X5_drops a1) w v := by
  obtain ⟨σ, hC, hR, hX⟩ := h
  have hO := hC.2.2.2
  rcases hk2 a1 with ⟨k, h1, h5, rfl⟩ | ⟨n4, n5⟩
  · obtain ⟨w1, b1, b2, b3, b4, b5⟩ := C_findPlays hC
    obtain ⟨v', c1, c2, c3⟩ := M_drops15 hO h1 h5 25 0 4096 v (by omega) (by omega) hR
    refine ⟨msk (bF σ (49 + k)), w1, v', ?_, ?_, σ, b2, c2, hX.keep b3.k c3⟩
    · unfold f_X4_drops f_X3_dropSquares
      rw [px_isHK h1 h5, Option.bind_some]
      try dsimp only
      rw [if_pos (by decide), b1, Option.bind_some]
      try dsimp only
      rw [if_neg (q_nlt (L := 0) (b := 0) rfl (by omega) (by omega)), if_neg (q_nle (L := 6) (b := 6) rfl (by omega) (by omega)), px_ix (n := 6) (by omega) (by decide), Option.bind_some]
      try dsimp only
      rw [Option.bind_some]
      try dsimp only
      rw [b5 k h1 (by omega)]
    · unfold f_X5_drops
      rw [hk1 h1 h5, Option.bind_some]
      try dsimp only
      rw [if_pos (by decide)]
      exact c1
  · refine ⟨-1001, w, v, ?_, ?_, σ, hC, hR, hX⟩
    · unfold f_X4_drops
      rw [n4, Option.bind_some]
      try dsimp only
      rw [if_neg (fun h => h rfl)]
    · unfold f_X5_drops
      rw [n5, Option.bind_some]
      try dsimp only
      rw [if_neg (fun h => h rfl)]
theorem matS_ap {σ : PS} (c : Nat) : matS (apS σ c) = matS (mkS σ c) := by
  unfold matS
  have e : numS (apS σ c) = numS (mkS σ c) := numS_cong
  rw [e]; rfl
theorem mkS_ok' {σ : PS} (hO : OKs σ) {c : Nat} (hc : c < 1375) (ha : alw σ c = true) : OKs (mkS σ c) := mkS_ok hO hc (alw_wn ha)
def mts (σ : PS) (c : Nat) : Bool := alw σ c && matS (mkS σ c)
def MatA (σ : PS) (A : Int32) : Prop := (A = -1005 ∧ ∀ c, c < 1375 → mts σ c = false) ∨ ∃ c0, c0 < 1375 ∧ mts σ c0 = true ∧ (∀ c, c < c0 → mts σ c = false) ∧ A = nI (tld c0)
theorem MatA.ex (σ : PS) : ∃ A, MatA σ A := by
  by_cases h : ∃ c, c < 1375 ∧ mts σ c = true
  · obtain ⟨c, ⟨h1, h2⟩, h3⟩ := pk_least _ h
    refine ⟨nI (tld c), Or.inr ⟨c, h1, h2, fun d hd => ?_, rfl⟩⟩
    cases hh : mts σ d with
    | false => rfl
    | true => exact absurd ⟨by omega, hh⟩ (h3 d hd)
  · refine ⟨-1005, Or.inl ⟨rfl, fun c hc => ?_⟩⟩
    cases hh : mts σ c with
    | false => rfl
    | true => exact absurd ⟨c, hc, hh⟩ h
theorem M_mate2 {σ : PS} {A : Int32} (hO : OKs σ) (hA : MatA σ A) : ∀ (j c N : Nat) (v : mvW), c + j = 1375 → j + 1 ≤ N → RW v 0 σ → (∀ d, d < c → mts σ d = false) → ∃ v', f_X5_mate_2 N (nI c) v = some (A, v') ∧ RW v' 0 σ ∧ KV v v' := by
  intro j
  induction j with
  | zero =>
    intro c N v hc hN hR hn
    obtain ⟨n, rfl⟩ : ∃ n, N = n + 1 := ⟨N - 1, by omega⟩
    have : c = 1375 := by omega
    subst this
    refine ⟨v, ?_, hR, KV.refl v⟩
    rw [f_X5_mate_2, if_pos (by decide)]
    rcases hA with ⟨rfl, -⟩ | ⟨c0, h1, h2, -⟩
    · rfl
    · rw [hn c0 h1] at h2; cases h2
  | succ j ih =>
    intro c N v hc hN hR hn
    obtain ⟨n, rfl⟩ : ∃ n, N = n + 1 := ⟨N - 1, by omega⟩
    obtain ⟨v1, a1, a2, a3, a4⟩ := M_reason0 hR hO (c := c) (by omega)
    have go : ∀ u, RW u 0 σ → KV v u → mts σ c = false → ∃ v', f_X5_mate_2 n (nI (c + 1)) u = some (A, v') ∧ RW v' 0 σ ∧ KV v v' := by
      intro u hu hk hm
      obtain ⟨v', b1, b2, b3⟩ := ih (c + 1) n u (by omega) (by omega) hu (fun d hd => by
        by_cases e : d = c
        · subst e; exact hm
        · exact hn d (by omega))
      exact ⟨v', b1, b2, hk.trans b3⟩
    rw [f_X5_mate_2, if_neg (q_nle (L := 1375) (b := 1375) rfl (by omega) (by omega)), a1, Option.bind_some]
    try dsimp only
    rw [nI_1]
    cases ha : alw σ c with
    | false =>
      rw [if_pos (px_rs.2 ha)]
      exact go v1 a2 a3 (by unfold mts; rw [ha]; rfl)
    | true =>
      rw [if_neg (show ¬ ¬ nI (resS σ c) = 0 from fun h => h (px_rs.1 ha))]
      obtain ⟨v2, d1, d2⟩ := M_isMated (a4 (alw_wn ha)) (mkS_ok' hO (by omega) ha) (by omega)
      have r2 : RW v2 0 σ := a2.keep (d2.mono (by omega))
      rw [show f_X5_isMated 40 v1 = _ from d1, Option.bind_some]
      try dsimp only
      cases hm : matS (mkS σ c) with
      | false =>
        rw [if_pos (show (if false = true then (1 : Int32) else 0) = 0 from rfl)]
        exact go v2 r2 (a3.trans d2.2) (by unfold mts; rw [hm, Bool.and_false])
      | true =>
        rw [if_neg (show ¬ (if true = true then (1 : Int32) else 0) = 0 by decide), M_told (by omega), Option.bind_some]
        try dsimp only
        refine ⟨v2, ?_, r2, a3.trans d2.2⟩
        have hmt : mts σ c = true := by unfold mts; rw [ha, hm]; rfl
        rcases hA with ⟨-, h1⟩ | ⟨c0, h1, h2, h3, rfl⟩
        · rw [h1 c (by omega)] at hmt; cases hmt
        · rcases Nat.lt_trichotomy c c0 with e | e | e
          · rw [h3 c e] at hmt; cases hmt
          · rw [e]
          · rw [hn c0 e] at h2; cases h2
theorem C_mate18 {σ : PS} {A : Int32} {w0 : mvW} (hA : MatA σ A) : ∀ (j i N : Nat) (w : mvW), i + j = numS σ → j + 1 ≤ N → CI w σ → KW w0 w → LstI w σ 1375 → (∀ d, d < 1375 → numN (alw σ) d < i → mts σ d = false) → ∃ w', f_X4_mate_18 N (nI (numS σ)) (nI i) w = some (A, w') ∧ CI w' σ ∧ KW w0 w' := by
  intro j
  have hl := numS_lt σ
  have h2 : numN (alw σ) 1375 = numS σ := rfl
  induction j with
  | zero =>
    intro i N w hi hN hC hk hL hn
    obtain ⟨n, rfl⟩ : ∃ n, N = n + 1 := ⟨N - 1, by omega⟩
    refine ⟨w, ?_, hC, hk⟩
    rw [f_X4_mate_18, if_pos (nI_le (by omega) (by omega))]
    rcases hA with ⟨rfl, -⟩ | ⟨c0, h1, h3, -⟩
    · rfl
    · have ha : alw σ c0 = true := by unfold mts at h3; simp only [Bool.and_eq_true] at h3; exact h3.1
      have := numN_lt h1 ha
      rw [hn c0 h1 (by omega)] at h3; cases h3
  | succ j ih =>
    intro i N w hi hN hC hk hL hn
    obtain ⟨n, rfl⟩ : ∃ n, N = n + 1 := ⟨N - 1, by omega⟩
    have hO := hC.2.2.2
    obtain ⟨c, hc, ha, hnc⟩ := numN_rank (f := alw σ) (r := i) 1375 (by omega)
    have e := C_listed hL hc ha (numS_room hO)
    rw [hnc] at e
    obtain ⟨w1, a1, a2, a3⟩ := C_applyS hC hc (alw_wn ha)
    obtain ⟨w2, b1, b2, b3⟩ := C_isMated a2
    obtain ⟨w3, c1, c2, c3⟩ := C_takeBackS hO hC.2.2.1 b2 hc (alw_wn ha)
    have hfg : FG w w3 := a3.g.trans (b3.trans c3.g)
    rw [matS_ap] at b1
    rw [f_X4_mate_18, if_neg (nI_ge (by omega) (by omega)), e, Option.bind_some]
    try dsimp only
    rw [a1, Option.bind_some]
    try dsimp only
    rw [b1, Option.bind_some]
    try dsimp only
    rw [c1, Option.bind_some]
    try dsimp only
    rw [nI_1]
    cases hm : matS (mkS σ c) with
    | false =>
      rw [if_pos (show (if false = true then (1 : Int32) else 0) = 0 from rfl)]
      refine ih (i + 1) n w3 (by omega) (by omega) c2 (hk.trans hfg.k) (hL.fg hfg) (fun d hd hdi => ?_)
      by_cases hlt : numN (alw σ) d < i
      · exact hn d hd hlt
      · cases had : alw σ d with
        | false => unfold mts; rw [had]; rfl
        | true =>
          have : d = c := numN_inj had ha (by omega)
          subst this
          unfold mts; rw [hm, Bool.and_false]
    | true =>
      rw [if_neg (show ¬ (if true = true then (1 : Int32) else 0) = 0 by decide)]
      refine ⟨w3, ?_, c2, hk.trans hfg.k⟩
      have hmt : mts σ c = true := by unfold mts; rw [ha, hm]; rfl
      rcases hA with ⟨-, h1⟩ | ⟨c0, h1, h3, h4, rfl⟩
      · rw [h1 c hc] at hmt; cases hmt
      · have ha0 : alw σ c0 = true := by unfold mts at h3; simp only [Bool.and_eq_true] at h3; exact h3.1
        rcases Nat.lt_trichotomy c c0 with e | e | e
        · rw [h4 c e] at hmt; cases hmt
        · rw [e]
        · have := numN_lt e ha0
          rw [hn c0 h1 (by omega)] at h3; cases h3
theorem L_mate {w v : mvW} (h : Rel w v) : Same f_X4_mate f_X5_mate w v := by
  obtain ⟨σ, hC, hR, hX⟩ := h
  have hO := hC.2.2.2
  obtain ⟨A, hA⟩ := MatA.ex σ
  obtain ⟨w1, w2, b1, b2, b3, b4, b5⟩ := C_found hC
  have hroom := numS_room hO
  obtain ⟨w', c1, c2, c3⟩ := C_mate18 hA (numS σ) 0 4096 w2 (by omega) (by omega) b3 b4 b5 (fun d _ h => absurd h (Nat.not_lt_zero _))
  obtain ⟨v', d1, d2, d3⟩ := M_mate2 hO hA 1375 0 4096 v (by omega) (by omega) hR (fun d h => absurd h (Nat.not_lt_zero _))
  refine ⟨A, w', v', ?_, d1, σ, c2, d2, hX.keep c3 d3⟩
  unfold f_X4_mate
  rw [b1, Option.bind_some]
  try dsimp only
  rw [b2, Option.bind_some]
  try dsimp only
  exact c1
