/-! the calls that change: put, clear, side, text's length, history and snapshot -/
theorem px_enc1 : ∀ m, m < 20 → nI m = encM (m + 1) ∧ m / 10 < 2 := by decide +kernel
theorem px_ne1 : ∀ m, m < 20 → ∀ x, x ≤ 20 → (nI x - 1 = nI m ↔ x = m + 1) := by decide +kernel
theorem M_hasKing {v : mvW} {σ : PS} (hR : RW v 0 σ) (hO : OKs σ) {s q : Nat} (hs : s < 2) (hq : q < 25) : f_X5_hasKingElsewhere (nI s) (nI q) v = some (if (List.range 25).any (fun r => decide (r ≠ q) && decide (σ.1 r = 10 * s + 1)) = true then 1 else 0, v) := by
  have loop : ∀ j k N, k + j = 25 → j + 1 ≤ N → f_X5_hasKingElsewhere_5 N (nI s) (nI q) (if (List.range k).any (fun r => decide (r ≠ q) && decide (σ.1 r = 10 * s + 1)) = true then 1 else 0) (nI k) v = some (if (List.range 25).any (fun r => decide (r ≠ q) && decide (σ.1 r = 10 * s + 1)) = true then 1 else 0, v) := by
    intro j
    induction j with
    | zero =>
      intro k N hk hN
      obtain ⟨n, rfl⟩ : ∃ n, N = n + 1 := ⟨N - 1, by omega⟩
      have : k = 25 := by omega
      subst this
      rw [f_X5_hasKingElsewhere_5, if_pos (by decide)]
      exact mv_bl1 _ v
    | succ j ih =>
      intro k N hk hN
      obtain ⟨n, rfl⟩ : ∃ n, N = n + 1 := ⟨N - 1, by omega⟩
      have r := ih (k + 1) n (by omega) (by omega)
      have hk25 : k < 25 := by omega
      have h20 := hO.1 k hk25
      rw [List.range_succ, List.any_append] at r
      simp only [List.any_cons, List.any_nil, Bool.or_false] at r
      rw [f_X5_hasKingElsewhere_5, if_neg (q_nle (L := 25) (b := 25) rfl hk25 (by omega)), nI_1]
      cases hp : (List.range k).any (fun r => decide (r ≠ q) && decide (σ.1 r = 10 * s + 1)) with
      | true =>
        rw [if_pos (show ¬ (if true = true then (1 : Int32) else 0) = 0 by decide)]
        rw [hp, Bool.true_or] at r
        exact r
      | false =>
        rw [if_neg (show ¬ ¬ (if false = true then (1 : Int32) else 0) = 0 from fun h => h rfl)]
        rw [hp, Bool.false_or] at r
        by_cases e : k = q
        · rw [if_pos (by rw [e])]
          rw [decide_eq_false (fun h => h e), Bool.false_and] at r
          exact r
        · rw [if_neg (show ¬ nI k = nI q from fun h => e ((nI_eq (by omega) (by omega)).mp h)), M_man0 hR hk25, Option.bind_some]
          try dsimp only
          have e10 : (10 : Int32) * nI s + 0 = nI (10 * s) := by rw [Int32.add_zero]; exact pk_mul 10 s
          rw [e10]
          have key := px_ne1 (10 * s) (by omega) (σ.1 k) h20
          rw [decide_eq_true e, Bool.true_and] at r
          by_cases hx : σ.1 k = 10 * s + 1
          · rw [if_neg (fun h => h (key.mpr hx))]
            rw [decide_eq_true hx] at r
            exact r
          · rw [if_pos (show ¬ nI (σ.1 k) - 1 = nI (10 * s) from fun h => hx (key.mp h))]
            rw [decide_eq_false hx] at r
            exact r
  exact loop 25 0 4096 (by omega) (by omega)
theorem king_else {b : Nat → Nat} {s q : Nat} (hU : KU b) (hs : s < 2) (hq : q < 25) : (kgI b s = -1 ∨ kgI b s = nI q) ↔ (List.range 25).any (fun r => decide (r ≠ q) && decide (b r = 10 * s + 1)) = false := by
  cases hk : kg b s with
  | none =>
    rw [kgI_none hk]
    have := kg_none hk
    refine ⟨fun _ => ?_, fun _ => Or.inl rfl⟩
    rw [List.any_eq_false]
    intro r hr
    rw [List.mem_range] at hr
    simp [this r hr]
  | some p =>
    rw [kgI_some hk]
    obtain ⟨hp, hb⟩ := kg_some hk
    have n1 : ∀ p, p < 25 → ¬ nI p = -1 := by decide +kernel
    constructor
    · rintro (h | h)
      · exact absurd h (n1 p hp)
      · have e : p = q := (nI_eq (by omega) (by omega)).mp h
        subst e
        rw [List.any_eq_false]
        intro r hr
        rw [List.mem_range] at hr
        simp only [Bool.and_eq_true, decide_eq_true_eq]
        rintro ⟨h1, h2⟩
        exact h1 (hU s hs r p hr hp h2 hb)
    · intro h
      rw [List.any_eq_false] at h
      by_cases e : p = q
      · right; rw [e]
      · have := h p (List.mem_range.mpr hp)
        simp [e, hb] at this
theorem knd_king {m s : Nat} (h : m + 1 = 10 * s + 1) (hs : s < 2) : m % 10 = 0 ∧ m / 10 = s := by omega
theorem L_put {w v : mvW} (h : Rel w v) (a1 a2 : Int32) : Same (f_X4_put a1 a2) (f_X5_put a1 a2) w v := by
  obtain ⟨σ, hC, hR, hX⟩ := h
  have hO := hC.2.2.2
  rcases sq2 a1 with ⟨q, hq, rfl⟩ | ⟨n4, n5⟩
  · rcases rng a2 0 19 (by omega) (by omega) with ⟨⟨m, _, hm, rfl⟩, hin⟩ | hout
    · have h20 := hO.1 q hq
      obtain ⟨en, hs2⟩ := px_enc1 m (by omega)
      have body : (m % 10 = 0 → ∀ r, r < 25 → r ≠ q → σ.1 r ≠ 10 * (m / 10) + 1) → Same (f_X4_put_51 (nI q) (nI m)) (f_X5_put_44 (nI q) (nI m)) w v := by
        intro hking
        unfold Same f_X4_put_51 f_X5_put_44
        rw [M_man0 hR hq, Option.bind_some]
        try dsimp only
        rw [C_manOn hC hq, Option.bind_some]
        try dsimp only
        by_cases he : σ.1 q = m + 1
        · refine ⟨-1005, w, v, ?_, ?_, σ, hC, hR, hX⟩
          · rw [if_neg (show ¬ ¬ encM (σ.1 q) = nI m by rw [he, en]; exact fun h => h rfl)]
          · rw [if_neg (show ¬ ¬ nI (σ.1 q) - 1 = nI m from fun h => h ((px_ne1 m (by omega) _ h20).mpr he))]
        · obtain ⟨w2, v2, d1, d2, d3, d4, d5⟩ := Rec hC hR hX
          obtain ⟨w3, e1, e2, e3⟩ := C_place d3 hq (x := m + 1) (by omega) (fun s hs hx r hr hrq => by
            obtain ⟨k1, k2⟩ := knd_king hx hs
            rw [← k2]; exact hking k1 r hr hrq)
          have r3 := RW_set d4 hq (m + 1)
          refine ⟨nI (brd (sS σ q (m + 1)).1 25), w3, mv_up v2 1 q (nI (m + 1)), ?_, ?_, _, e2, r3, d5.keep e3.k (KV.up _ _ _)⟩
          · rw [if_pos (show ¬ encM (σ.1 q) = nI m by rw [en]; exact fun h => he ((encM_inj _ h20 _ (by omega)).mp h)), d1, Option.bind_some]
            try dsimp only
            rw [en, e1, Option.bind_some]
            try dsimp only
            rw [C_menOnBoard e2, Option.bind_some]
            try dsimp only
          · rw [if_pos (show ¬ nI (σ.1 q) - 1 = nI m from fun h => he ((px_ne1 m (by omega) _ h20).mp h)), d2, Option.bind_some]
            try dsimp only
            rw [px_160 (by omega), Option.bind_some]
            try dsimp only
            rw [nI_1, M_onBoard r3 e2.2.2.2, Option.bind_some]
            try dsimp only
      have tm4 : f_X4_isMan (nI m) w = some (1, w) := by rw [t4_man, if_pos hin]
      have tm5 : f_X5_in (nI m) 0 19 v = some (1, v) := by rw [show f_X5_in (nI m) 0 19 v = _ from t5_in (nI m) 0 19 v, if_pos hin]
      have kd : nI m - nI m / 10 * 10 = nI (m % 10) := px_r10 (by omega)
      have sd : nI m / 10 = nI (m / 10) := px_d10 (by omega)
      unfold Same f_X4_put f_X5_put
      rw [sq1 hq, Option.bind_some]
      try dsimp only
      rw [if_neg (by decide), tm5, Option.bind_some]
      try dsimp only
      rw [if_pos (show ¬ (1 : Int32) = 0 by decide), kd, sd]
      rw [px_sq hq, Option.bind_some]
      try dsimp only
      rw [if_neg (show ¬ (1 : Int32) = 0 by decide), tm4, Option.bind_some]
      try dsimp only
      rw [if_pos (show ¬ (1 : Int32) = 0 by decide)]
      unfold f_X4_sideOf
      rw [Option.bind_some]
      try dsimp only
      rw [sd, C_kingOf hC hs2, Option.bind_some]
      try dsimp only
      unfold f_X4_kindOf
      rw [Option.bind_some]
      try dsimp only
      rw [kd]
      by_cases hk0 : m % 10 = 0
      · rw [if_neg (show ¬ ¬ nI (m % 10) = 0 by rw [hk0]; exact fun h => h rfl), if_neg (show ¬ ¬ nI (m % 10) = 0 by rw [hk0]; exact fun h => h rfl), M_hasKing hR hO hs2 hq, Option.bind_some]
        try dsimp only
        have ke := king_else (b := σ.1) hC.2.2.1 hs2 hq
        cases ha : (List.range 25).any (fun r => decide (r ≠ q) && decide (σ.1 r = 10 * (m / 10) + 1)) with
        | false =>
          rw [if_pos (show (if false = true then (1 : Int32) else 0) = 0 from rfl)]
          obtain ⟨a, w', v', e1, e2, e3⟩ := body (fun _ r hr hrq hb => by
            rw [List.any_eq_false] at ha
            have := ha r (List.mem_range.mpr hr)
            simp [hrq, hb] at this)
          refine ⟨a, w', v', ?_, e2, e3⟩
          rcases ke.mpr ha with h | h
          · rw [if_pos h]; exact e1
          · by_cases h1 : kgI σ.1 (m / 10) = -1
            · rw [if_pos h1]; exact e1
            · rw [if_neg h1, if_pos h]; exact e1
        | true =>
          rw [if_neg (show ¬ (if true = true then (1 : Int32) else 0) = 0 by decide)]
          have nk : ¬ (kgI σ.1 (m / 10) = -1 ∨ kgI σ.1 (m / 10) = nI q) := fun h => by rw [ke.mp h] at ha; cases ha
          refine ⟨-1004, w, v, ?_, rfl, σ, hC, hR, hX⟩
          rw [if_neg (fun h => nk (Or.inl h)), if_neg (fun h => nk (Or.inr h))]
      · have hk0' : ¬ nI (m % 10) = 0 := nI_ne0 (by omega) (by omega)
        rw [if_pos hk0', if_pos hk0']
        exact body (fun h => absurd h hk0)
    · refine ⟨-1001, w, v, ?_, ?_, σ, hC, hR, hX⟩
      · unfold f_X4_put
        rw [px_sq hq, Option.bind_some]
        try dsimp only
        rw [if_neg (by decide), t4_man, if_neg hout, Option.bind_some]
        try dsimp only
        rw [if_neg (fun h => h rfl)]
      · unfold f_X5_put
        rw [sq1 hq, Option.bind_some]
        try dsimp only
        rw [if_neg (by decide), show f_X5_in a2 0 19 v = _ from t5_in a2 0 19 v, if_neg hout, Option.bind_some]
        try dsimp only
        rw [if_neg (fun h => h rfl)]
  · refine ⟨-1001, w, v, ?_, ?_, σ, hC, hR, hX⟩
    · unfold f_X4_put
      rw [n4, Option.bind_some]
      try dsimp only
      rw [if_pos rfl]
    · unfold f_X5_put
      rw [n5, Option.bind_some]
      try dsimp only
      rw [if_pos rfl]
