/-! undo, keep, restore -/
theorem C_copyFrom {w : mvW} (k0 n0 at0 : Nat) (h0 : at0 + 44 ≤ n0) (hn : n0 < 2 ^ 30) : mv_cq (nI at0) 0 44 n0 44 = some (at0, 0, 44) ∧ (∀ j, j < 44 → mv_cp w k0 2 at0 0 44 2 j = w k0 (at0 + j)) ∧ ∀ c, c ≠ 2 → mv_cp w k0 2 at0 0 44 c = w c := by
  refine ⟨px_cq (a := at0) (b := 0) (c := 44) (by omega) (by omega) (by omega) (by omega), fun j hj => ?_, fun c hc => cp_ne _ _ _ _ _ _ hc⟩
  rw [cp_self, pk_cpy_in (by omega) (by omega)]
  exact congrArg (w k0) (by omega)
theorem CI_copied {w w' : mvW} {σ τ : PS} (hC : CI w σ) (hA : CA (w' 2) τ) (h3 : w' 3 = w 3) (hO : OKU τ) : CI w' τ := by
  refine ⟨hA, fun q d hq hd => ?_, hO.1, hO.2⟩
  rw [h3]
  exact hC.2.1 q d hq hd
theorem M_undo23 {v0 : mvW} {k : Nat} (hk : k ≤ 3) (h0 : v0 0 3 = nI k) : ∀ (j m N : Nat) (u : mvW), m + j = 40 → j + 1 ≤ N → KV v0 u → (∀ i, i < m → u 1 i = v0 3 (40 * k + i)) → ∃ v', f_X5_undo_23 N (nI m) u = some (nI k, v') ∧ KV v0 v' ∧ ∀ i, i < 40 → v' 1 i = v0 3 (40 * k + i) := by
  intro j
  induction j with
  | zero =>
    intro m N u hm hN hf hu
    obtain ⟨n, rfl⟩ : ∃ n, N = n + 1 := ⟨N - 1, by omega⟩
    have : m = 40 := by omega
    subst this
    exact ⟨u, by rw [f_X5_undo_23, if_pos (by decide), hf 0 (by decide), h0], hf, hu⟩
  | succ j ih =>
    intro m N u hm hN hf hu
    obtain ⟨n, rfl⟩ : ∃ n, N = n + 1 := ⟨N - 1, by omega⟩
    rw [f_X5_undo_23, if_neg (q_nle (L := 40) (b := 40) rfl (by omega) (by omega)), hf 0 (by decide), h0, show (40 : Int32) * nI k = nI (40 * k) from pk_mul 40 k, nI_add, px_160 (by omega), Option.bind_some]
    try dsimp only
    rw [px_160 (by omega), Option.bind_some]
    try dsimp only
    rw [nI_1]
    refine ih (m + 1) n _ (by omega) (by omega) (hf.trans (KV.up _ _ _)) (fun i hi => ?_)
    rw [rds]
    by_cases e : i = m
    · rw [if_pos e, hf 3 (by decide), e]
    · rw [if_neg e]; exact hu i (by omega)
theorem L_undo {w v : mvW} (h : Rel w v) : Same f_X4_undo f_X5_undo w v := by
  obtain ⟨σ, hC, hR, ⟨k, hs, hk, h9, h0, hh⟩, hT, hS⟩ := h
  by_cases hz : k = 0
  · refine ⟨-1005, w, v, ?_, ?_, σ, hC, hR, ⟨k, hs, hk, h9, h0, hh⟩, hT, hS⟩
    · unfold f_X4_undo f_X0_size
      rw [Option.bind_some]
      try dsimp only
      rw [if_neg (show ¬ ¬ w 9 1 = 0 by rw [h9, hz]; exact fun h => h rfl)]
    · unfold f_X5_undo
      rw [if_neg (show ¬ ¬ v 0 3 = 0 by rw [h0, hz]; exact fun h => h rfl)]
  · obtain ⟨k', rfl⟩ : ∃ k', k = k' + 1 := ⟨k - 1, by omega⟩
    obtain ⟨x1, x2, x3⟩ := hh k' (by omega)
    have em : nI (k' + 1) - 1 = nI k' := px_m1 (x := k' + 1) (by omega)
    have hu : (mv_up v 0 3 (nI k')) 0 3 = nI k' := by rw [rds, if_pos rfl]
    obtain ⟨v', b1, b2, b3⟩ := M_undo23 (v0 := mv_up v 0 3 (nI k')) (k := k') (by omega) hu 40 0 4096 _ (by omega) (by omega) (KV.refl _) (fun i hi => absurd hi (Nat.not_lt_zero i))
    obtain ⟨q1, q2, q3⟩ := C_copyFrom (w := mv_up w 9 1 (nI k')) 10 176 (44 * k') (by omega) (by omega)
    have ec : f_X2_copyFrom_10 (nI (44 * k')) (mv_up w 9 1 (nI k')) = some (mv_cp (mv_up w 9 1 (nI k')) 10 2 (44 * k') 0 44) := by
      unfold f_X2_copyFrom_10
      rw [if_neg (q_nlt (L := 0) (b := 0) rfl (by omega) (by omega)), if_neg (show ¬ (176 : Int32) - 44 < nI (44 * k') from nI_nlt (a := 132) (b := 44 * k') (by omega) (by decide)), q1, Option.bind_some]
      try dsimp only
    refine ⟨nI k', mv_cp (mv_up w 9 1 (nI k')) 10 2 (44 * k') 0 44, v', ?_, ?_, hs k', ?_, ?_, ?_, ?_, ?_⟩
    · unfold f_X4_undo f_X0_size f_X0_popInto_1
      rw [Option.bind_some]
      try dsimp only
      rw [if_pos (show ¬ w 9 1 = 0 by rw [h9]; exact nI_ne0 (by omega) (by omega)), if_pos (show 0 < w 9 1 by rw [h9]; exact nI_lt (a := 0) (b := k' + 1) (by omega) (by omega)), h9, em, rds, if_pos rfl, show nI k' * 44 = nI (k' * 44) from pk_mul k' 44, Nat.mul_comm k' 44, ec, Option.bind_some]
      try dsimp only
      rw [Option.bind_some]
      try dsimp only
      rw [Option.bind_some]
      try dsimp only
      rw [q3 9 (by decide), rds, if_pos rfl]
    · unfold f_X5_undo
      rw [if_pos (show ¬ v 0 3 = 0 by rw [h0]; exact nI_ne0 (by omega) (by omega)), h0, em]
      exact b1
    · refine CI_copied hC (x1.eq (fun j hj => ?_)) ?_ x2
      · rw [q2 j hj, up_ne _ _ _ _ (by decide)]
      · rw [q3 3 (by decide), up_ne _ _ _ _ (by decide)]
    · rw [RW_RV]
      exact x3.eq (fun j hj => by rw [b3 j hj, up_ne _ _ _ _ (by decide)])
    · refine ⟨k', hs, by omega, by rw [q3 9 (by decide), rds, if_pos rfl], by rw [b2 0 (by decide), rds, if_pos rfl], fun i hi => ?_⟩
      rw [q3 10 (by decide), up_ne _ _ _ _ (by decide), b2 3 (by decide), up_ne _ _ _ _ (by decide)]
      exact hh i (by omega)
    · unfold Txt
      rw [q3 11 (by decide), up_ne _ 9 1 _ (c := 11) (by decide), q3 12 (by decide), up_ne _ 9 1 _ (c := 12) (by decide), b2 0 (by decide), rds, if_neg (by decide), b2 5 (by decide), up_ne _ 0 3 _ (c := 5) (by decide)]
      exact hT
    · unfold Snp
      rw [q3 0 (by decide), up_ne _ 9 1 _ (c := 0) (by decide), q3 15 (by decide), up_ne _ 9 1 _ (c := 15) (by decide), b2 0 (by decide), rds, if_neg (by decide), b2 4 (by decide), up_ne _ 0 3 _ (c := 4) (by decide)]
      exact hS
theorem M_keep2 {v0 : mvW} {σ : PS} (hR : RW v0 0 σ) (hO : OKs σ) : ∀ (j m N : Nat) (u : mvW), m + j = 40 → j + 1 ≤ N → (∀ c, c ≠ 4 → u c = v0 c) → (∀ i, i < m → u 4 i = v0 1 i) → ∃ v', f_X5_keep_2 N (nI m) u = some (nI (brd σ.1 25), v') ∧ (∀ c, c ≠ 4 → c ≠ 0 → v' c = v0 c) ∧ (∀ i, i ≠ 5 → v' 0 i = v0 0 i) ∧ v' 0 5 = 1 ∧ ∀ i, i < 40 → v' 4 i = v0 1 i := by
  intro j
  induction j with
  | zero =>
    intro m N u hm hN hf hu
    obtain ⟨n, rfl⟩ : ∃ n, N = n + 1 := ⟨N - 1, by omega⟩
    have : m = 40 := by omega
    subst this
    have hRu : RW (mv_up u 0 5 1) 0 σ := hR.oth (by rw [up_ne _ _ _ _ (by decide), hf 1 (by decide)])
    refine ⟨mv_up u 0 5 1, ?_, fun c hc hc0 => ?_, fun i hi => ?_, ?_, fun i hi => ?_⟩
    · rw [f_X5_keep_2, if_pos (by decide), M_onBoard hRu hO, Option.bind_some]
      try dsimp only
    · rw [up_ne _ _ _ _ hc0]; exact hf c hc
    · rw [rds, if_neg hi, hf 0 (by decide)]
    · rw [rds, if_pos rfl]
    · rw [up_ne _ _ _ _ (by decide)]; exact hu i hi
  | succ j ih =>
    intro m N u hm hN hf hu
    obtain ⟨n, rfl⟩ : ∃ n, N = n + 1 := ⟨N - 1, by omega⟩
    rw [f_X5_keep_2, if_neg (q_nle (L := 40) (b := 40) rfl (by omega) (by omega)), px_160 (by omega), Option.bind_some]
    try dsimp only
    rw [px_ix (n := 40) (by omega) (by decide), Option.bind_some]
    try dsimp only
    rw [nI_1]
    refine ih (m + 1) n _ (by omega) (by omega) (fun c hc => ?_) (fun i hi => ?_)
    · rw [up_ne _ _ _ _ hc]; exact hf c hc
    · rw [rds]
      by_cases e : i = m
      · rw [if_pos e, hf 1 (by decide), e]
      · rw [if_neg e]; exact hu i (by omega)
theorem L_keep {w v : mvW} (h : Rel w v) : Same f_X4_keep f_X5_keep w v := by
  obtain ⟨σ, hC, hR, hH, hT, hS⟩ := h
  have hO := hC.2.2.2
  obtain ⟨v', b1, b2, b3, b4, b5⟩ := M_keep2 hR hO 40 0 4096 v (by omega) (by omega) (fun _ _ => rfl) (fun i hi => absurd hi (Nat.not_lt_zero i))
  have c15 : ∀ j, j < 44 → mv_cp w 2 15 0 0 44 15 j = w 2 j := fun j hj => by
    rw [cp_self, pk_cpy_in (by omega) (by omega)]
    exact congrArg (w 2) (by omega)
  have hC' : CI (mv_up (mv_cp w 2 15 0 0 44) 0 6 1) σ := hC.oth (by rw [up_ne _ _ _ _ (by decide), cp_ne _ _ _ _ _ _ (by decide)]) (by rw [up_ne _ _ _ _ (by decide), cp_ne _ _ _ _ _ _ (by decide)])
  refine ⟨nI (brd σ.1 25), mv_up (mv_cp w 2 15 0 0 44) 0 6 1, v', ?_, b1, σ, hC', hR.oth (b2 1 (by decide) (by decide)), ?_, ?_, ?_⟩
  · unfold f_X4_keep f_X2_copyTo_15
    rw [if_neg (by decide), if_neg (by decide), show mv_cq 0 0 44 44 44 = some (0, 0, 44) from px_cq (a := 0) (b := 0) (c := 44) (by omega) (by omega) (by omega) (by omega), Option.bind_some]
    try dsimp only
    rw [Option.bind_some]
    try dsimp only
    rw [C_menOnBoard hC', Option.bind_some]
    try dsimp only
  · unfold Hst
    rw [up_ne _ 0 6 _ (c := 9) (by decide), cp_ne _ _ _ _ _ _ (c := 9) (by decide), up_ne _ 0 6 _ (c := 10) (by decide), cp_ne _ _ _ _ _ _ (c := 10) (by decide), b3 3 (by decide), b2 3 (by decide) (by decide)]
    exact hH
  · unfold Txt
    rw [up_ne _ 0 6 _ (c := 11) (by decide), cp_ne _ _ _ _ _ _ (c := 11) (by decide), up_ne _ 0 6 _ (c := 12) (by decide), cp_ne _ _ _ _ _ _ (c := 12) (by decide), b3 7 (by decide), b2 5 (by decide) (by decide)]
    exact hT
  · refine Or.inr ⟨by rw [rds, if_pos rfl], b4, σ, ?_, ⟨hC.2.2.1, hO⟩, (RW_RV.mp hR).eq b5⟩
    exact hC.1.eq (fun j hj => by rw [up_ne _ 0 6 _ (c := 15) (by decide)]; exact c15 j hj)
theorem M_rest17 {v0 : mvW} {σ : PS} (hV : RV (v0 4) σ) (hO : OKs σ) : ∀ (j m N : Nat) (u : mvW), m + j = 40 → j + 1 ≤ N → KV v0 u → (∀ i, i < m → u 1 i = v0 4 i) → ∃ v', f_X5_restore_17 N (nI m) u = some (nI (brd σ.1 25), v') ∧ KV v0 v' ∧ RW v' 0 σ := by
  intro j
  induction j with
  | zero =>
    intro m N u hm hN hf hu
    obtain ⟨n, rfl⟩ : ∃ n, N = n + 1 := ⟨N - 1, by omega⟩
    have : m = 40 := by omega
    subst this
    have hRu : RW u 0 σ := RW_RV.mpr (hV.eq hu)
    exact ⟨u, by rw [f_X5_restore_17, if_pos (by decide), M_onBoard hRu hO, Option.bind_some], hf, hRu⟩
  | succ j ih =>
    intro m N u hm hN hf hu
    obtain ⟨n, rfl⟩ : ∃ n, N = n + 1 := ⟨N - 1, by omega⟩
    rw [f_X5_restore_17, if_neg (q_nle (L := 40) (b := 40) rfl (by omega) (by omega)), px_ix (n := 40) (by omega) (by decide), Option.bind_some]
    try dsimp only
    rw [px_160 (by omega), Option.bind_some]
    try dsimp only
    rw [nI_1]
    refine ih (m + 1) n _ (by omega) (by omega) (hf.trans (KV.up _ _ _)) (fun i hi => ?_)
    rw [rds]
    by_cases e : i = m
    · rw [if_pos e, hf 4 (by decide), e]
    · rw [if_neg e]; exact hu i (by omega)
theorem Rec_snap {w v : mvW} {σ : PS} (_ : CI w σ) (_ : RW v 0 σ) (hH : Hst w v) {w2 : mvW} (d1 : f_X4_recordChange w = some w2) : w2 0 6 = w 0 6 := by
  obtain ⟨k, hs, hk, h9, h0, hh⟩ := hH
  obtain ⟨w1, a1, a2, a3⟩ := C_copyTo14 w
  obtain ⟨w3, b1, b2, b3⟩ := C_push (w := w1) hk (by rw [a3 9 (by decide)]; exact h9)
  unfold f_X4_recordChange at d1
  rw [a1, Option.bind_some, b1, Option.bind_some] at d1
  rw [← Option.some.inj d1, b2 0 (by decide) (by decide), a3 0 (by decide)]
theorem L_restore {w v : mvW} (h : Rel w v) : Same f_X4_restore f_X5_restore w v := by
  obtain ⟨σ, hC, hR, hH, hT, hS⟩ := h
  rcases hS with ⟨s1, s2⟩ | ⟨s1, s2, s3⟩
  · refine ⟨-1005, w, v, ?_, ?_, σ, hC, hR, hH, hT, Or.inl ⟨s1, s2⟩⟩
    · unfold f_X4_restore
      rw [if_neg (show ¬ ¬ w 0 6 = 0 from fun h => h s1)]
    · unfold f_X5_restore
      rw [if_neg (show ¬ ¬ v 0 5 = 0 from fun h => h s2)]
  · obtain ⟨w2, v2, d1, d2, d3, d4, hH', hT', hS'⟩ := Rec hC hR ⟨hH, hT, Or.inr ⟨s1, s2, s3⟩⟩
    have hS'' := hS'
    rcases hS' with ⟨t1, t2⟩ | ⟨t1, t2, τ, t3, t4, t5⟩
    · exfalso
      have e := Rec_snap hC hR hH d1
      rw [e, s1] at t1
      exact absurd t1 (by decide)
    · obtain ⟨q1, q2, q3⟩ := C_copyFrom (w := w2) 15 44 0 (by omega) (by omega)
      have hC' : CI (mv_cp w2 15 2 0 0 44) τ := CI_copied d3 (t3.eq (fun j hj => by rw [q2 j hj, Nat.zero_add])) (q3 3 (by decide)) t4
      obtain ⟨v', b1, b2, b3⟩ := M_rest17 (v0 := v2) t5 t4.2 40 0 4096 v2 (by omega) (by omega) (KV.refl _) (fun i hi => absurd hi (Nat.not_lt_zero i))
      have kw : KW w2 (mv_cp w2 15 2 0 0 44) := FC.k q3
      refine ⟨nI (brd τ.1 25), mv_cp w2 15 2 0 0 44, v', ?_, ?_, τ, hC', b3, RX.keep ⟨hH', hT', hS''⟩ kw b2⟩
      · unfold f_X4_restore f_X2_copyFrom_15
        rw [if_pos (show ¬ w 0 6 = 0 by rw [s1]; decide), d1, Option.bind_some]
        try dsimp only
        rw [if_neg (by decide), if_neg (by decide), show mv_cq 0 0 44 44 44 = some (0, 0, 44) from q1, Option.bind_some]
        try dsimp only
        rw [Option.bind_some]
        try dsimp only
        rw [C_menOnBoard hC', Option.bind_some]
        try dsimp only
      · unfold f_X5_restore
        rw [if_pos (show ¬ v 0 5 = 0 by rw [s2]; decide), d2, Option.bind_some]
        try dsimp only
        exact b1
