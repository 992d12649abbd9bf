/-! perform, whole -/
theorem Push {w v : mvW} {σ : PS} (hH : Hst w v) (cur : CA (w 14) σ) (hO : OKU σ) (curv : RV (v 1) σ) : ∃ w' v', f_X0_push_14 w = some w' ∧ f_X5_remembers v = some v' ∧ Hst w' v' ∧ (∀ c, c ≠ 9 → c ≠ 10 → w' c = w c) ∧ (∀ c, c ≠ 3 → c ≠ 0 → v' c = v c) ∧ ∀ i, i ≠ 3 → v' 0 i = v 0 i := by
  obtain ⟨k, hs, hk, h9, h0, hh⟩ := hH
  obtain ⟨w2, b1, b2, b3⟩ := C_push (w := w) hk h9
  obtain ⟨v', c1, c2, c3, c4⟩ := M_remembers hk h0
  refine ⟨w2, v', b1, c1, ?_, b2, c2, c3⟩
  rcases b3 with ⟨k3, d1, d2, d3⟩ | ⟨k4, d1, d2, d3⟩
  · rcases c4 with ⟨_, g1, g2, g3⟩ | ⟨k4, _⟩
    · refine ⟨k + 1, fun i => if i = k then σ else hs i, by omega, d1, g1, fun i hi => ?_⟩
      dsimp only
      by_cases e : i = k
      · subst e
        rw [if_pos rfl]
        exact ⟨cur.eq d2, hO, curv.eq g2⟩
      · rw [if_neg e]
        obtain ⟨x1, x2, x3⟩ := hh i (by omega)
        exact ⟨x1.eq (fun j hj => by rw [d3 _ (by omega)]), x2, x3.eq (fun j hj => g3 _ (by omega))⟩
    · omega
  · rcases c4 with ⟨k3, _⟩ | ⟨_, g1, g2, g3⟩
    · omega
    · refine ⟨4, fun i => if i = 3 then σ else hs (i + 1), by omega, d1, g1, fun i hi => ?_⟩
      dsimp only
      by_cases e : i = 3
      · subst e
        rw [if_pos rfl]
        exact ⟨cur.eq d2, hO, curv.eq g2⟩
      · rw [if_neg e]
        obtain ⟨x1, x2, x3⟩ := hh (i + 1) (by omega)
        exact ⟨x1.eq (fun j hj => by rw [d3 _ (by omega)]; exact congrArg (w 10) (by omega)), x2, x3.eq (fun j hj => by rw [g3 _ (by omega)]; exact congrArg (v 3) (by omega))⟩
theorem ft_le {g : Nat → Int32} {n q : Nat} : ∀ k p, p ≤ n + 1 → (ft g n k p).1 = some q → q ≤ n + 7
  | 0, p, hp, h => by
    have : p = q := Option.some.inj h
    omega
  | k + 1, p, hp, h => by
    have hle := pE_le g p
    rw [ft] at h
    by_cases h1 : (pE g p).1 = true
    · rw [if_pos h1] at h
      by_cases h2 : n ≤ (pE g p).2
      · rw [if_pos h2] at h; cases h
      · rw [if_neg h2] at h
        by_cases h3 : g (pE g p).2 = 59
        · rw [if_pos h3] at h
          exact ft_le k _ (by omega) h
        · rw [if_neg h3] at h
          have : (pE g p).2 = q := Option.some.inj h
          omega
    · rw [if_neg h1] at h
      have : (pE g p).2 = q := Option.some.inj h
      omega
theorem gS_eq {n : Nat} {a b : Nat → Int32} (h : ∀ i, i < n → a i = b i) : gS n a = gS n b := by
  funext i
  unfold gS
  by_cases e : n ≤ i
  · rw [if_pos e, if_pos e]
  · rw [if_neg e, if_neg e]; exact h i (by omega)
theorem L_perform {w v : mvW} (h : Rel w v) : Same f_X4_perform f_X5_perform w v := by
  obtain ⟨σ, hC, hR, hH, ⟨n, hn, h11, h7, hh⟩, hS⟩ := h
  have hO := hC.2.2.2
  have hg : gS n (w 12) = gS n (v 5) := gS_eq (fun i hi => (hh i hi).1)
  have hTv : TV v n := ⟨hn, h7⟩
  have hw0 : mv_up (mv_up w 11 4 0) 11 3 0 = cu (mv_up w 11 3 0) 0 := by
    unfold cu
    funext c j
    by_cases hc : c = 11
    · subst hc
      rw [rds, rds, rds, rds]
      by_cases e3 : j = 3
      · rw [if_pos e3, if_neg (by omega), if_pos e3]
      · rw [if_neg e3, if_neg e3]; rfl
    · rw [up_ne _ _ _ _ hc, up_ne _ _ _ _ hc, up_ne _ _ _ _ hc, up_ne _ _ _ _ hc]
  have t0 : TW (mv_up w 11 3 0) n := ⟨hn, by rw [rds, if_neg (by decide)]; exact h11⟩
  obtain ⟨w1, a1, a2, a3, -, a5⟩ := C_readPlaysL (t := w 12) 60 0 0 4096 (mv_up w 11 3 0) (by omega) (by omega) (by omega) (by omega) t0 (up_ne _ _ _ _ (by decide))
  have aw : ∀ c, c ≠ 11 → c ≠ 13 → w1 c = w c := fun c hc hc2 => (a2 c hc hc2).trans (up_ne _ _ _ _ hc)
  have a11 : w1 11 1 = w 11 1 := by rw [a3, rds, if_neg (by decide)]
  have kw1 : KW w w1 := ⟨aw 0 (by decide) (by decide), aw 9 (by decide) (by decide), aw 10 (by decide) (by decide), a11, aw 12 (by decide) (by decide), aw 15 (by decide) (by decide)⟩
  have hC1 : CI w1 σ := hC.oth (aw 2 (by decide) (by decide)) (aw 3 (by decide) (by decide))
  have hX : RX w v := ⟨hH, ⟨n, hn, h11, h7, hh⟩, hS⟩
  have fM := M_fault4 hTv 60 0 0 4096 (by omega) (by omega) (by omega) (by omega)
  rw [← hg] at fM
  have e4 : f_X1_readPlays w = some (ftA (ft (gS n (w 12)) n 60 0).1, w1) := by
    unfold f_X1_readPlays
    rw [hw0]; exact a1
  have e5 : f_X5_fault v = some (ftB (ft (gS n (w 12)) n 60 0).1, v) := fM
  unfold Same f_X4_perform f_X5_perform
  rw [e4, Option.bind_some]
  try dsimp only
  rw [e5, Option.bind_some]
  try dsimp only
  cases hf : (ft (gS n (w 12)) n 60 0).1 with
  | some q =>
    have hq := ft_le 60 0 (by omega) hf
    have p1 : ¬ ftA (some q) = -1 := nI_n1 (by omega)
    have p2 : ¬ ftB (some q) = -1005 := fun e => by
      have e : nI q = -1005 := e
      have := nI_pos (n := q) (by omega)
      rw [e] at this
      exact this (by decide)
    exact ⟨-2000 - nI q, w1, v, by rw [if_neg p1]; rfl, by rw [if_neg p2]; rfl, σ, hC1, hR, hX.keep kw1 (KV.refl v)⟩
  | none =>
    obtain ⟨b1, b2, b3⟩ := a5 hf
    rw [if_pos (show ftA none = -1 from rfl), if_pos (show ftB none = -1005 from rfl)]
    obtain ⟨w2, c1, c2, c3⟩ := C_copyTo14 w1
    rw [c1, Option.bind_some]
    try dsimp only
    have hC2 : CI w2 σ := hC1.oth (c3 2 (by decide)) (c3 3 (by decide))
    have s14 : CA (w2 14) σ := hC1.1.eq c2
    have hOU : OKU σ := ⟨hC.2.2.1, hO⟩
    have P := C_perf33 (ft (gS n (w 12)) n 60 0).2 0 4096 w2 σ (fun j c hj => by rw [c3 13 (by decide)]; exact b3 j c hj) (by rw [c3 11 (by decide)]; exact b1) b2 (by omega) hC2
    obtain ⟨v1, d1, d2, d3⟩ := M_perf20 (v0 := v) 40 0 4096 v (by omega) (by omega) (fun _ _ => rfl) (fun i hi => absurd hi (Nat.not_lt_zero i))
    have hR1 : RW v1 0 σ := hR.oth (d2 1 (by decide))
    have Q := M_perf51 (t := v 5) 60 0 0 4096 v1 σ (by omega) (by omega) (by omega) (by omega) ⟨hn, by rw [d2 0 (by decide)]; exact h7⟩ (d2 5 (by decide)) hR1 hO (by rw [← hg]; exact hf)
    rw [← hg] at Q
    rw [show f_X5_perform_20 4096 0 v = _ from d1]
    have curV : RV (v 1) σ := RW_RV.mp hR
    cases hp : pf (ft (gS n (w 12)) n 60 0).2 σ with
    | none =>
      obtain ⟨w3, τ, e1, e2, e3⟩ := P.2 hp
      obtain ⟨v2, x, f1, f2⟩ := Q.2 hp
      obtain ⟨v3, g1, g2, g3⟩ := M_exchanges v2
      obtain ⟨q1, q2, q3⟩ := C_copyFrom (w := w3) 14 44 0 (by omega) (by omega)
      have hC4 : CI (mv_cp w3 14 2 0 0 44) σ := CI_copied e2 (s14.eq (fun j hj => by rw [q2 j hj, Nat.zero_add, e3 14 (by decide)])) (q3 3 (by decide)) hOU
      have hR3 : RW v3 0 σ := RW_RV.mpr (curV.eq (fun j hj => by rw [(g3 j hj).1, f2 2 (by decide), d3 j hj]))
      have w3c : ∀ c, c ≠ 2 → c ≠ 14 → mv_cp w3 14 2 0 0 44 c = w1 c := fun c hc hc2 => by rw [q3 c hc, e3 c hc, c3 c hc2]
      have v3c : ∀ c, c ≠ 1 → c ≠ 2 → v3 c = v c := fun c hc hc2 => by rw [g2 c hc hc2, f2 c hc, d2 c hc2]
      refine ⟨-1004, mv_cp w3 14 2 0 0 44, v3, ?_, ?_, σ, hC4, hR3, ?_, ?_, ?_⟩
      · rw [show f_X4_perform_33 4096 0 w2 = _ from e1]
        unfold f_X2_copyFrom_14
        rw [if_neg (by decide), if_neg (by decide), show mv_cq 0 0 44 44 44 = some (0, 0, 44) from q1, Option.bind_some]
        try dsimp only
        rw [Option.bind_some]
        try dsimp only
      · rw [show f_X5_perform_51 4096 0 0 1 v1 = _ from f1]
        unfold f_X5_perform_120
        rw [if_pos rfl, g1, Option.bind_some]
        try dsimp only
        rw [if_pos rfl]
      · unfold Hst
        rw [w3c 9 (by decide) (by decide), w3c 10 (by decide) (by decide), v3c 0 (by decide) (by decide), v3c 3 (by decide) (by decide), kw1.2.1, kw1.2.2.1]
        exact hH
      · unfold Txt
        rw [w3c 11 (by decide) (by decide), w3c 12 (by decide) (by decide), v3c 0 (by decide) (by decide), v3c 5 (by decide) (by decide), a11, kw1.2.2.2.2.1]
        exact ⟨n, hn, h11, h7, hh⟩
      · unfold Snp
        rw [w3c 0 (by decide) (by decide), w3c 15 (by decide) (by decide), v3c 0 (by decide) (by decide), v3c 4 (by decide) (by decide), kw1.1, kw1.2.2.2.2.2]
        exact hS
    | some τ =>
      obtain ⟨w3, e1, e2, e3⟩ := P.1 τ hp
      obtain ⟨v2, f1, f2, f3⟩ := Q.1 τ hp
      obtain ⟨v3, g1, g2, g3⟩ := M_exchanges v2
      have w3c : ∀ c, c ≠ 2 → c ≠ 14 → w3 c = w1 c := fun c hc hc2 => by rw [e3 c hc, c3 c hc2]
      have v3c : ∀ c, c ≠ 1 → c ≠ 2 → v3 c = v c := fun c hc hc2 => by rw [g2 c hc hc2, f3 c hc, d2 c hc2]
      have hH3 : Hst w3 v3 := by
        unfold Hst
        rw [w3c 9 (by decide) (by decide), w3c 10 (by decide) (by decide), v3c 0 (by decide) (by decide), v3c 3 (by decide) (by decide), kw1.2.1, kw1.2.2.1]
        exact hH
      obtain ⟨w4, v4, p1, p2, p3, p4, p5, p6⟩ := Push hH3 (s14.eq (fun j hj => by rw [e3 14 (by decide)])) hOU (curV.eq (fun j hj => by rw [(g3 j hj).1, f3 2 (by decide), d3 j hj]))
      obtain ⟨v5, r1, r2, r3⟩ := M_exchanges v4
      have hC4 : CI w4 τ := e2.oth (p4 2 (by decide) (by decide)) (p4 3 (by decide) (by decide))
      have hR5 : RW v5 0 τ := RW_RV.mpr ((RW_RV.mp f2).eq (fun j hj => by rw [(r3 j hj).1, p5 2 (by decide) (by decide), (g3 j hj).2]))
      have len : w4 11 3 = nI (0 + (ft (gS n (w 12)) n 60 0).2.length) := by rw [p4 11 (by decide) (by decide), w3c 11 (by decide) (by decide)]; exact b1
      refine ⟨nI (0 + (ft (gS n (w 12)) n 60 0).2.length), w4, v5, ?_, ?_, τ, hC4, hR5, ?_, ?_, ?_⟩
      · rw [show f_X4_perform_33 4096 0 w2 = _ from e1, p1, Option.bind_some]
        try dsimp only
        unfold f_X1_playsRead
        rw [Option.bind_some]
        try dsimp only
        rw [len]
      · rw [show f_X5_perform_51 4096 0 0 1 v1 = _ from f1]
        unfold f_X5_perform_120
        rw [if_neg (by decide), g1, Option.bind_some]
        try dsimp only
        rw [p2, Option.bind_some]
        try dsimp only
        rw [r1, Option.bind_some]
        try dsimp only
        rw [if_neg (by decide)]
      · obtain ⟨k, hs, z1, z2, z3, z4⟩ := p3
        refine ⟨k, hs, z1, z2, by rw [r2 0 (by decide) (by decide)]; exact z3, fun i hi => ?_⟩
        rw [r2 3 (by decide) (by decide)]
        exact z4 i hi
      · unfold Txt
        rw [p4 11 (by decide) (by decide), p4 12 (by decide) (by decide), w3c 11 (by decide) (by decide), w3c 12 (by decide) (by decide), r2 0 (by decide) (by decide), p6 7 (by decide), r2 5 (by decide) (by decide), p5 5 (by decide) (by decide), v3c 0 (by decide) (by decide), v3c 5 (by decide) (by decide), a11, kw1.2.2.2.2.1]
        exact ⟨n, hn, h11, h7, hh⟩
      · unfold Snp
        rw [p4 0 (by decide) (by decide), p4 15 (by decide) (by decide), w3c 0 (by decide) (by decide), w3c 15 (by decide) (by decide), r2 0 (by decide) (by decide), p6 5 (by decide), r2 4 (by decide) (by decide), p5 4 (by decide) (by decide), v3c 0 (by decide) (by decide), v3c 4 (by decide) (by decide), kw1.1, kw1.2.2.2.2.2]
        exact hS
