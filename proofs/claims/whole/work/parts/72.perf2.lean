/-! perform: the plays of the text are made -/
def pf : List Nat → PS → Option PS
  | [], σ => some σ
  | c :: cs, σ => if alw σ c = true then pf cs (mkS σ c) else none
theorem C_perf33 : ∀ (rest : List Nat) (i N : Nat) (w : mvW) (σ : PS), (∀ j c, rest[j]? = some c → c < 1375 ∧ w 13 (i + j) = nI (tld c)) → w 11 3 = nI (i + rest.length) → i + rest.length ≤ 60 → rest.length + 1 ≤ N → CI w σ →
    (∀ τ, pf rest σ = some τ → ∃ w', f_X4_perform_33 N (nI i) w = ((f_X0_push_14 w').bind fun z4 => (f_X1_playsRead z4).bind fun z5 => some (z5.1, z5.2)) ∧ CI w' τ ∧ FC w w') ∧
    (pf rest σ = none → ∃ w' τ, f_X4_perform_33 N (nI i) w = ((f_X2_copyFrom_14 0 w').bind fun z9 => some (-1004, z9)) ∧ CI w' τ ∧ FC w w')
  | [], i, N, w, σ, hj, h3, hl, hN, hC => by
    obtain ⟨n, rfl⟩ : ∃ n, N = n + 1 := ⟨N - 1, by omega⟩
    refine ⟨fun τ h => ⟨w, ?_, ?_, FC.refl w⟩, fun h => by cases h⟩
    · rw [f_X4_perform_33]
      unfold f_X1_playsRead
      rw [Option.bind_some]
      try dsimp only
      rw [if_pos (show w 11 3 ≤ nI i by rw [h3]; exact nI_le (by simp) (by simp at hl; omega))]
    · rw [← Option.some.inj h]; exact hC
  | c :: cs, i, N, w, σ, hj, h3, hl, hN, hC => by
    obtain ⟨n, rfl⟩ : ∃ n, N = n + 1 := ⟨N - 1, by omega⟩
    rw [List.length_cons] at h3 hl hN
    obtain ⟨hc, h13⟩ := hj 0 c rfl
    rw [Nat.add_zero] at h13
    obtain ⟨w1, a1, a2, a3⟩ := C_allows hC (nI (tld c))
    rw [plS_of hc] at a1
    have start : f_X4_perform_33 (n + 1) (nI i) w = (f_X3_allows (nI (tld c)) w).bind fun z7 => (if ¬ z7.1 = 0 then (f_X2_play (nI (tld c)) z7.2).bind fun z8 => f_X4_perform_33 n (nI i + 1) z8.2 else (f_X2_copyFrom_14 0 z7.2).bind fun z9 => some ((-1004), z9)) := by
      rw [f_X4_perform_33]
      unfold f_X1_playsRead f_X1_playRead
      rw [Option.bind_some]
      try dsimp only
      rw [if_neg (show ¬ w 11 3 ≤ nI i by rw [h3]; exact nI_ge (by omega) (by omega)), if_neg (nI_pos (by omega)), if_neg (show ¬ w 11 3 ≤ nI i by rw [h3]; exact nI_ge (by omega) (by omega)), if_neg (q_nle (L := 60) (b := 60) rfl (by omega) (by omega)), px_ix (n := 60) (by omega) (by decide), Option.bind_some]
      try dsimp only
      rw [Option.bind_some]
      try dsimp only
      rw [h13]
    rw [start, a1, Option.bind_some]
    try dsimp only
    cases ha : alw σ c with
    | false =>
      refine ⟨fun τ h => ?_, fun _ => ⟨w1, σ, ?_, a2, a3⟩⟩
      · rw [pf, if_neg (by rw [ha]; decide)] at h; cases h
      · rw [if_neg (show ¬ ¬ (if (if false = true then some c else none).isSome = true then (1 : Int32) else 0) = 0 by simp)]
    | true =>
      obtain ⟨w2, b1, b2, b3⟩ := C_playS a2 hc (alw_wn ha)
      have hf : FC w w2 := a3.trans b3
      have r := C_perf33 cs (i + 1) n w2 (mkS σ c) (fun j d hd => by
        obtain ⟨x1, x2⟩ := hj (j + 1) d hd
        exact ⟨x1, by rw [hf 13 (by decide), ← x2]; exact congrArg (w 13) (by omega)⟩) (by rw [hf 11 (by decide), h3]; exact congrArg nI (by omega)) (by omega) (by omega) b2
      have e : pf (c :: cs) σ = pf cs (mkS σ c) := by rw [pf, if_pos ha]
      rw [if_pos (show ¬ (if (if true = true then some c else none).isSome = true then (1 : Int32) else 0) = 0 by simp), b1, Option.bind_some]
      try dsimp only
      rw [e, nI_1]
      refine ⟨fun τ h => ?_, fun h => ?_⟩
      · obtain ⟨w', c1, c2, c3⟩ := r.1 τ h
        exact ⟨w', c1, c2, hf.trans c3⟩
      · obtain ⟨w', τ, c1, c2, c3⟩ := r.2 h
        exact ⟨w', τ, c1, c2, hf.trans c3⟩
theorem M_perf51 {n : Nat} {t : Nat → Int32} : ∀ (k i p N : Nat) (v : mvW) (σ : PS), i + k = 60 → k + 2 ≤ N → 5 * i ≤ p → p ≤ 60 → TV v n → v 5 = t → RW v 0 σ → OKs σ → (ft (gS n t) n k p).1 = none →
    (∀ τ, pf (ft (gS n t) n k p).2 σ = some τ → ∃ v', f_X5_perform_51 N (nI i) (nI p) 1 v = f_X5_perform_120 (nI (i + (ft (gS n t) n k p).2.length)) 1 v' ∧ RW v' 0 τ ∧ KV v v') ∧
    (pf (ft (gS n t) n k p).2 σ = none → ∃ v' x, f_X5_perform_51 N (nI i) (nI p) 1 v = f_X5_perform_120 x 0 v' ∧ KV v v') := by
  intro k
  induction k with
  | zero => intro i p N v σ h1 h2 h3 h4; omega
  | succ k ih =>
    intro i p N v σ h1 h2 h3 h4 hT ht hR hO hnone
    obtain ⟨m, rfl⟩ : ∃ m, N = m + 1 := ⟨N - 1, by omega⟩
    have hn := hT.1
    have key : (pE (gS n t) p).1 = true := by
      cases hh : (pE (gS n t) p).1 with
      | true => rfl
      | false => rw [ft, if_neg (by rw [hh]; decide)] at hnone; cases hnone
    obtain ⟨e1, e2, e3⟩ := pE_end key
    have pl := pC_lt key
    have dn : ∀ N' x y z u, KV v u → n ≤ z → f_X5_perform_51 (N' + 1) x (nI z) y u = f_X5_perform_120 x y u ∨ ¬ z < 2 ^ 30 := by
      intro N' x y z u hk hz
      by_cases hb : z < 2 ^ 30
      · left
        rw [f_X5_perform_51, if_pos (show u 0 7 ≤ nI z by rw [hk 0 (by decide), hT.2]; exact nI_le hz (by omega))]
      · exact Or.inr hb
    have ec : f_X5_codeIn (nI p) v = some (nI (pC (gS n t) p), v) := by
      have := M_codeIn hT (p := p) (by omega) (by rw [ht]; exact key)
      rw [ht] at this; exact this
    obtain ⟨v1, b1, b2, b3, -⟩ := M_reason0 hR hO pl
    have epl : ∀ u, KV v u → f_X5_playEnd (nI p) u = some (nI (pE (gS n t) p).2, u) := fun u hk => by
      have hTu : TV u n := ⟨hn, by rw [hk 0 (by decide)]; exact hT.2⟩
      have e5 : u 5 = t := by rw [hk 5 (by decide)]; exact ht
      have := M_playEnd hTu (p := p) (by omega)
      rw [e5, if_pos key] at this; exact this
    have start : f_X5_perform_51 (m + 1) (nI i) (nI p) 1 v = (if ¬ nI (resS σ (pC (gS n t) p)) = 0 then f_X5_perform_86 (fun x2' x3' x4' w' => f_X5_perform_51 m x2' x3' x4' w') (nI i) (nI p) (nI (pC (gS n t) p)) 0 v1 else f_X5_perform_86 (fun x2' x3' x4' w' => f_X5_perform_51 m x2' x3' x4' w') (nI i) (nI p) (nI (pC (gS n t) p)) 1 v1) := by
      rw [f_X5_perform_51, if_neg (show ¬ v 0 7 ≤ nI p by rw [hT.2]; exact nI_ge e3 (by omega)), if_neg (by decide), ec, Option.bind_some]
      try dsimp only
      rw [b1, Option.bind_some]
      try dsimp only
    rw [start]
    obtain ⟨m', rfl⟩ : ∃ m', m = m' + 1 := ⟨m - 1, by omega⟩
    cases ha : alw σ (pC (gS n t) p) with
    | false =>
      have nonpf : ∀ l, pf (pC (gS n t) p :: l) σ = none := fun l => by rw [pf, if_neg (by rw [ha]; decide)]
      have shp : ∃ l, (ft (gS n t) n (k + 1) p).2 = pC (gS n t) p :: l := by
        rw [ft, if_pos key]
        split
        · exact ⟨_, rfl⟩
        · split
          · exact ⟨_, rfl⟩
          · exact ⟨_, rfl⟩
      obtain ⟨l, el⟩ := shp
      rw [el]
      refine ⟨fun τ h => (by rw [nonpf] at h; cases h), fun _ => ⟨v1, nI (i + 1), ?_, b3⟩⟩
      rw [if_pos (px_rs.2 ha)]
      unfold f_X5_perform_86 f_X5_perform_104
      rw [if_pos rfl, epl v1 b3, Option.bind_some]
      try dsimp only
      rw [nI_1, nI_1, f_X5_perform_51]
      by_cases hz : v1 0 7 ≤ nI ((pE (gS n t) p).2 + 1)
      · rw [if_pos hz]
      · rw [if_neg hz, if_pos rfl]
    | true =>
      obtain ⟨v2, c1, c2, c3⟩ := M_makes0 b2 hO pl (alw_wn ha)
      have k2 : KV v v2 := b3.trans c3
      have step : f_X5_perform_86 (fun x2' x3' x4' w' => f_X5_perform_51 (m' + 1) x2' x3' x4' w') (nI i) (nI p) (nI (pC (gS n t) p)) 1 v1 = f_X5_perform_51 (m' + 1) (nI (i + 1)) (nI ((pE (gS n t) p).2 + 1)) 1 v2 := by
        unfold f_X5_perform_86 f_X5_perform_104
        rw [if_neg (by decide), c1, Option.bind_some]
        try dsimp only
        rw [epl v2 k2, Option.bind_some]
        try dsimp only
        rw [nI_1, nI_1]
      rw [if_neg (show ¬ ¬ nI (resS σ (pC (gS n t) p)) = 0 from fun h => h (px_rs.1 ha)), step]
      rw [ft, if_pos key] at hnone ⊢
      by_cases he : n ≤ (pE (gS n t) p).2
      · rw [if_pos he]
        rcases dn m' (nI (i + 1)) 1 ((pE (gS n t) p).2 + 1) v2 k2 (by omega) with e | e
        · rw [e]
          refine ⟨fun τ h => ⟨v2, rfl, ?_, k2⟩, fun h => ?_⟩
          · rw [pf, if_pos ha] at h
            rw [← Option.some.inj h]; exact c2
          · rw [pf, if_pos ha] at h; cases h
        · exact absurd (by omega) e
      · rw [if_neg he] at hnone ⊢
        by_cases hs : gS n t (pE (gS n t) p).2 = 59
        · rw [if_pos hs] at hnone ⊢
          have r := ih (i + 1) ((pE (gS n t) p).2 + 1) (m' + 1) v2 (mkS σ (pC (gS n t) p)) (by omega) (by omega) (by omega) (by omega) ⟨hn, by rw [k2 0 (by decide)]; exact hT.2⟩ (by rw [k2 5 (by decide)]; exact ht) c2 (mkS_ok' hO pl ha) hnone
          have ep : ∀ l, pf (pC (gS n t) p :: l) σ = pf l (mkS σ (pC (gS n t) p)) := fun l => by rw [pf, if_pos ha]
          dsimp only
          rw [ep, List.length_cons]
          refine ⟨fun τ h => ?_, fun h => ?_⟩
          · obtain ⟨v', d1, d2, d3⟩ := r.1 τ h
            refine ⟨v', ?_, d2, k2.trans d3⟩
            rw [d1]
            exact congrArg (fun x => f_X5_perform_120 (nI x) 1 v') (by omega)
          · obtain ⟨v', x, d1, d2⟩ := r.2 h
            exact ⟨v', x, d1, k2.trans d2⟩
        · rw [if_neg hs] at hnone; cases hnone
theorem M_exch {v0 : mvW} : ∀ (j m N : Nat) (u : mvW), m + j = 40 → j + 1 ≤ N → (∀ c, c ≠ 1 → c ≠ 2 → u c = v0 c) → (∀ i, i < m → u 1 i = v0 2 i ∧ u 2 i = v0 1 i) → (∀ i, m ≤ i → u 1 i = v0 1 i ∧ u 2 i = v0 2 i) → ∃ v', f_X5_exchanges_2 N (nI m) u = some v' ∧ (∀ c, c ≠ 1 → c ≠ 2 → v' c = v0 c) ∧ ∀ i, i < 40 → v' 1 i = v0 2 i ∧ v' 2 i = v0 1 i := by
  intro j
  induction j with
  | zero =>
    intro m N u hm hN hf h1 h2
    obtain ⟨n, rfl⟩ : ∃ n, N = n + 1 := ⟨N - 1, by omega⟩
    have : m = 40 := by omega
    subst this
    exact ⟨u, by rw [f_X5_exchanges_2, if_pos (by decide)], hf, h1⟩
  | succ j ih =>
    intro m N u hm hN hf h1 h2
    obtain ⟨n, rfl⟩ : ∃ n, N = n + 1 := ⟨N - 1, by omega⟩
    rw [f_X5_exchanges_2, if_neg (q_nle (L := 40) (b := 40) rfl (by omega) (by omega)), px_160 (by omega), Option.bind_some]
    try dsimp only
    rw [px_ix (n := 40) (by omega) (by decide), Option.bind_some]
    try dsimp only
    rw [Option.bind_some]
    try dsimp only
    rw [Option.bind_some]
    try dsimp only
    rw [nI_1]
    refine ih (m + 1) n _ (by omega) (by omega) (fun c hc hc2 => ?_) (fun i hi => ?_) (fun i hi => ?_)
    · rw [up_ne _ _ _ _ hc2, up_ne _ _ _ _ hc]; exact hf c hc hc2
    · rw [rdn _ 2 m i 1 _ (by decide), rds, rds, rdn _ 1 m i 2 _ (by decide)]
      by_cases e : i = m
      · subst e
        rw [if_pos rfl, if_pos rfl]
        obtain ⟨x1, x2⟩ := h2 i (Nat.le_refl i)
        exact ⟨x2, x1⟩
      · rw [if_neg e, if_neg e]; exact h1 i (by omega)
    · rw [rdn _ 2 m i 1 _ (by decide), rds, rds, rdn _ 1 m i 2 _ (by decide), if_neg (by omega), if_neg (by omega)]
      exact h2 i (by omega)
theorem M_exchanges (v : mvW) : ∃ v', f_X5_exchanges v = some v' ∧ (∀ c, c ≠ 1 → c ≠ 2 → v' c = v c) ∧ ∀ i, i < 40 → v' 1 i = v 2 i ∧ v' 2 i = v 1 i :=
  M_exch 40 0 4096 v (by omega) (by omega) (fun _ _ _ => rfl) (fun i h => absurd h (Nat.not_lt_zero i)) (fun _ _ => ⟨rfl, rfl⟩)
theorem M_perf20 {v0 : mvW} : ∀ (j m N : Nat) (u : mvW), m + j = 40 → j + 1 ≤ N → (∀ c, c ≠ 2 → u c = v0 c) → (∀ i, i < m → u 2 i = v0 1 i) → ∃ v', f_X5_perform_20 N (nI m) u = f_X5_perform_51 4096 0 0 1 v' ∧ (∀ c, c ≠ 2 → v' c = v0 c) ∧ ∀ i, i < 40 → v' 2 i = v0 1 i := by
  intro j
  induction j with
  | zero =>
    intro m N u hm hN hf h1
    obtain ⟨n, rfl⟩ : ∃ n, N = n + 1 := ⟨N - 1, by omega⟩
    have : m = 40 := by omega
    subst this
    exact ⟨u, by rw [f_X5_perform_20, if_pos (by decide)], hf, h1⟩
  | succ j ih =>
    intro m N u hm hN hf h1
    obtain ⟨n, rfl⟩ : ∃ n, N = n + 1 := ⟨N - 1, by omega⟩
    rw [f_X5_perform_20, if_neg (q_nle (L := 40) (b := 40) rfl (by omega) (by omega)), px_160 (by omega), Option.bind_some]
    try dsimp only
    rw [px_ix (n := 40) (by omega) (by decide), Option.bind_some]
    try dsimp only
    rw [nI_1]
    refine ih (m + 1) n _ (by omega) (by omega) (fun c hc => ?_) (fun i hi => ?_)
    · rw [up_ne _ _ _ _ hc]; exact hf c hc
    · rw [rds]
      by_cases e : i = m
      · subst e; rw [if_pos rfl, hf 1 (by decide)]
      · rw [if_neg e]; exact h1 i (by omega)
