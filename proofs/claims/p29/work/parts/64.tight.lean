/-! the tightest play -/
abbrev Ti := Int32 × Int32 × Int32
def better (s : Ti) (rep wo : Int32) : Bool := decide (s.1 = -1005 ∨ rep < s.2.1 ∨ (rep = s.2.1 ∧ ¬ wo ≤ s.2.2))
def stp (σ : PS) (s : Ti) (c : Nat) : Ti :=
  if alw σ c = true then (if better s (nI (numS (mkS σ c))) (wrS (mkS σ c) σ.2.1) = true then (nI (tld c), nI (numS (mkS σ c)), wrS (mkS σ c) σ.2.1) else s) else s
def fld (σ : PS) : Nat → Ti
  | 0 => (-1005, 0, 0)
  | c + 1 => stp σ (fld σ c) c
theorem fld_eq (σ : PS) : ∀ k c, numN (alw σ) (c + k) = numN (alw σ) c → fld σ (c + k) = fld σ c
  | 0, _, _ => rfl
  | k + 1, c, h => by
    rw [← Nat.add_assoc] at h ⊢
    have h1 := numN_mono_n (alw σ) k c
    rw [numN] at h
    have ha : ¬ alw σ (c + k) = true := fun e => by rw [if_pos e] at h; omega
    rw [if_neg ha] at h
    rw [fld, stp, if_neg ha]
    exact fld_eq σ k c (by omega)
theorem fld_num {σ : PS} {c d : Nat} (h : numN (alw σ) c = numN (alw σ) d) : fld σ c = fld σ d := by
  rcases Nat.le_total c d with e | e
  · obtain ⟨k, rfl⟩ := Nat.le.dest e
    exact (fld_eq σ k c h.symm).symm
  · obtain ⟨k, rfl⟩ := Nat.le.dest e
    exact fld_eq σ k d h
theorem if4 {α : Type} {A B C D : Prop} [Decidable A] [Decidable B] [Decidable C] [Decidable D] {x y z t : α} (s : α) (n : α) (hy : (A ∨ B ∨ (C ∧ ¬ D)) → x = s ∧ y = s ∧ t = s) (hz : z = n) : (if A then x else if B then y else if ¬ C then z else if D then n else t) = if A ∨ B ∨ (C ∧ ¬ D) then s else n := by
  by_cases a : A
  · rw [if_pos a, if_pos (Or.inl a)]; exact (hy (Or.inl a)).1
  · rw [if_neg a]
    by_cases b : B
    · rw [if_pos b, if_pos (Or.inr (Or.inl b))]; exact (hy (Or.inr (Or.inl b))).2.1
    · rw [if_neg b]
      by_cases c : C
      · rw [if_neg (fun h => h c)]
        by_cases d : D
        · rw [if_pos d, if_neg (fun h => by rcases h with h | h | h; exact a h; exact b h; exact h.2 d)]
        · have h : A ∨ B ∨ (C ∧ ¬ D) := Or.inr (Or.inr ⟨c, d⟩)
          rw [if_neg d, if_pos h]; exact (hy h).2.2
      · rw [if_pos c, hz, if_neg (fun h => by rcases h with h | h | h; exact a h; exact b h; exact c h.1)]
theorem M_tight {σ : PS} (hO : OKs σ) : ∀ (j c N : Nat) (v : mvW), c + j = 1375 → j + 1 ≤ N → RW v 0 σ → ∃ v', f_X5_tightest_11 N (fld σ c).1 (fld σ c).2.1 (fld σ c).2.2 (nI c) v = some ((fld σ 1375).1, v') ∧ RW v' 0 σ ∧ KV v v' := by
  intro j
  induction j with
  | zero =>
    intro c N v hc hN hR
    obtain ⟨n, rfl⟩ : ∃ n, N = n + 1 := ⟨N - 1, by omega⟩
    have : c = 1375 := by omega
    subst this
    exact ⟨v, by rw [f_X5_tightest_11, if_pos (by decide)], hR, KV.refl v⟩
  | succ j ih =>
    intro c N v hc hN hR
    obtain ⟨n, rfl⟩ : ∃ n, N = n + 1 := ⟨N - 1, by omega⟩
    obtain ⟨v1, a1, a2, a3, a4⟩ := M_reason0 hR hO (c := c) (by omega)
    rw [f_X5_tightest_11, if_neg (q_nle (L := 1375) (b := 1375) rfl (by omega) (by omega)), a1, Option.bind_some]
    try dsimp only
    rw [nI_1]
    have ef : fld σ (c + 1) = stp σ (fld σ c) c := rfl
    cases ha : alw σ c with
    | false =>
      rw [if_pos (px_rs.2 ha)]
      obtain ⟨v', b1, b2, b3⟩ := ih (c + 1) n v1 (by omega) (by omega) a2
      rw [ef, stp, if_neg (by rw [ha]; decide)] at b1
      exact ⟨v', b1, b2, a3.trans b3⟩
    | true =>
      rw [if_neg (show ¬ ¬ nI (resS σ c) = 0 from fun h => h (px_rs.1 ha))]
      have hO' := mkS_ok' hO (show c < 1375 by omega) ha
      have r40 := a4 (alw_wn ha)
      obtain ⟨v2, d1, d2⟩ := M_plays r40 hO' (by omega)
      have r2 : RW v2 0 σ := a2.keep (d2.mono (by omega))
      have e2 : f_X5_worthIn 40 (nI σ.2.1) v2 = some (wrS (mkS σ c) σ.2.1, v2) := M_worthIn (P := 40) (r40.keep d2) hO' (by omega) hO.2
      rw [show f_X5_plays 40 v1 = _ from d1, Option.bind_some]
      try dsimp only
      rw [v_side r2, e2, Option.bind_some]
      try dsimp only
      obtain ⟨v', b1, b2, b3⟩ := ih (c + 1) n v2 (by omega) (by omega) r2
      rw [ef, stp, if_pos ha] at b1
      refine ⟨v', ?_, b2, a3.trans (d2.2 |> fun h => KV.trans h b3)⟩
      rw [← b1]
      have y : ∀ (g : Int32), f_X5_tightest_82 (fun x1' x2' x3' x4' w' => f_X5_tightest_11 n x1' x2' x3' x4' w') (fld σ c).1 (fld σ c).2.1 (fld σ c).2.2 (nI c) (nI (numS (mkS σ c))) (wrS (mkS σ c) σ.2.1) 1 v2 = f_X5_tightest_11 n (nI (tld c)) (nI (numS (mkS σ c))) (wrS (mkS σ c) σ.2.1) (nI (c + 1)) v2 := by
        intro g
        unfold f_X5_tightest_82
        rw [if_neg (by decide), M_told (by omega), Option.bind_some]
        try dsimp only
        rw [if_neg (by decide)]
        unfold f_X5_tightest_110
        rw [if_neg (by decide), nI_1]
      have z : f_X5_tightest_82 (fun x1' x2' x3' x4' w' => f_X5_tightest_11 n x1' x2' x3' x4' w') (fld σ c).1 (fld σ c).2.1 (fld σ c).2.2 (nI c) (nI (numS (mkS σ c))) (wrS (mkS σ c) σ.2.1) 0 v2 = f_X5_tightest_11 n (fld σ c).1 (fld σ c).2.1 (fld σ c).2.2 (nI (c + 1)) v2 := by
        unfold f_X5_tightest_82
        rw [if_pos rfl, if_pos rfl]
        unfold f_X5_tightest_110
        rw [if_pos rfl, nI_1]
      rw [y 0, z]
      rw [if4 (f_X5_tightest_11 n (nI (tld c)) (nI (numS (mkS σ c))) (wrS (mkS σ c) σ.2.1) (nI (c + 1)) v2) (f_X5_tightest_11 n (fld σ c).1 (fld σ c).2.1 (fld σ c).2.2 (nI (c + 1)) v2) (fun _ => ⟨rfl, rfl, rfl⟩) rfl]
      by_cases hb : better (fld σ c) (nI (numS (mkS σ c))) (wrS (mkS σ c) σ.2.1) = true
      · rw [if_pos hb, if_pos (of_decide_eq_true hb)]
      · rw [if_neg hb, if_neg (fun h => hb (decide_eq_true h))]
theorem C_tight {σ : PS} {w0 : mvW} : ∀ (j i N : Nat) (w : mvW) (c0 : Nat), i + j = numS σ → j + 1 ≤ N → CI w σ → KW w0 w → LstI w σ 1375 → numN (alw σ) c0 = i → ∃ w', f_X4_tightest_37 N (nI (numS σ)) (nI σ.2.1) (fld σ c0).1 (fld σ c0).2.1 (fld σ c0).2.2 (nI i) w = some ((fld σ 1375).1, w') ∧ CI w' σ ∧ KW w0 w' := by
  intro j
  have hl := numS_lt σ
  have h2 : numN (alw σ) 1375 = numS σ := rfl
  induction j with
  | zero =>
    intro i N w c0 hi hN hC hk hL hn
    obtain ⟨n, rfl⟩ : ∃ n, N = n + 1 := ⟨N - 1, by omega⟩
    refine ⟨w, ?_, hC, hk⟩
    rw [f_X4_tightest_37, if_pos (nI_le (by omega) (by omega)), fld_num (c := c0) (d := 1375) (by omega)]
  | succ j ih =>
    intro i N w c0 hi hN hC hk hL hn
    obtain ⟨n, rfl⟩ : ∃ n, N = n + 1 := ⟨N - 1, by omega⟩
    have hO := hC.2.2.2
    obtain ⟨c, hc, ha, hnc⟩ := numN_rank (f := alw σ) (r := i) 1375 (by omega)
    rw [fld_num (c := c0) (d := c) (by omega)]
    have e := C_listed hL hc ha (numS_room hO)
    rw [hnc] at e
    obtain ⟨w1, a1, a2, a3⟩ := C_applyS hC hc (alw_wn ha)
    obtain ⟨w2, b1, b2, b3, -, -⟩ := C_findPlays a2
    have eW := C_worthFor b2 (s := σ.2.1) hO.2
    obtain ⟨w3, c1, c2, c3⟩ := C_takeBackS hO hC.2.2.1 b2 hc (alw_wn ha)
    have hfg : FG w w3 := a3.g.trans (b3.trans c3.g)
    have en : numS (apS σ c) = numS (mkS σ c) := numS_cong
    have ew : wrS (apS σ c) σ.2.1 = wrS (mkS σ c) σ.2.1 := rfl
    rw [en] at b1
    rw [ew] at eW
    have e1 : numN (alw σ) (c + 1) = i + 1 := by rw [numN, if_pos ha, hnc]
    obtain ⟨w', d1, d2, d3⟩ := ih (i + 1) n w3 (c + 1) (by omega) (by omega) c2 (hk.trans hfg.k) (hL.fg hfg) e1
    refine ⟨w', ?_, d2, d3⟩
    rw [f_X4_tightest_37, if_neg (nI_ge (by omega) (by omega)), e, Option.bind_some]
    try dsimp only
    rw [a1, Option.bind_some]
    try dsimp only
    rw [b1, Option.bind_some]
    try dsimp only
    rw [eW, Option.bind_some]
    try dsimp only
    rw [c1, Option.bind_some]
    try dsimp only
    rw [nI_1, ← d1]
    unfold f_X4_tightest_123
    rw [nI_1]
    have ef : fld σ (c + 1) = stp σ (fld σ c) c := rfl
    rw [ef, stp, if_pos ha]
    rw [if4 (f_X4_tightest_37 n (nI (numS σ)) (nI σ.2.1) (nI (tld c)) (nI (numS (mkS σ c))) (wrS (mkS σ c) σ.2.1) (nI (i + 1)) w3) (f_X4_tightest_37 n (nI (numS σ)) (nI σ.2.1) (fld σ c).1 (fld σ c).2.1 (fld σ c).2.2 (nI (i + 1)) w3) (fun _ => ⟨rfl, rfl, rfl⟩) rfl]
    by_cases hb : better (fld σ c) (nI (numS (mkS σ c))) (wrS (mkS σ c) σ.2.1) = true
    · rw [if_pos hb, if_pos (of_decide_eq_true hb)]
    · rw [if_neg hb, if_neg (fun h => hb (decide_eq_true h))]
theorem L_tightest {w v : mvW} (h : Rel w v) : Same f_X4_tightest f_X5_tightest w v := by
  obtain ⟨σ, hC, hR, hX⟩ := h
  have hO := hC.2.2.2
  obtain ⟨w1, w2, b1, b2, b3, b4, b5⟩ := C_found hC
  have hroom := numS_room hO
  obtain ⟨w', c1, c2, c3⟩ := C_tight (σ := σ) (w0 := w) (numS σ) 0 4096 w2 0 (by omega) (by omega) b3 b4 b5 rfl
  obtain ⟨v', d1, d2, d3⟩ := M_tight hO 1375 0 4096 v (by omega) (by omega) hR
  refine ⟨(fld σ 1375).1, w', v', ?_, d1, σ, c2, d2, hX.keep c3 d3⟩
  unfold f_X4_tightest
  rw [b1, Option.bind_some]
  try dsimp only
  rw [b2, Option.bind_some]
  try dsimp only
  rw [C_sideToPlay b3, Option.bind_some]
  try dsimp only
  exact c1
