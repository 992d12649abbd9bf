/-! the calls that look: numbers of the whole, plays by rank, squares of drops, the mating play, the tightest -/
theorem asN {B : Prop} [Decidable B] (w : mvW) : f_X4_asNumber (if B then 1 else 0) w = some (if B then 1 else 0, w) := by
  unfold f_X4_asNumber
  by_cases h : B
  · rw [if_pos h, if_neg (by decide)]
  · rw [if_neg h, if_pos rfl]
theorem ref01 {B : Prop} [Decidable B] (v : mvW) : (if (if B then (1 : Int32) else 0) = 0 then some ((0 : Int32), v) else some (1, v)) = some (if B then 1 else 0, v) := by
  by_cases h : B
  · rw [if_pos h, if_neg (by decide)]
  · rw [if_neg h, if_pos rfl]
theorem M_plays0 {v : mvW} {σ : PS} (hR : RW v 0 σ) (hO : OKs σ) : ∃ v', f_X5_plays 0 v = some (nI (numS σ), v') ∧ RW v' 0 σ ∧ KV v v' := by
  obtain ⟨v', a1, a2⟩ := M_plays (P := 0) hR hO (by omega)
  exact ⟨v', a1, hR.keep a2, a2.2⟩
theorem L_total {w v : mvW} (h : Rel w v) (a1 : Int32) : Same (f_X4_total a1) (f_X5_total a1) w v := by
  obtain ⟨σ, hC, hR, hX⟩ := h
  have hO := hC.2.2.2
  have st : ∀ {a : Int32} {w' v' : mvW}, CI w' σ → RW v' 0 σ → KW w w' → KV v v' → f_X4_total a1 w = some (a, w') → f_X5_total a1 v = some (a, v') → Same (f_X4_total a1) (f_X5_total a1) w v := fun {a w' v'} x1 x2 x3 x4 e1 e2 => ⟨a, w', v', e1, e2, σ, x1, x2, hX.keep x3 x4⟩
  have here := fun {a : Int32} => st (a := a) hC hR (KW.refl w) (KV.refl v)
  unfold f_X4_total f_X5_total at st here ⊢
  by_cases e0 : a1 = 0
  · simp only [if_pos e0] at here ⊢
    exact here (by rw [C_sideToPlay hC]; rfl) (by rw [v_side hR])
  simp only [if_neg e0] at st here ⊢
  by_cases e1 : a1 = 1
  · simp only [if_pos e1] at here ⊢
    exact here (by rw [C_menOnBoard hC]; rfl) (by rw [M_onBoard hR hO]; rfl)
  simp only [if_neg e1] at st here ⊢
  by_cases e2 : a1 = 2
  · simp only [if_pos e2] at here ⊢
    exact here (by rw [show f_X2_menInHand 0 w = _ from C_menInHand hC (s := 0) (by omega)]; rfl) (by rw [e2, show f_X5_inHand (2 - 2) v = _ from M_inHand hR (s := 0) (by omega)]; rfl)
  simp only [if_neg e2] at st here ⊢
  by_cases e3 : a1 = 3
  · simp only [if_pos e3] at here ⊢
    exact here (by rw [show f_X2_menInHand 1 w = _ from C_menInHand hC (s := 1) (by omega)]; rfl) (by rw [e3, show f_X5_inHand (3 - 2) v = _ from M_inHand hR (s := 1) (by omega)]; rfl)
  simp only [if_neg e3] at st here ⊢
  by_cases e4 : a1 = 4
  · simp only [if_pos e4] at here ⊢
    exact here (a := if chk σ.1 σ.2.1 = true then 1 else 0) (by rw [C_isInCheck hC, Option.bind_some]; dsimp only; rw [asN, Option.bind_some]) (by rw [v_side hR, show f_X5_isInCheck 0 (nI σ.2.1) v = _ from M_isInCheck (P := 0) hR.1 hO.1 (by omega) hO.2, Option.bind_some]; exact ref01 v)
  simp only [if_neg e4] at st here ⊢
  by_cases e5 : a1 = 5
  · simp only [if_pos e5] at st ⊢
    obtain ⟨w', b1, b2, b3⟩ := C_isMated hC
    obtain ⟨v', c1, c2⟩ := M_isMated (P := 0) hR hO (by omega)
    exact st (a := if matS σ = true then 1 else 0) b2 (hR.keep c2) b3.k c2.2 (by rw [b1, Option.bind_some]; dsimp only; rw [asN, Option.bind_some]) (by rw [show f_X5_isMated 0 v = _ from c1, Option.bind_some]; exact ref01 v')
  simp only [if_neg e5] at st here ⊢
  obtain ⟨w', b1, b2, b3, -, -⟩ := C_findPlays hC
  obtain ⟨v', c1, c2, c3⟩ := M_plays0 hR hO
  have hl := numS_lt σ
  by_cases e6 : a1 = 6
  · simp only [if_pos e6] at st ⊢
    refine st (a := if numS σ = 0 then 1 else 0) b2 c2 b3.k c3 ?_ ?_
    · rw [b1, Option.bind_some]
      try dsimp only
      by_cases hz : numS σ = 0
      · rw [hz, if_neg (fun h => h rfl), if_pos rfl]; rfl
      · rw [if_pos (nI_ne0 (by omega) (by omega)), if_neg hz]; rfl
    · rw [c1, Option.bind_some]
      try dsimp only
      by_cases hz : numS σ = 0
      · rw [hz, if_neg (fun h => h rfl), if_pos rfl]
      · rw [if_pos (nI_ne0 (by omega) (by omega)), if_neg hz]
  simp only [if_neg e6] at st here ⊢
  by_cases e7 : a1 = 7
  · simp only [if_pos e7] at st ⊢
    exact st b2 c2 b3.k c3 (by rw [b1]; rfl) (by rw [c1]; rfl)
  simp only [if_neg e7] at st here ⊢
  by_cases e8 : a1 = 8
  · simp only [if_pos e8] at here ⊢
    exact here (a := σ.2.2.2 0) (by show some (w 2 40, w) = _; rw [show w 2 40 = _ from CI_count hC (i := 0) (by decide)]) (by unfold f_X5_total_148; rw [e8, show mv_ix 160 ((36 : Int32) + 8 - 8) = some 36 by decide, Option.bind_some, show v 1 36 = _ from v_cnt hR (i := 0) (by decide)])
  simp only [if_neg e8] at st here ⊢
  by_cases e9 : a1 = 9
  · simp only [if_pos e9] at here ⊢
    exact here (a := σ.2.2.2 1) (by show some (w 2 41, w) = _; rw [show w 2 41 = _ from CI_count hC (i := 1) (by decide)]) (by unfold f_X5_total_148; rw [e9, show mv_ix 160 ((36 : Int32) + 9 - 8) = some 37 by decide, Option.bind_some, show v 1 37 = _ from v_cnt hR (i := 1) (by decide)])
  simp only [if_neg e9] at st here ⊢
  by_cases e10 : a1 = 10
  · simp only [if_pos e10] at here ⊢
    exact here (a := σ.2.2.2 2) (by show some (w 2 42, w) = _; rw [show w 2 42 = _ from CI_count hC (i := 2) (by decide)]) (by unfold f_X5_total_148; rw [e10, show mv_ix 160 ((36 : Int32) + 10 - 8) = some 38 by decide, Option.bind_some, show v 1 38 = _ from v_cnt hR (i := 2) (by decide)])
  simp only [if_neg e10] at st here ⊢
  by_cases e11 : a1 = 11
  · simp only [if_pos e11] at here ⊢
    exact here (a := σ.2.2.2 3) (by show some (w 2 43, w) = _; rw [show w 2 43 = _ from CI_count hC (i := 3) (by decide)]) (by unfold f_X5_total_148; rw [e11, show mv_ix 160 ((36 : Int32) + 11 - 8) = some 39 by decide, Option.bind_some, show v 1 39 = _ from v_cnt hR (i := 3) (by decide)])
  simp only [if_neg e11] at st here ⊢
  by_cases e12 : a1 = 12
  · simp only [if_pos e12] at here ⊢
    obtain ⟨⟨k, hs, hk, h9, h0, hh⟩, hT, hS⟩ := hX
    exact here (a := nI k) (by show some (w 9 1, w) = _; rw [h9]) (by rw [h0])
  simp only [if_neg e12] at st here ⊢
  by_cases e13 : a1 = 13
  · simp only [if_pos e13] at here ⊢
    obtain ⟨hH, ⟨n, hn, h11, h7, hh⟩, hS⟩ := hX
    exact here (a := nI n) (by show some (w 11 1, w) = _; rw [h11]) (by rw [h7])
  simp only [if_neg e13] at here ⊢
  exact here rfl rfl
