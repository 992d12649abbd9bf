/-! the calls that change: plays, and men put and taken by hand -/
theorem px_an : ∀ x, x ≤ 20 → (0 ≤ nI x - 1 ↔ x ≠ 0) ∧ (x ≠ 0 → nI x - 1 = encM x) ∧ (x = 0 → encM x = 99) := by decide +kernel
theorem M_makes0 {v : mvW} {σ : PS} (hR : RW v 0 σ) (hO : OKs σ) {c : Nat} (hc : c < 1375) (h0 : wnS σ c = 0) : ∃ v', f_X5_makes 0 (nI c) v = some (nI (σ.1 (c % 25)) - 1, v') ∧ RW v' 0 (mkS σ c) ∧ KV v v' := by
  obtain ⟨v', a1, a2, a3⟩ := M_makes (P := 0) hR hO (by omega) hc h0
  exact ⟨v', a1, a2, a3.k⟩
theorem res_alw {σ : PS} {c : Nat} : (nI (resS σ c) = 0) = (alw σ c = true) := by
  cases h : alw σ c with
  | true => exact propext ⟨fun _ => rfl, fun _ => px_rs.1 h⟩
  | false => exact propext ⟨fun e => absurd e (px_rs.2 h), fun e => by cases e⟩
theorem res_1001 (σ : PS) (c : Nat) : ¬ nI (resS σ c) = -1001 := by
  have := resS_le σ c
  have : resS σ c = 0 ∨ resS σ c = 1 ∨ resS σ c = 2 ∨ resS σ c = 3 ∨ resS σ c = 4 ∨ resS σ c = 5 ∨ resS σ c = 6 := by omega
  rcases this with e | e | e | e | e | e | e <;> rw [e] <;> decide
theorem tld_mcd {f to : Nat} (hf : f < 25) (ht : to < 25) (pr : Bool) : tld (mcd f to pr) = mpN f to pr := by
  obtain ⟨m1, m2, m3, m4⟩ := mcd_eq hf ht pr
  unfold tld
  rw [if_pos m1, m2, m3, m4]
theorem tld_dcd {k to : Nat} (h1 : 1 ≤ k) (h5 : k ≤ 5) (ht : to < 25) : tld (dcd k to) = dpN k to := by
  obtain ⟨m1, m2, m3, m4, -⟩ := dcd_eq h1 h5 ht
  unfold tld
  rw [if_neg m1, m3, m4]
theorem L_move {w v : mvW} (h : Rel w v) (a1 a2 a3 : Int32) : Same (f_X4_move a1 a2 a3) (f_X5_move a1 a2 a3) w v := by
  obtain ⟨σ, hC, hR, hX⟩ := h
  have hO := hC.2.2.2
  rcases sq2 a1 with ⟨f, hf, rfl⟩ | ⟨n4, n5⟩
  · rcases sq2 a2 with ⟨to, ht, rfl⟩ | ⟨m4, m5⟩
    · obtain ⟨v', b1, b2, b3⟩ := M_moveReason hR hO hf ht a3
      obtain ⟨w', c1, c2, c3⟩ := C_whyNoMove hC hf ht (decide (a3 ≠ 0)) (a3 := a3) (by simp)
      obtain ⟨m1, m2, m3, m4⟩ := mcd_eq hf ht (decide (a3 ≠ 0))
      have hX' := hX.keep c3.k b3
      unfold Same f_X4_move f_X5_move
      rw [px_sq hf, Option.bind_some]
      try dsimp only
      rw [if_neg (by decide), px_sq ht, Option.bind_some]
      try dsimp only
      rw [if_pos (by decide), c1, Option.bind_some]
      try dsimp only
      rw [b1, Option.bind_some]
      try dsimp only
      cases ha : alw σ (mcd f to (decide (a3 ≠ 0))) with
      | false =>
        have hne := px_rs.2 ha
        refine ⟨-1004, w', v', ?_, ?_, σ, c2, b2, hX'⟩
        · rw [if_neg hne]
        · rw [if_neg hne, if_pos (show ¬ nI (resS σ (mcd f to (decide (a3 ≠ 0)))) = -1001 from res_1001 _ _)]
      | true =>
        have hz := px_rs.1 ha
        have h20 := hO.1 to ht
        obtain ⟨w2, v2, d1, d2, d3, d4, d5⟩ := Rec c2 b2 hX'
        obtain ⟨w3, e1, e2, e3⟩ := C_playS d3 (show mcd f to (decide (a3 ≠ 0)) < 1375 by omega) (alw_wn ha)
        obtain ⟨v3, g1, g2, g3⟩ := M_makes0 d4 hO (show mcd f to (decide (a3 ≠ 0)) < 1375 by omega) (alw_wn ha)
        rw [tld_mcd hf ht, m3] at e1
        rw [m3] at g1
        refine ⟨encM (σ.1 to), w3, v3, ?_, ?_, _, e2, g2, d5.keep e3.k g3⟩
        · rw [if_pos hz, d1, Option.bind_some]
          try dsimp only
          rw [C_moveNumber f to (decide (a3 ≠ 0)) (a3 := a3) (by simp), Option.bind_some]
          try dsimp only
          rw [e1, Option.bind_some]
          try dsimp only
        · rw [if_pos hz, d2, Option.bind_some]
          try dsimp only
          obtain ⟨p1, p2, p3⟩ := px_an (σ.1 to) h20
          have tail : (if 0 ≤ nI (σ.1 to) - 1 then some (nI (σ.1 to) - 1, v3) else some (99, v3)) = some (encM (σ.1 to), v3) := by
            by_cases hq : σ.1 to = 0
            · rw [if_neg (fun h => p1.mp h hq), p3 hq]
            · rw [if_pos (p1.mpr hq), p2 hq]
          unfold f_X5_move_49
          by_cases h3 : a3 = 0
          · have e : (0 : Int32) + 25 * nI f + nI to = nI (mcd f to (decide (a3 ≠ 0))) := by
              rw [Int32.zero_add, show (25 : Int32) * nI f = nI (25 * f) from pk_mul 25 f, nI_add]
              unfold mcd
              rw [decide_eq_false (fun hh => hh h3), if_neg (by decide)]; rfl
            rw [if_pos h3, e, g1, Option.bind_some]
            try dsimp only
            exact tail
          · have e : (625 : Int32) + 25 * nI f + nI to = nI (mcd f to (decide (a3 ≠ 0))) := by
              rw [show (25 : Int32) * nI f = nI (25 * f) from pk_mul 25 f, show (625 : Int32) + nI (25 * f) = nI (625 + 25 * f) from nI_add 625 _, nI_add]
              unfold mcd
              rw [decide_eq_true h3, if_pos rfl]
              exact congrArg nI (by omega)
            rw [if_neg h3, e, g1, Option.bind_some]
            try dsimp only
            exact tail
    · refine ⟨-1001, w, v, ?_, ?_, σ, hC, hR, hX⟩
      · unfold f_X4_move
        rw [px_sq hf, Option.bind_some]
        try dsimp only
        rw [if_neg (by decide), m4, Option.bind_some]
        try dsimp only
        rw [if_neg (fun h => h rfl)]
      · unfold f_X5_move
        rw [M_moveNo a3 v (Or.inr ⟨⟨f, hf, rfl⟩, m5⟩), Option.bind_some]
        try dsimp only
        rw [if_neg (by decide), if_neg (fun h => h rfl)]
  · refine ⟨-1001, w, v, ?_, ?_, σ, hC, hR, hX⟩
    · unfold f_X4_move
      rw [n4, Option.bind_some]
      try dsimp only
      rw [if_pos rfl]
    · unfold f_X5_move
      rw [M_moveNo a3 v (Or.inl n5), Option.bind_some]
      try dsimp only
      rw [if_neg (by decide), if_neg (fun h => h rfl)]
theorem L_drop {w v : mvW} (h : Rel w v) (a1 a2 : Int32) : Same (f_X4_drop a1 a2) (f_X5_drop a1 a2) w v := by
  obtain ⟨σ, hC, hR, hX⟩ := h
  have hO := hC.2.2.2
  rcases hk2 a1 with ⟨k, h1, h5, rfl⟩ | ⟨n4, n5⟩
  · rcases sq2 a2 with ⟨to, ht, rfl⟩ | ⟨m4, m5⟩
    · obtain ⟨v', b1, b2, b3⟩ := M_dropReason hR hO h1 h5 ht
      obtain ⟨w', c1, c2, c3⟩ := C_whyNoDrop hC h1 h5 ht
      obtain ⟨m1, m2, m3, m4, -⟩ := dcd_eq h1 h5 ht
      have hX' := hX.keep c3.k b3
      unfold Same f_X4_drop f_X5_drop
      rw [px_isHK h1 h5, Option.bind_some]
      try dsimp only
      rw [if_neg (by decide), px_sq ht, Option.bind_some]
      try dsimp only
      rw [if_pos (by decide), c1, Option.bind_some]
      try dsimp only
      rw [b1, Option.bind_some]
      try dsimp only
      cases ha : alw σ (dcd k to) with
      | false =>
        have hne := px_rs.2 ha
        refine ⟨-1004, w', v', ?_, ?_, σ, c2, b2, hX'⟩
        · rw [if_neg hne]
        · rw [if_neg hne, if_pos (show ¬ nI (resS σ (dcd k to)) = -1001 from res_1001 _ _)]
      | true =>
        have hz := px_rs.1 ha
        have ht1 := hO.2
        obtain ⟨w2, v2, d1, d2, d3, d4, d5⟩ := Rec c2 b2 hX'
        obtain ⟨w3, e1, e2, e3⟩ := C_playS d3 m2 (alw_wn ha)
        obtain ⟨v3, g1, g2, g3⟩ := M_makes0 d4 hO m2 (alw_wn ha)
        rw [tld_dcd h1 h5 ht] at e1
        refine ⟨(mkS σ (dcd k to)).2.2.1 (5 * σ.2.1 + k - 1), w3, v3, ?_, ?_, _, e2, g2, d5.keep e3.k g3⟩
        · rw [if_pos hz, C_sideToPlay c2, Option.bind_some]
          try dsimp only
          rw [d1, Option.bind_some]
          try dsimp only
          rw [C_dropNumber, Option.bind_some]
          try dsimp only
          rw [e1, Option.bind_some]
          try dsimp only
          rw [C_inHand e2 (s := σ.2.1) (by omega) h1 h5, Option.bind_some]
          try dsimp only
        · rw [if_pos hz, d2, Option.bind_some]
          try dsimp only
          rw [px_dc h1, g1, Option.bind_some]
          try dsimp only
          rw [v_side d4, px_hi h1, px_160 (by omega), Option.bind_some]
          try dsimp only
          rw [v_hand g2 (by omega)]
    · refine ⟨-1001, w, v, ?_, ?_, σ, hC, hR, hX⟩
      · unfold f_X4_drop
        rw [px_isHK h1 h5, Option.bind_some]
        try dsimp only
        rw [if_neg (by decide), m4, Option.bind_some]
        try dsimp only
        rw [if_neg (fun h => h rfl)]
      · unfold f_X5_drop
        rw [M_dropNo v (Or.inr ⟨⟨k, h1, h5, rfl⟩, m5⟩), Option.bind_some]
        try dsimp only
        rw [if_neg (by decide), if_neg (fun h => h rfl)]
  · refine ⟨-1001, w, v, ?_, ?_, σ, hC, hR, hX⟩
    · unfold f_X4_drop
      rw [n4, Option.bind_some]
      try dsimp only
      rw [if_pos rfl]
    · unfold f_X5_drop
      rw [M_dropNo v (Or.inl n5), Option.bind_some]
      try dsimp only
      rw [if_neg (by decide), if_neg (fun h => h rfl)]
def mk2 (c : Nat) (u : mvW) : Option (Int32 × mvW) := (f_X5_remembers u).bind fun z3 => (f_X5_makes 0 (nI c) z3).bind fun z4 => (f_X5_isInCheck 0 (z4.2 1 35) z4.2).bind fun z5 => (if z5.1 = 0 then some (0, z5.2) else some (1, z5.2))
theorem M_make2 {σ : PS} (hO : OKs σ) (x : Int32) : ∀ (j c N : Nat) (v : mvW), c + j = 1375 → j + 1 ≤ N → RW v 0 σ → (∀ d, plS σ x = some d → c ≤ d) → ∃ u, RW u 0 σ ∧ KV v u ∧ (plS σ x = none → f_X5_make_2 N x (nI c) v = some (-1004, u)) ∧ ∀ d, plS σ x = some d → f_X5_make_2 N x (nI c) v = mk2 d u := by
  intro j
  induction j with
  | zero =>
    intro c N v hc hN hR hd
    obtain ⟨n, rfl⟩ : ∃ n, N = n + 1 := ⟨N - 1, by omega⟩
    have : c = 1375 := by omega
    subst this
    refine ⟨v, hR, KV.refl v, fun _ => by rw [f_X5_make_2, if_pos (by decide)], fun d h => ?_⟩
    have := (plS_some h).1
    have := hd d h
    omega
  | succ j ih =>
    intro c N v hc hN hR hd
    obtain ⟨n, rfl⟩ : ∃ n, N = n + 1 := ⟨N - 1, by omega⟩
    rw [f_X5_make_2, if_neg (q_nle (L := 1375) (b := 1375) rfl (by omega) (by omega)), M_told (by omega), Option.bind_some]
    try dsimp only
    rw [nI_1]
    by_cases he : nI (tld c) = x
    · rw [if_neg (fun h => h he)]
      obtain ⟨v1, a1, a2, a3, -⟩ := M_reason0 hR hO (c := c) (by omega)
      have ep : plS σ x = if alw σ c = true then some c else none := by rw [← he]; exact plS_of (by omega)
      rw [a1, Option.bind_some]
      try dsimp only
      cases ha : alw σ c with
      | false =>
        rw [if_pos (px_rs.2 ha)]
        rw [ha, if_neg (by decide)] at ep
        obtain ⟨u, b1, b2, b3, b4⟩ := ih (c + 1) n v1 (by omega) (by omega) a2 (fun d h => by rw [ep] at h; cases h)
        exact ⟨u, b1, a3.trans b2, b3, b4⟩
      | true =>
        rw [if_neg (show ¬ ¬ nI (resS σ c) = 0 from fun h => h (px_rs.1 ha))]
        rw [ha, if_pos rfl] at ep
        refine ⟨v1, a2, a3, fun h => (by rw [ep] at h; cases h), fun d h => ?_⟩
        rw [ep] at h
        rw [← Option.some.inj h]; rfl
    · rw [if_pos he]
      obtain ⟨u, b1, b2, b3, b4⟩ := ih (c + 1) n v (by omega) (by omega) hR (fun d h => by
        have := hd d h
        have e2 := (plS_some h).2.1
        by_cases e : c = d
        · subst e; exact absurd e2.symm he
        · omega)
      exact ⟨u, b1, b2, b3, b4⟩
theorem L_make {w v : mvW} (h : Rel w v) (a1 : Int32) : Same (f_X4_make a1) (f_X5_make a1) w v := by
  obtain ⟨σ, hC, hR, hX⟩ := h
  have hO := hC.2.2.2
  obtain ⟨w1, b1, b2, b3⟩ := C_allows hC a1
  obtain ⟨u, c1, c2, c3, c4⟩ := M_make2 hO a1 1375 0 4096 v (by omega) (by omega) hR (fun d _ => Nat.zero_le d)
  have hX' := hX.keep b3.k c2
  cases hp : plS σ a1 with
  | none =>
    rw [hp] at b1
    refine ⟨-1004, w1, u, ?_, c3 hp, σ, b2, c1, hX'⟩
    unfold f_X4_make
    rw [b1, Option.bind_some]
    try dsimp only
    rw [if_neg (fun h => h rfl)]
  | some d =>
    rw [hp] at b1
    obtain ⟨p1, p2, p3⟩ := plS_some hp
    obtain ⟨w2, v2, d1, d2, d3, d4, d5⟩ := Rec b2 c1 hX'
    obtain ⟨w3, e1, e2, e3⟩ := C_playS d3 p1 (alw_wn p3)
    obtain ⟨v3, g1, g2, g3⟩ := M_makes0 d4 hO p1 (alw_wn p3)
    have hO' := e2.2.2.2
    refine ⟨if chk (mkS σ d).1 (mkS σ d).2.1 = true then 1 else 0, w3, v3, ?_, ?_, _, e2, g2, d5.keep e3.k g3⟩
    · unfold f_X4_make
      rw [b1, Option.bind_some]
      try dsimp only
      rw [if_pos (show ¬ (if (some d).isSome = true then (1 : Int32) else 0) = 0 by simp), d1, Option.bind_some]
      try dsimp only
      rw [p2, e1, Option.bind_some]
      try dsimp only
      rw [C_isInCheck e2, Option.bind_some]
      try dsimp only
      rw [asN, Option.bind_some]
      try dsimp only
    · have := c4 d hp
      rw [show f_X5_make a1 v = _ from this]
      unfold mk2
      rw [d2, Option.bind_some]
      try dsimp only
      rw [g1, Option.bind_some]
      try dsimp only
      rw [v_side g2, show f_X5_isInCheck 0 (nI (mkS σ d).2.1) v3 = _ from M_isInCheck (P := 0) g2.1 hO'.1 (by omega) hO'.2, Option.bind_some]
      try dsimp only
      exact ref01 v3
theorem RW_set {v : mvW} {σ : PS} (hR : RW v 0 σ) {q : Nat} (hq : q < 25) (x : Nat) : RW (mv_up v 1 q (nI x)) 0 (sS σ q x) := by
  rw [RW_RV] at hR ⊢
  obtain ⟨h1, h2, h3, h4⟩ := hR
  refine ⟨fun r hr => ?_, ?_, fun i hi => ?_, fun i hi => ?_⟩
  · rw [rds]
    show _ = nI (if r = q then x else σ.1 r)
    by_cases e : r = q
    · rw [if_pos e, if_pos e]
    · rw [if_neg e, if_neg e]; exact h1 r hr
  · rw [rds, if_neg (by omega)]; exact h2
  · rw [rds, if_neg (by omega)]; exact h3 i hi
  · rw [rds, if_neg (by omega)]; exact h4 i hi
theorem RW_hset {v : mvW} {σ : PS} (hR : RW v 0 σ) {i : Nat} (hi : i < 10) (x : Int32) : RW (mv_up v 1 (25 + i) x) 0 (sH σ i x) := by
  rw [RW_RV] at hR ⊢
  obtain ⟨h1, h2, h3, h4⟩ := hR
  refine ⟨fun r hr => ?_, ?_, fun j hj => ?_, fun j hj => ?_⟩
  · rw [rds, if_neg (by omega)]; exact h1 r hr
  · rw [rds, if_neg (by omega)]; exact h2
  · rw [rds]
    show _ = upd σ.2.2.1 i x j
    unfold upd
    by_cases e : j = i
    · rw [if_pos (by omega), if_pos e]
    · rw [if_neg (by omega), if_neg e]; exact h3 j hj
  · rw [rds, if_neg (by omega)]; exact h4 j hj
theorem KV.up (v : mvW) (i : Nat) (x : Int32) : KV v (mv_up v 1 i x) := fun c hc => up_ne v 1 i x hc
theorem L_takeOff {w v : mvW} (h : Rel w v) (a1 : Int32) : Same (f_X4_takeOff a1) (f_X5_takeOff a1) w v := by
  obtain ⟨σ, hC, hR, hX⟩ := h
  have hO := hC.2.2.2
  rcases sq2 a1 with ⟨q, hq, rfl⟩ | ⟨n4, n5⟩
  · have h20 := hO.1 q hq
    obtain ⟨p1, p2, p3⟩ := px_an (σ.1 q) h20
    unfold Same f_X4_takeOff f_X5_takeOff
    rw [sq1 hq, Option.bind_some]
    try dsimp only
    rw [if_pos (by decide), M_man0 hR hq, Option.bind_some]
    try dsimp only
    rw [px_sq hq, Option.bind_some]
    try dsimp only
    rw [if_pos (show ¬ (1 : Int32) = 0 by decide), C_manOn hC hq, Option.bind_some]
    try dsimp only
    by_cases hz : σ.1 q = 0
    · refine ⟨-1005, w, v, ?_, ?_, σ, hC, hR, hX⟩
      · rw [if_neg (fun h => h ((px_encE _ h20).mpr hz))]
      · rw [if_neg (fun h => p1.mp h hz)]
    · obtain ⟨w2, v2, d1, d2, d3, d4, d5⟩ := Rec hC hR hX
      obtain ⟨w3, e1, e2, e3⟩ := C_place d3 hq (x := 0) (by omega) (fun s _ h => by omega)
      refine ⟨encM (σ.1 q), w3, mv_up v2 1 q 0, ?_, ?_, _, e2, RW_set d4 hq 0, d5.keep e3.k (KV.up _ _ _)⟩
      · rw [if_pos (show ¬ encM (σ.1 q) = 99 from fun h => hz ((px_encE _ h20).mp h)), d1, Option.bind_some]
        try dsimp only
        rw [show f_X2_place (nI q) 99 w2 = _ from e1, Option.bind_some]
        try dsimp only
      · rw [if_pos (p1.mpr hz), d2, Option.bind_some]
        try dsimp only
        rw [px_160 (by omega), Option.bind_some]
        try dsimp only
        rw [p2 hz]
  · refine ⟨-1001, w, v, ?_, ?_, σ, hC, hR, hX⟩
    · unfold f_X4_takeOff
      rw [n4, Option.bind_some]
      try dsimp only
      rw [if_neg (fun h => h rfl)]
    · unfold f_X5_takeOff
      rw [n5, Option.bind_some]
      try dsimp only
      rw [if_neg (fun h => h rfl)]
theorem L_setHand {w v : mvW} (h : Rel w v) (a1 a2 a3 : Int32) : Same (f_X4_setHand a1 a2 a3) (f_X5_setHand a1 a2 a3) w v := by
  obtain ⟨σ, hC, hR, hX⟩ := h
  rcases sd2 a1 with ⟨s, hs, rfl⟩ | ⟨n4, n5⟩
  · rcases hk2 a2 with ⟨k, h1, h5, rfl⟩ | ⟨m4, m5⟩
    · unfold Same f_X4_setHand f_X5_setHand
      rw [sd1 hs, Option.bind_some]
      try dsimp only
      rw [if_neg (by decide), hk1 h1 h5, Option.bind_some]
      try dsimp only
      rw [if_pos (by decide), M_in, Option.bind_some]
      try dsimp only
      rw [px_isSide hs, Option.bind_some]
      try dsimp only
      rw [if_neg (show ¬ (1 : Int32) = 0 by decide), px_isHK h1 h5, Option.bind_some]
      try dsimp only
      rw [if_pos (show ¬ (1 : Int32) = 0 by decide)]
      by_cases h0 : a3 < 0
      · refine ⟨-1002, w, v, by rw [if_pos h0], ?_, σ, hC, hR, hX⟩
        rw [if_neg (show ¬ (0 ≤ a3 ∧ a3 ≤ 4) from fun h => Int32.not_lt.mpr h.1 h0), if_neg (fun h => h rfl)]
      · by_cases h4 : a3 ≤ 4
        · rw [if_neg h0, if_pos h4, C_inHand hC hs h1 h5, Option.bind_some]
          try dsimp only
          rw [if_pos (show 0 ≤ a3 ∧ a3 ≤ 4 from ⟨Int32.not_lt.mp h0, h4⟩), if_pos (show ¬ (1 : Int32) = 0 by decide), px_hi h1, px_160 (by omega), Option.bind_some]
          try dsimp only
          have ev : v 1 (25 + (5 * s + k - 1)) = σ.2.2.1 (5 * s + k - 1) := v_hand hR (by omega)
          by_cases he : σ.2.2.1 (5 * s + k - 1) = a3
          · refine ⟨-1005, w, v, by rw [if_neg (fun h => h he)], ?_, σ, hC, hR, hX⟩
            rw [if_neg (show ¬ ¬ v 1 (25 + (5 * s + k - 1)) = a3 by rw [ev]; exact fun h => h he)]
          · obtain ⟨w2, v2, d1, d2, d3, d4, d5⟩ := Rec hC hR hX
            obtain ⟨w3, e1, e2, e3⟩ := C_setInHand d3 hs h1 h5 a3
            refine ⟨σ.2.2.1 (5 * s + k - 1), w3, mv_up v2 1 (25 + (5 * s + k - 1)) a3, ?_, ?_, _, e2, RW_hset d4 (by omega) a3, d5.keep e3.k (KV.up _ _ _)⟩
            · rw [if_pos he, d1, Option.bind_some]
              try dsimp only
              rw [e1, Option.bind_some]
              try dsimp only
            · rw [if_pos (show ¬ v 1 (25 + (5 * s + k - 1)) = a3 by rw [ev]; exact he), d2, Option.bind_some]
              try dsimp only
              rw [Option.bind_some]
              try dsimp only
              rw [ev]
        · refine ⟨-1002, w, v, by rw [if_neg h0, if_neg h4], ?_, σ, hC, hR, hX⟩
          rw [if_neg (show ¬ (0 ≤ a3 ∧ a3 ≤ 4) from fun h => h4 h.2), if_neg (fun h => h rfl)]
    · refine ⟨-1001, w, v, ?_, ?_, σ, hC, hR, hX⟩
      · unfold f_X4_setHand
        rw [px_isSide hs, Option.bind_some]
        try dsimp only
        rw [if_neg (by decide), m4, Option.bind_some]
        try dsimp only
        rw [if_neg (fun h => h rfl)]
      · unfold f_X5_setHand
        rw [sd1 hs, Option.bind_some]
        try dsimp only
        rw [if_neg (by decide), m5, Option.bind_some]
        try dsimp only
        rw [if_neg (fun h => h rfl)]
  · refine ⟨-1001, w, v, ?_, ?_, σ, hC, hR, hX⟩
    · unfold f_X4_setHand
      rw [n4, Option.bind_some]
      try dsimp only
      rw [if_pos rfl]
    · unfold f_X5_setHand
      rw [n5, Option.bind_some]
      try dsimp only
      rw [if_pos rfl]
