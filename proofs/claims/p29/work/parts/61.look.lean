/-! the calls that only look -/
def Same (F G : mvW → Option (Int32 × mvW)) (w v : mvW) : Prop := ∃ a w' v', F w = some (a, w') ∧ G v = some (a, v') ∧ Rel w' v'
theorem sq1 {q : Nat} (hq : q < 25) (v : mvW) : f_X5_isSquare (nI q) v = some (1, v) := by
  rw [t5_sq, if_pos ⟨nI_le (by omega) (by omega), nI_le (by omega) (by omega)⟩]
theorem sq2 (x : Int32) : (∃ q, q < 25 ∧ x = nI q) ∨ ((∀ w, f_X4_isSquare x w = some (0, w)) ∧ ∀ v, f_X5_isSquare x v = some (0, v)) := by
  rcases rng x 0 24 (by omega) (by omega) with ⟨⟨q, _, hq, e⟩, _⟩ | h
  · exact Or.inl ⟨q, by omega, e⟩
  · exact Or.inr ⟨fun w => by rw [t4_sq, if_neg h], fun v => by rw [t5_sq, if_neg h]⟩
theorem sd1 {s : Nat} (hs : s < 2) (v : mvW) : f_X5_isSide (nI s) v = some (1, v) := by
  rw [t5_side, if_pos ⟨nI_le (by omega) (by omega), nI_le (by omega) (by omega)⟩]
theorem sd2 (x : Int32) : (∃ q, q < 2 ∧ x = nI q) ∨ ((∀ w, f_X4_isSide x w = some (0, w)) ∧ ∀ v, f_X5_isSide x v = some (0, v)) := by
  rcases rng x 0 1 (by omega) (by omega) with ⟨⟨q, _, hq, e⟩, _⟩ | h
  · exact Or.inl ⟨q, by omega, e⟩
  · exact Or.inr ⟨fun w => by rw [t4_side, if_neg h], fun v => by rw [t5_side, if_neg h]⟩
theorem hk1 {k : Nat} (h1 : 1 ≤ k) (h5 : k ≤ 5) (v : mvW) : f_X5_isInHand (nI k) v = some (1, v) := by
  rw [t5_hk, if_pos ⟨nI_le (by omega) (by omega), nI_le (by omega) (by omega)⟩]
theorem hk2 (x : Int32) : (∃ q, 1 ≤ q ∧ q ≤ 5 ∧ x = nI q) ∨ ((∀ w, f_X4_isHandKind x w = some (0, w)) ∧ ∀ v, f_X5_isInHand x v = some (0, v)) := by
  rcases rng x 1 5 (by omega) (by omega) with ⟨⟨q, h1, hq, e⟩, _⟩ | h
  · exact Or.inl ⟨q, h1, hq, e⟩
  · exact Or.inr ⟨fun w => by rw [t4_hk, if_neg h], fun v => by rw [t5_hk, if_neg h]⟩
theorem v_sq {v : mvW} {σ : PS} (hR : RW v 0 σ) {q : Nat} (hq : q < 25) : v 1 q = nI (σ.1 q) := by
  have := hR.1 q hq; rwa [Nat.zero_add] at this
theorem v_hand {v : mvW} {σ : PS} (hR : RW v 0 σ) {i : Nat} (hi : i < 10) : v 1 (25 + i) = σ.2.2.1 i := by
  have := hR.2.2.1 i hi; rwa [show 0 + 25 + i = 25 + i by omega] at this
theorem v_cnt {v : mvW} {σ : PS} (hR : RW v 0 σ) {i : Nat} (hi : i < 4) : v 1 (36 + i) = σ.2.2.2 i := by
  have := hR.2.2.2 i hi; rwa [show 0 + 36 + i = 36 + i by omega] at this
theorem v_side {v : mvW} {σ : PS} (hR : RW v 0 σ) : v 1 35 = nI σ.2.1 := by
  have := hR.2.1; rwa [Nat.zero_add] at this
theorem M_man0 {v : mvW} {σ : PS} (hR : RW v 0 σ) {q : Nat} (hq : q < 25) : f_X5_manAt 0 (nI q) v = some (nI (σ.1 q) - 1, v) := by
  have := M_manAt (P := 0) v hq (by omega)
  rw [Nat.zero_add, v_sq hR hq] at this
  exact this
theorem px_hi {s k : Nat} (h1 : 1 ≤ k) : (25 : Int32) + 5 * nI s + nI k - 1 = nI (25 + (5 * s + k - 1)) := by
  rw [show (5 : Int32) * nI s = nI (5 * s) from pk_mul 5 s, show (25 : Int32) + nI (5 * s) = nI (25 + 5 * s) from nI_add 25 _, nI_add, px_m1 (by omega)]
  exact congrArg nI (by omega)
theorem L_man {w v : mvW} (h : Rel w v) (a1 : Int32) : Same (f_X4_man a1) (f_X5_man a1) w v := by
  obtain ⟨σ, hC, hR, hX⟩ := h
  have hO := hC.2.2.2
  rcases sq2 a1 with ⟨q, hq, rfl⟩ | ⟨n4, n5⟩
  · unfold Same f_X4_man f_X5_man
    rw [px_sq hq, sq1 hq, Option.bind_some]
    try dsimp only
    rw [Option.bind_some]
    try dsimp only
    rw [if_pos (by decide), if_pos (by decide), C_manOn hC hq, Option.bind_some]
    try dsimp only
    rw [px_160 (by omega), Option.bind_some]
    try dsimp only
    rw [M_man0 hR hq, Option.bind_some]
    try dsimp only
    have h20 := hO.1 q hq
    by_cases hz : σ.1 q = 0
    · refine ⟨-1005, w, v, ?_, ?_, σ, hC, hR, hX⟩
      · rw [if_neg (fun h => h ((px_encE _ h20).mpr hz))]
      · rw [if_neg (show ¬ ¬ v 1 q = 0 by rw [v_sq hR hq, hz]; exact fun h => h rfl)]
    · refine ⟨nI (σ.1 q - 1), w, v, ?_, ?_, σ, hC, hR, hX⟩
      · rw [if_pos (show ¬ encM (σ.1 q) = 99 from fun h => hz ((px_encE _ h20).mp h)), encM_s hz]
      · rw [if_pos (show ¬ v 1 q = 0 by rw [v_sq hR hq]; exact nI_ne0 (by omega) (by omega)), px_m1 (by omega)]
  · refine ⟨-1001, w, v, ?_, ?_, σ, hC, hR, hX⟩
    · unfold f_X4_man
      rw [n4, Option.bind_some]
      try dsimp only
      rw [if_neg (fun h => h rfl)]
    · unfold f_X5_man
      rw [n5, Option.bind_some]
      try dsimp only
      rw [if_neg (fun h => h rfl)]
theorem L_hand {w v : mvW} (h : Rel w v) (a1 a2 : Int32) : Same (f_X4_hand a1 a2) (f_X5_hand a1 a2) w v := by
  obtain ⟨σ, hC, hR, hX⟩ := h
  rcases sd2 a1 with ⟨s, hs, rfl⟩ | ⟨n4, n5⟩
  · rcases hk2 a2 with ⟨k, h1, h5, rfl⟩ | ⟨m4, m5⟩
    · refine ⟨σ.2.2.1 (5 * s + k - 1), w, v, ?_, ?_, σ, hC, hR, hX⟩
      · unfold f_X4_hand
        rw [px_isSide hs, Option.bind_some]
        try dsimp only
        rw [if_neg (by decide), px_isHK h1 h5, Option.bind_some]
        try dsimp only
        rw [if_pos (by decide), C_inHand hC hs h1 h5, Option.bind_some]
        try dsimp only
      · unfold f_X5_hand
        rw [sd1 hs, Option.bind_some]
        try dsimp only
        rw [if_neg (by decide), hk1 h1 h5, Option.bind_some]
        try dsimp only
        rw [if_neg (by decide), px_hi h1, px_160 (by omega), Option.bind_some]
        try dsimp only
        rw [v_hand hR (by omega)]
    · refine ⟨-1001, w, v, ?_, ?_, σ, hC, hR, hX⟩
      · unfold f_X4_hand
        rw [px_isSide hs, Option.bind_some]
        try dsimp only
        rw [if_neg (by decide), m4, Option.bind_some]
        try dsimp only
        rw [if_neg (fun h => h rfl)]
      · unfold f_X5_hand
        rw [sd1 hs, Option.bind_some]
        try dsimp only
        rw [if_neg (by decide), m5, Option.bind_some]
        try dsimp only
        rw [if_pos rfl]
  · refine ⟨-1001, w, v, ?_, ?_, σ, hC, hR, hX⟩
    · unfold f_X4_hand
      rw [n4, Option.bind_some]
      try dsimp only
      rw [if_pos rfl]
    · unfold f_X5_hand
      rw [n5, Option.bind_some]
      try dsimp only
      rw [if_pos rfl]
theorem L_attackers {w v : mvW} (h : Rel w v) (a1 a2 : Int32) : Same (f_X4_attackers a1 a2) (f_X5_attackers a1 a2) w v := by
  obtain ⟨σ, hC, hR, hX⟩ := h
  have hO := hC.2.2.2
  rcases sd2 a1 with ⟨s, hs, rfl⟩ | ⟨n4, n5⟩
  · rcases sq2 a2 with ⟨q, hq, rfl⟩ | ⟨m4, m5⟩
    · refine ⟨nI (cnt σ.1 s q), w, v, ?_, ?_, σ, hC, hR, hX⟩
      · unfold f_X4_attackers
        rw [px_isSide hs, Option.bind_some]
        try dsimp only
        rw [if_neg (by decide), px_sq hq, Option.bind_some]
        try dsimp only
        rw [if_pos (by decide), C_countAttackers hC (by omega) hq, Option.bind_some]
        try dsimp only
      · unfold f_X5_attackers
        rw [sd1 hs, Option.bind_some]
        try dsimp only
        rw [if_neg (by decide), sq1 hq, Option.bind_some]
        try dsimp only
        rw [if_neg (by decide), show f_X5_attackersOf 0 (nI s) (nI q) v = _ from M_attackersOf (P := 0) hR.1 hO.1 (by omega) (by omega) hq, Option.bind_some]
        try dsimp only
    · refine ⟨-1001, w, v, ?_, ?_, σ, hC, hR, hX⟩
      · unfold f_X4_attackers
        rw [px_isSide hs, Option.bind_some]
        try dsimp only
        rw [if_neg (by decide), m4, Option.bind_some]
        try dsimp only
        rw [if_neg (fun h => h rfl)]
      · unfold f_X5_attackers
        rw [sd1 hs, Option.bind_some]
        try dsimp only
        rw [if_neg (by decide), m5, Option.bind_some]
        try dsimp only
        rw [if_pos rfl]
  · refine ⟨-1001, w, v, ?_, ?_, σ, hC, hR, hX⟩
    · unfold f_X4_attackers
      rw [n4, Option.bind_some]
      try dsimp only
      rw [if_pos rfl]
    · unfold f_X5_attackers
      rw [n5, Option.bind_some]
      try dsimp only
      rw [if_pos rfl]
theorem L_attacked {w v : mvW} (h : Rel w v) (a1 : Int32) : Same (f_X4_attacked a1) (f_X5_attacked a1) w v := by
  obtain ⟨σ, hC, hR, hX⟩ := h
  have hO := hC.2.2.2
  rcases sq2 a1 with ⟨q, hq, rfl⟩ | ⟨n4, n5⟩
  · have h20 := hO.1 q hq
    unfold Same f_X4_attacked f_X5_attacked
    rw [px_sq hq, sq1 hq, Option.bind_some]
    try dsimp only
    rw [Option.bind_some]
    try dsimp only
    rw [if_pos (by decide), if_pos (by decide), C_manOn hC hq, Option.bind_some]
    try dsimp only
    rw [px_160 (by omega), Option.bind_some]
    try dsimp only
    by_cases hz : σ.1 q = 0
    · refine ⟨-1005, w, v, ?_, ?_, σ, hC, hR, hX⟩
      · rw [if_neg (fun h => h ((px_encE _ h20).mpr hz))]
      · rw [if_neg (show ¬ ¬ v 1 q = 0 by rw [v_sq hR hq, hz]; exact fun h => h rfl)]
    · refine ⟨attM σ.1 (σ.1 q) q, w, v, ?_, ?_, σ, hC, hR, hX⟩
      · rw [if_pos (show ¬ encM (σ.1 q) = 99 from fun h => hz ((px_encE _ h20).mp h)), C_attackedFrom hC hq, if_neg hz, Option.bind_some]
        try dsimp only
      · rw [if_pos (show ¬ v 1 q = 0 by rw [v_sq hR hq]; exact nI_ne0 (by omega) (by omega)), show f_X5_attacksOf 0 (nI q) v = _ from M_attacksOf (P := 0) hR.1 hO.1 (by omega) hq, if_neg hz, Option.bind_some]
        try dsimp only
  · refine ⟨-1001, w, v, ?_, ?_, σ, hC, hR, hX⟩
    · unfold f_X4_attacked
      rw [n4, Option.bind_some]
      try dsimp only
      rw [if_neg (fun h => h rfl)]
    · unfold f_X5_attacked
      rw [n5, Option.bind_some]
      try dsimp only
      rw [if_neg (fun h => h rfl)]
theorem L_worth {w v : mvW} (h : Rel w v) (a1 : Int32) : Same (f_X4_worth a1) (f_X5_worth a1) w v := by
  obtain ⟨σ, hC, hR, hX⟩ := h
  have hO := hC.2.2.2
  rcases sd2 a1 with ⟨s, hs, rfl⟩ | ⟨n4, n5⟩
  · refine ⟨wrS σ s, w, v, ?_, ?_, σ, hC, hR, hX⟩
    · unfold f_X4_worth
      rw [px_isSide hs, Option.bind_some]
      try dsimp only
      rw [if_pos (by decide), C_worthFor hC (by omega), Option.bind_some]
      try dsimp only
    · unfold f_X5_worth
      rw [sd1 hs, Option.bind_some]
      try dsimp only
      rw [if_neg (by decide), show f_X5_worthIn 0 (nI s) v = _ from M_worthIn (P := 0) hR hO (by omega) (by omega), Option.bind_some]
      try dsimp only
  · refine ⟨-1001, w, v, ?_, ?_, σ, hC, hR, hX⟩
    · unfold f_X4_worth
      rw [n4, Option.bind_some]
      try dsimp only
      rw [if_neg (fun h => h rfl)]
    · unfold f_X5_worth
      rw [n5, Option.bind_some]
      try dsimp only
      rw [if_pos rfl]
theorem M_reason0 {v : mvW} {σ : PS} (hR : RW v 0 σ) (hO : OKs σ) {c : Nat} (hc : c < 1375) : ∃ v', f_X5_reason 0 (nI c) v = some (nI (resS σ c), v') ∧ RW v' 0 σ ∧ KV v v' ∧ (wnS σ c = 0 → RW v' 40 (mkS σ c)) := by
  obtain ⟨v', a1, a2, a3⟩ := M_reason (P := 0) hR hO (by omega) hc
  exact ⟨v', a1, hR.keep a2, a2.2, a3⟩
theorem M_moveReason {v : mvW} {σ : PS} (hR : RW v 0 σ) (hO : OKs σ) {f to : Nat} (hf : f < 25) (ht : to < 25) (a3 : Int32) : ∃ v', f_X5_moveReason (nI f) (nI to) a3 v = some (nI (resS σ (mcd f to (decide (a3 ≠ 0)))), v') ∧ RW v' 0 σ ∧ KV v v' := by
  obtain ⟨m1, -⟩ := mcd_eq hf ht (decide (a3 ≠ 0))
  obtain ⟨v', b1, b2, b3, -⟩ := M_reason0 hR hO (c := mcd f to (decide (a3 ≠ 0))) (by omega)
  refine ⟨v', ?_, b2, b3⟩
  unfold f_X5_moveReason f_X5_moveReason_19 f_X5_moveReason_39
  rw [sq1 hf, Option.bind_some]
  try dsimp only
  rw [if_neg (by decide), sq1 ht, Option.bind_some]
  try dsimp only
  rw [if_neg (by decide), if_neg (by decide)]
  by_cases h : a3 = 0
  · rw [if_pos h]
    have e : (0 : Int32) + 25 * nI f + nI to = nI (mcd f to (decide (a3 ≠ 0))) := by
      rw [Int32.zero_add, show (25 : Int32) * nI f = nI (25 * f) from pk_mul 25 f, nI_add]
      unfold mcd
      rw [decide_eq_false (fun hh => hh h), if_neg (by decide)]; rfl
    rw [e, b1, Option.bind_some]
    try dsimp only
  · rw [if_neg h]
    have e : (625 : Int32) + 25 * nI f + nI to = nI (mcd f to (decide (a3 ≠ 0))) := by
      rw [show (25 : Int32) * nI f = nI (25 * f) from pk_mul 25 f, show (625 : Int32) + nI (25 * f) = nI (625 + 25 * f) from nI_add 625 _, nI_add]
      unfold mcd
      rw [decide_eq_true h, if_pos rfl]
      exact congrArg nI (by omega)
    rw [e, b1, Option.bind_some]
    try dsimp only
theorem M_moveNo {a1 a2 : Int32} (a3 : Int32) (v : mvW) (h : (∀ v, f_X5_isSquare a1 v = some (0, v)) ∨ (∃ f, f < 25 ∧ a1 = nI f) ∧ ∀ v, f_X5_isSquare a2 v = some (0, v)) : f_X5_moveReason a1 a2 a3 v = some (-1001, v) := by
  unfold f_X5_moveReason f_X5_moveReason_19
  rcases h with h | ⟨⟨f, hf, rfl⟩, h⟩
  · rw [h, Option.bind_some]
    try dsimp only
    rw [if_pos rfl, if_pos rfl]
  · rw [sq1 hf, Option.bind_some]
    try dsimp only
    rw [if_neg (by decide), h, Option.bind_some]
    try dsimp only
    rw [if_pos rfl, if_pos rfl]
theorem L_moveReason {w v : mvW} (h : Rel w v) (a1 a2 a3 : Int32) : Same (f_X4_moveReason a1 a2 a3) (f_X5_moveReason a1 a2 a3) w v := by
  obtain ⟨σ, hC, hR, hX⟩ := h
  have hO := hC.2.2.2
  rcases sq2 a1 with ⟨f, hf, rfl⟩ | ⟨n4, n5⟩
  · rcases sq2 a2 with ⟨to, ht, rfl⟩ | ⟨m4, m5⟩
    · obtain ⟨v', b1, b2, b3⟩ := M_moveReason hR hO hf ht a3
      obtain ⟨w', c1, c2, c3⟩ := C_whyNoMove hC hf ht (decide (a3 ≠ 0)) (a3 := a3) (by simp)
      refine ⟨_, w', v', ?_, b1, σ, c2, b2, hX.keep c3.k b3⟩
      unfold f_X4_moveReason
      rw [px_sq hf, Option.bind_some]
      try dsimp only
      rw [if_neg (by decide), px_sq ht, Option.bind_some]
      try dsimp only
      rw [if_pos (by decide), c1, Option.bind_some]
      try dsimp only
    · refine ⟨-1001, w, v, ?_, M_moveNo a3 v (Or.inr ⟨⟨f, hf, rfl⟩, m5⟩), σ, hC, hR, hX⟩
      unfold f_X4_moveReason
      rw [px_sq hf, Option.bind_some]
      try dsimp only
      rw [if_neg (by decide), m4, Option.bind_some]
      try dsimp only
      rw [if_neg (fun h => h rfl)]
  · refine ⟨-1001, w, v, ?_, M_moveNo a3 v (Or.inl n5), σ, hC, hR, hX⟩
    unfold f_X4_moveReason
    rw [n4, Option.bind_some]
    try dsimp only
    rw [if_pos rfl]
theorem px_dc {k to : Nat} (h1 : 1 ≤ k) : (1250 : Int32) + 25 * (nI k - 1) + nI to = nI (dcd k to) := by
  rw [px_m1 h1, show (25 : Int32) * nI (k - 1) = nI (25 * (k - 1)) from pk_mul 25 _, show (1250 : Int32) + nI (25 * (k - 1)) = nI (1250 + 25 * (k - 1)) from nI_add 1250 _, nI_add]; rfl
theorem M_dropReason {v : mvW} {σ : PS} (hR : RW v 0 σ) (hO : OKs σ) {k to : Nat} (h1 : 1 ≤ k) (h5 : k ≤ 5) (ht : to < 25) : ∃ v', f_X5_dropReason (nI k) (nI to) v = some (nI (resS σ (dcd k to)), v') ∧ RW v' 0 σ ∧ KV v v' := by
  obtain ⟨-, m1, -⟩ := dcd_eq h1 h5 ht
  obtain ⟨v', b1, b2, b3, -⟩ := M_reason0 hR hO (c := dcd k to) (by omega)
  refine ⟨v', ?_, b2, b3⟩
  unfold f_X5_dropReason
  rw [hk1 h1 h5, Option.bind_some]
  try dsimp only
  rw [if_neg (by decide), sq1 ht, Option.bind_some]
  try dsimp only
  rw [if_neg (by decide), px_dc h1, b1, Option.bind_some]
  try dsimp only
theorem M_dropNo {a1 a2 : Int32} (v : mvW) (h : (∀ v, f_X5_isInHand a1 v = some (0, v)) ∨ (∃ f, 1 ≤ f ∧ f ≤ 5 ∧ a1 = nI f) ∧ ∀ v, f_X5_isSquare a2 v = some (0, v)) : f_X5_dropReason a1 a2 v = some (-1001, v) := by
  unfold f_X5_dropReason
  rcases h with h | ⟨⟨f, hf, hf5, rfl⟩, h⟩
  · rw [h, Option.bind_some]
    try dsimp only
    rw [if_pos rfl]
  · rw [hk1 hf hf5, Option.bind_some]
    try dsimp only
    rw [if_neg (by decide), h, Option.bind_some]
    try dsimp only
    rw [if_pos rfl]
theorem L_dropReason {w v : mvW} (h : Rel w v) (a1 a2 : Int32) : Same (f_X4_dropReason a1 a2) (f_X5_dropReason a1 a2) w v := by
  obtain ⟨σ, hC, hR, hX⟩ := h
  have hO := hC.2.2.2
  rcases hk2 a1 with ⟨k, h1, h5, rfl⟩ | ⟨n4, n5⟩
  · rcases sq2 a2 with ⟨to, ht, rfl⟩ | ⟨m4, m5⟩
    · obtain ⟨v', b1, b2, b3⟩ := M_dropReason hR hO h1 h5 ht
      obtain ⟨w', c1, c2, c3⟩ := C_whyNoDrop hC h1 h5 ht
      refine ⟨_, w', v', ?_, b1, σ, c2, b2, hX.keep c3.k b3⟩
      unfold f_X4_dropReason
      rw [px_isHK h1 h5, Option.bind_some]
      try dsimp only
      rw [if_neg (by decide), px_sq ht, Option.bind_some]
      try dsimp only
      rw [if_pos (by decide), c1, Option.bind_some]
      try dsimp only
    · refine ⟨-1001, w, v, ?_, M_dropNo v (Or.inr ⟨⟨k, h1, h5, rfl⟩, m5⟩), σ, hC, hR, hX⟩
      unfold f_X4_dropReason
      rw [px_isHK h1 h5, Option.bind_some]
      try dsimp only
      rw [if_neg (by decide), m4, Option.bind_some]
      try dsimp only
      rw [if_neg (fun h => h rfl)]
  · refine ⟨-1001, w, v, ?_, M_dropNo v (Or.inl n5), σ, hC, hR, hX⟩
    unfold f_X4_dropReason
    rw [n4, Option.bind_some]
    try dsimp only
    rw [if_pos rfl]
