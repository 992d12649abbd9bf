/-! the class alone: what every call answers, held against the picture; the history's top -/
def HS (w : mvW) (k : Nat) (hs : Nat → PS) : Prop := k ≤ 4 ∧ w 9 1 = nI k ∧ ∀ i, i < k → CA (fun j => w 10 (44 * i + j)) (hs i) ∧ OKU (hs i)
def IV (w : mvW) (σ : PS) (k : Nat) (hs : Nat → PS) : Prop := CI w σ ∧ HS w k hs ∧ w 0 6 = 0
theorem IV.keep {w w' : mvW} {σ τ : PS} {k : Nat} {hs : Nat → PS} (h : IV w σ k hs) (hC : CI w' τ) (hk : KW w w') : IV w' τ k hs := by
  obtain ⟨-, ⟨h1, h2, h3⟩, h4⟩ := h
  obtain ⟨k0, k9, k10, -⟩ := hk
  refine ⟨hC, ⟨h1, by rw [k9]; exact h2, fun i hi => ?_⟩, by rw [k0]; exact h4⟩
  rw [k10]; exact h3 i hi
/-- a call that looks: it answers a, and the picture stays -/
def Lk (F : mvW → Option (Int32 × mvW)) (w : mvW) (σ : PS) (k : Nat) (hs : Nat → PS) (a : Int32) : Prop := ∃ w', F w = some (a, w') ∧ IV w' σ k hs
section DL
variable {w : mvW} {σ : PS} {k : Nat} {hs : Nat → PS}
theorem D_man (h : IV w σ k hs) {q : Nat} (hq : q < 25) : f_X4_man (nI q) w = some (if σ.1 q = 0 then -1005 else nI (σ.1 q - 1), w) := by
  have hC := h.1
  have h20 := hC.2.2.2.1 q hq
  unfold f_X4_man
  rw [px_sq hq, Option.bind_some]
  try dsimp only
  rw [if_pos (by decide), C_manOn hC hq, Option.bind_some]
  try dsimp only
  by_cases hz : σ.1 q = 0
  · rw [if_neg (fun h => h ((px_encE _ h20).mpr hz)), if_pos hz]
  · rw [if_pos (show ¬ encM (σ.1 q) = 99 from fun h => hz ((px_encE _ h20).mp h)), if_neg hz, encM_s hz]
theorem D_man25 : f_X4_man 25 w = some (-1001, w) := by
  unfold f_X4_man
  rw [t4_sq, if_neg (by decide), Option.bind_some]
  try dsimp only
  rw [if_neg (fun h => h rfl)]
theorem D_hand (h : IV w σ k hs) {s kd : Nat} (hs2 : s < 2) (h1 : 1 ≤ kd) (h5 : kd ≤ 5) : f_X4_hand (nI s) (nI kd) w = some (σ.2.2.1 (5 * s + kd - 1), w) := by
  unfold f_X4_hand
  rw [px_isSide hs2, Option.bind_some]
  try dsimp only
  rw [if_neg (by decide), px_isHK h1 h5, Option.bind_some]
  try dsimp only
  rw [if_pos (by decide), C_inHand h.1 hs2 h1 h5, Option.bind_some]
theorem D_hand2 : f_X4_hand 2 1 w = some (-1001, w) := by
  unfold f_X4_hand
  rw [t4_side, if_neg (by decide), Option.bind_some]
  try dsimp only
  rw [if_pos rfl]
theorem D_attackers (h : IV w σ k hs) {s q : Nat} (hs2 : s < 2) (hq : q < 25) : f_X4_attackers (nI s) (nI q) w = some (nI (cnt σ.1 s q), w) := by
  unfold f_X4_attackers
  rw [px_isSide hs2, Option.bind_some]
  try dsimp only
  rw [if_neg (by decide), px_sq hq, Option.bind_some]
  try dsimp only
  rw [if_pos (by decide), C_countAttackers h.1 (by omega) hq, Option.bind_some]
theorem D_attacked (h : IV w σ k hs) {q : Nat} (hq : q < 25) : f_X4_attacked (nI q) w = some (if σ.1 q = 0 then -1005 else attM σ.1 (σ.1 q) q, w) := by
  have hC := h.1
  have h20 := hC.2.2.2.1 q hq
  unfold f_X4_attacked
  rw [px_sq hq, Option.bind_some]
  try dsimp only
  rw [if_pos (by decide), C_manOn hC hq, Option.bind_some]
  try dsimp only
  by_cases hz : σ.1 q = 0
  · rw [if_neg (fun h => h ((px_encE _ h20).mpr hz)), if_pos hz]
  · rw [if_pos (show ¬ encM (σ.1 q) = 99 from fun h => hz ((px_encE _ h20).mp h)), if_neg hz, C_attackedFrom hC hq, if_neg hz, Option.bind_some]
theorem D_worth (h : IV w σ k hs) {s : Nat} (hs2 : s < 2) : f_X4_worth (nI s) w = some (wrS σ s, w) := by
  unfold f_X4_worth
  rw [px_isSide hs2, Option.bind_some]
  try dsimp only
  rw [if_pos (by decide), C_worthFor h.1 (by omega), Option.bind_some]
theorem D_worth2 : f_X4_worth 2 w = some (-1001, w) := by
  unfold f_X4_worth
  rw [t4_side, if_neg (by decide), Option.bind_some]
  try dsimp only
  rw [if_neg (fun h => h rfl)]
theorem D_total0 (h : IV w σ k hs) : f_X4_total 0 w = some (nI σ.2.1, w) := by
  unfold f_X4_total
  rw [if_pos rfl, C_sideToPlay h.1, Option.bind_some]
theorem D_total1 (h : IV w σ k hs) : f_X4_total 1 w = some (nI (brd σ.1 25), w) := by
  unfold f_X4_total
  rw [if_neg (by decide), if_pos rfl, C_menOnBoard h.1, Option.bind_some]
theorem D_total2 (h : IV w σ k hs) : f_X4_total 2 w = some (hnd σ.2.2.1 0 5, w) := by
  unfold f_X4_total
  rw [if_neg (by decide), if_neg (by decide), if_pos rfl, show f_X2_menInHand 0 w = _ from C_menInHand h.1 (s := 0) (by omega), Option.bind_some]
theorem D_total3 (h : IV w σ k hs) : f_X4_total 3 w = some (hnd σ.2.2.1 5 5, w) := by
  unfold f_X4_total
  rw [if_neg (by decide), if_neg (by decide), if_neg (by decide), if_pos rfl, show f_X2_menInHand 1 w = _ from C_menInHand h.1 (s := 1) (by omega), Option.bind_some]
theorem D_total4 (h : IV w σ k hs) : f_X4_total 4 w = some (if chk σ.1 σ.2.1 = true then 1 else 0, w) := by
  unfold f_X4_total
  rw [if_neg (by decide), if_neg (by decide), if_neg (by decide), if_neg (by decide), if_pos rfl, C_isInCheck h.1, Option.bind_some]
  try dsimp only
  rw [asN, Option.bind_some]
theorem D_total5 (h : IV w σ k hs) : Lk (f_X4_total 5) w σ k hs (if matS σ = true then 1 else 0) := by
  obtain ⟨w', b1, b2, b3⟩ := C_isMated h.1
  refine ⟨w', ?_, h.keep b2 b3.k⟩
  unfold f_X4_total
  rw [if_neg (by decide), if_neg (by decide), if_neg (by decide), if_neg (by decide), if_neg (by decide), if_pos rfl, b1, Option.bind_some]
  try dsimp only
  rw [asN, Option.bind_some]
theorem D_total6 (h : IV w σ k hs) : Lk (f_X4_total 6) w σ k hs (if numS σ = 0 then 1 else 0) := by
  obtain ⟨w', b1, b2, b3, -, -⟩ := C_findPlays h.1
  have hl := numS_lt σ
  refine ⟨w', ?_, h.keep b2 b3.k⟩
  unfold f_X4_total
  rw [if_neg (by decide), if_neg (by decide), if_neg (by decide), if_neg (by decide), if_neg (by decide), if_neg (by decide), if_pos rfl, b1, Option.bind_some]
  try dsimp only
  by_cases hz : numS σ = 0
  · rw [hz, if_neg (fun h => h rfl), if_pos rfl]; rfl
  · rw [if_pos (nI_ne0 (by omega) (by omega)), if_neg hz]; rfl
theorem D_total7 (h : IV w σ k hs) : Lk (f_X4_total 7) w σ k hs (nI (numS σ)) := by
  obtain ⟨w', b1, b2, b3, -, -⟩ := C_findPlays h.1
  refine ⟨w', ?_, h.keep b2 b3.k⟩
  unfold f_X4_total
  rw [if_neg (by decide), if_neg (by decide), if_neg (by decide), if_neg (by decide), if_neg (by decide), if_neg (by decide), if_neg (by decide), if_pos rfl, b1, Option.bind_some]
theorem D_total8 (h : IV w σ k hs) : f_X4_total 8 w = some (σ.2.2.2 0, w) := by
  unfold f_X4_total f_X2_playsMade
  rw [if_neg (by decide), if_neg (by decide), if_neg (by decide), if_neg (by decide), if_neg (by decide), if_neg (by decide), if_neg (by decide), if_neg (by decide), if_pos rfl]
  show some (w 2 40, w) = _
  rw [show w 2 40 = _ from CI_count h.1 (i := 0) (by decide)]
theorem D_total11 (h : IV w σ k hs) : f_X4_total 11 w = some (σ.2.2.2 3, w) := by
  unfold f_X4_total f_X2_menDropped
  rw [if_neg (by decide), if_neg (by decide), if_neg (by decide), if_neg (by decide), if_neg (by decide), if_neg (by decide), if_neg (by decide), if_neg (by decide), if_neg (by decide), if_neg (by decide), if_neg (by decide), if_pos rfl]
  show some (w 2 43, w) = _
  rw [show w 2 43 = _ from CI_count h.1 (i := 3) (by decide)]
theorem D_total14 : f_X4_total 14 w = some (-1002, w) := by
  unfold f_X4_total
  rw [if_neg (by decide), if_neg (by decide), if_neg (by decide), if_neg (by decide), if_neg (by decide), if_neg (by decide), if_neg (by decide), if_neg (by decide), if_neg (by decide), if_neg (by decide), if_neg (by decide), if_neg (by decide), if_neg (by decide), if_neg (by decide)]
theorem D_dropReason (h : IV w σ k hs) {kd q : Nat} (h1 : 1 ≤ kd) (h5 : kd ≤ 5) (hq : q < 25) : Lk (f_X4_dropReason (nI kd) (nI q)) w σ k hs (nI (resS σ (dcd kd q))) := by
  obtain ⟨w', c1, c2, c3⟩ := C_whyNoDrop h.1 h1 h5 hq
  refine ⟨w', ?_, h.keep c2 c3.k⟩
  unfold f_X4_dropReason
  rw [px_isHK h1 h5, Option.bind_some]
  try dsimp only
  rw [if_neg (by decide), px_sq hq, Option.bind_some]
  try dsimp only
  rw [if_pos (by decide), c1, Option.bind_some]
theorem D_drops (h : IV w σ k hs) {kd : Nat} (h1 : 1 ≤ kd) (h5 : kd ≤ 5) : Lk (f_X4_drops (nI kd)) w σ k hs (msk (bF σ (49 + kd))) := by
  obtain ⟨w1, b1, b2, b3, b4, b5⟩ := C_findPlays h.1
  refine ⟨w1, ?_, h.keep b2 b3.k⟩
  unfold f_X4_drops f_X3_dropSquares
  rw [px_isHK h1 h5, Option.bind_some]
  try dsimp only
  rw [if_pos (by decide), b1, Option.bind_some]
  try dsimp only
  rw [if_neg (q_nlt (L := 0) (b := 0) rfl (by omega) (by omega)), if_neg (q_nle (L := 6) (b := 6) rfl (by omega) (by omega)), px_ix (n := 6) (by omega) (by decide), Option.bind_some]
  try dsimp only
  rw [Option.bind_some]
  try dsimp only
  rw [b5 kd h1 (by omega)]
theorem D_dropsNo {x : Int32} (hx : ¬ (nI 1 ≤ x ∧ x ≤ nI 5)) : f_X4_drops x w = some (-1001, w) := by
  unfold f_X4_drops
  rw [t4_hk, if_neg hx, Option.bind_some]
  try dsimp only
  rw [if_neg (fun h => h rfl)]
theorem D_playNo (h : IV w σ k hs) {r : Nat} (hr : r < 2 ^ 31) (hge : numS σ ≤ r) : Lk (f_X4_playAt (nI r)) w σ k hs (-1005) := by
  obtain ⟨w1, w2, b1, b2, b3, b4, b5⟩ := C_found h.1
  refine ⟨w2, ?_, h.keep b3 b4⟩
  unfold f_X4_playAt
  rw [if_pos (nI_pos' hr), b1, Option.bind_some]
  try dsimp only
  rw [b2, Option.bind_some]
  try dsimp only
  rw [if_pos (nI_le hge hr)]
theorem D_playM1 : f_X4_playAt (-1) w = some (-1002, w) := by
  unfold f_X4_playAt
  rw [if_neg (by decide)]
theorem D_play (h : IV w σ k hs) {c : Nat} (hc : c < 1375) (ha : alw σ c = true) : Lk (f_X4_playAt (nI (numN (alw σ) c))) w σ k hs (nI (tld c)) := by
  obtain ⟨w1, w2, b1, b2, b3, b4, b5⟩ := C_found h.1
  have hroom := numS_room h.1.2.2.2
  have hl : numN (alw σ) c < numS σ := numN_lt hc ha
  refine ⟨w2, ?_, h.keep b3 b4⟩
  unfold f_X4_playAt
  rw [if_pos (nI_pos' (by omega)), b1, Option.bind_some]
  try dsimp only
  rw [b2, Option.bind_some]
  try dsimp only
  rw [if_neg (nI_ge (by omega) (by omega)), C_listed b5 hc ha hroom, Option.bind_some]
theorem D_mate (h : IV w σ k hs) {A : Int32} (hA : MatA σ A) : Lk f_X4_mate w σ k hs A := by
  obtain ⟨w1, w2, b1, b2, b3, b4, b5⟩ := C_found h.1
  have hroom := numS_room h.1.2.2.2
  obtain ⟨w', c1, c2, c3⟩ := C_mate18 hA (numS σ) 0 4096 w2 (by omega) (by omega) b3 b4 b5 (fun d _ h => absurd h (Nat.not_lt_zero _))
  refine ⟨w', ?_, h.keep c2 c3⟩
  unfold f_X4_mate
  rw [b1, Option.bind_some]
  try dsimp only
  rw [b2, Option.bind_some]
  try dsimp only
  exact c1
theorem D_tightest (h : IV w σ k hs) : Lk f_X4_tightest w σ k hs (fld σ 1375).1 := by
  obtain ⟨w1, w2, b1, b2, b3, b4, b5⟩ := C_found h.1
  have hroom := numS_room h.1.2.2.2
  obtain ⟨w', c1, c2, c3⟩ := C_tight (σ := σ) (w0 := w) (numS σ) 0 4096 w2 0 (by omega) (by omega) b3 b4 b5 rfl
  refine ⟨w', ?_, h.keep c2 c3⟩
  unfold f_X4_tightest
  rw [b1, Option.bind_some]
  try dsimp only
  rw [b2, Option.bind_some]
  try dsimp only
  rw [C_sideToPlay b3, Option.bind_some]
  try dsimp only
  exact c1
/-! the calls that change -/
/-- the state stands on top of the history -/
theorem D_rec (h : IV w σ k hs) : ∃ w' k' hs', f_X4_recordChange w = some w' ∧ IV w' σ (k' + 1) hs' ∧ hs' k' = σ := by
  obtain ⟨hC, ⟨hk, h9, hh⟩, h6⟩ := h
  obtain ⟨w1, a1, a2, a3⟩ := C_copyTo14 w
  obtain ⟨w2, b1, b2, b3⟩ := C_push (w := w1) hk (by rw [a3 9 (by decide)]; exact h9)
  have hC2 : CI w2 σ := by
    have e2 : w2 2 = w 2 := (b2 2 (by decide) (by decide)).trans (a3 2 (by decide))
    have e3 : w2 3 = w 3 := (b2 3 (by decide) (by decide)).trans (a3 3 (by decide))
    exact hC.oth e2 e3
  have h62 : w2 0 6 = 0 := by rw [b2 0 (by decide) (by decide), a3 0 (by decide)]; exact h6
  have cur : CA (w1 14) σ := hC.1.eq a2
  have w10 : w1 10 = w 10 := a3 10 (by decide)
  have er : f_X4_recordChange w = some w2 := by
    unfold f_X4_recordChange
    rw [a1, Option.bind_some, b1, Option.bind_some]
  rcases b3 with ⟨k3, d1, d2, d3⟩ | ⟨k4, d1, d2, d3⟩
  · refine ⟨w2, k, fun i => if i = k then σ else hs i, er, ⟨hC2, ⟨by omega, d1, fun i hi => ?_⟩, h62⟩, if_pos rfl⟩
    dsimp only
    by_cases e : i = k
    · subst e
      rw [if_pos rfl]
      exact ⟨cur.eq d2, hC.2.2.1, hC.2.2.2⟩
    · rw [if_neg e]
      obtain ⟨x1, x2⟩ := hh i (by omega)
      exact ⟨x1.eq (fun j hj => by rw [d3 _ (by omega), w10]), x2⟩
  · refine ⟨w2, 3, fun i => if i = 3 then σ else hs (i + 1), er, ⟨hC2, ⟨by omega, d1, fun i hi => ?_⟩, h62⟩, if_pos rfl⟩
    dsimp only
    by_cases e : i = 3
    · subst e
      rw [if_pos rfl]
      exact ⟨cur.eq d2, hC.2.2.1, hC.2.2.2⟩
    · rw [if_neg e]
      obtain ⟨x1, x2⟩ := hh (i + 1) (by omega)
      exact ⟨x1.eq (fun j hj => by rw [d3 _ (by omega), w10]; exact congrArg (w 10) (by omega)), x2⟩
theorem D_makeNo (h : IV w σ k hs) {x : Int32} (hp : plS σ x = none) : Lk (f_X4_make x) w σ k hs (-1004) := by
  obtain ⟨w1, b1, b2, b3⟩ := C_allows h.1 x
  rw [hp] at b1
  refine ⟨w1, ?_, h.keep b2 b3.k⟩
  unfold f_X4_make
  rw [b1, Option.bind_some]
  try dsimp only
  rw [if_neg (fun h => h rfl)]
theorem D_make (h : IV w σ k hs) {c : Nat} (hc : c < 1375) (ha : alw σ c = true) : ∃ w' k' hs', f_X4_make (nI (tld c)) w = some (if chk (mkS σ c).1 (mkS σ c).2.1 = true then 1 else 0, w') ∧ IV w' (mkS σ c) (k' + 1) hs' ∧ hs' k' = σ := by
  obtain ⟨w1, b1, b2, b3⟩ := C_allows h.1 (nI (tld c))
  rw [plS_of hc, if_pos ha] at b1
  obtain ⟨w2, k', hs', d1, d2, d3⟩ := D_rec (h.keep b2 b3.k)
  obtain ⟨w3, e1, e2, e3⟩ := C_playS d2.1 hc (alw_wn ha)
  refine ⟨w3, k', hs', ?_, d2.keep e2 e3.k, d3⟩
  unfold f_X4_make
  rw [b1, Option.bind_some]
  try dsimp only
  rw [if_pos (show ¬ (if (some c).isSome = true then (1 : Int32) else 0) = 0 by simp), d1, Option.bind_some]
  try dsimp only
  rw [e1, Option.bind_some]
  try dsimp only
  rw [C_isInCheck e2, Option.bind_some]
  try dsimp only
  rw [asN, Option.bind_some]
theorem D_undo (h : IV w σ (k + 1) hs) : ∃ w', f_X4_undo w = some (nI k, w') ∧ IV w' (hs k) k hs := by
  obtain ⟨hC, ⟨hk, h9, hh⟩, h6⟩ := h
  obtain ⟨x1, x2⟩ := hh k (by omega)
  have em : nI (k + 1) - 1 = nI k := px_m1 (x := k + 1) (by omega)
  obtain ⟨q1, q2, q3⟩ := C_copyFrom (w := mv_up w 9 1 (nI k)) 10 176 (44 * k) (by omega) (by omega)
  have ec : f_X2_copyFrom_10 (nI (44 * k)) (mv_up w 9 1 (nI k)) = some (mv_cp (mv_up w 9 1 (nI k)) 10 2 (44 * k) 0 44) := by
    unfold f_X2_copyFrom_10
    rw [if_neg (q_nlt (L := 0) (b := 0) rfl (by omega) (by omega)), if_neg (show ¬ (176 : Int32) - 44 < nI (44 * k) from nI_nlt (a := 132) (b := 44 * k) (by omega) (by decide)), q1, Option.bind_some]
  refine ⟨mv_cp (mv_up w 9 1 (nI k)) 10 2 (44 * k) 0 44, ?_, ?_, ⟨by omega, by rw [q3 9 (by decide), rds, if_pos rfl], fun i hi => ?_⟩, ?_⟩
  · unfold f_X4_undo f_X0_size f_X0_popInto_1
    rw [Option.bind_some]
    try dsimp only
    rw [if_pos (show ¬ w 9 1 = 0 by rw [h9]; exact nI_ne0 (by omega) (by omega)), if_pos (show 0 < w 9 1 by rw [h9]; exact nI_lt (a := 0) (b := k + 1) (by omega) (by omega)), h9, em, rds, if_pos rfl, show nI k * 44 = nI (k * 44) from pk_mul k 44, Nat.mul_comm k 44, ec, Option.bind_some]
    try dsimp only
    rw [Option.bind_some]
    try dsimp only
    rw [Option.bind_some]
    try dsimp only
    rw [q3 9 (by decide), rds, if_pos rfl]
  · refine CI_copied hC (x1.eq (fun j hj => ?_)) ?_ x2
    · rw [q2 j hj, up_ne _ _ _ _ (by decide)]
    · rw [q3 3 (by decide), up_ne _ _ _ _ (by decide)]
  · rw [q3 10 (by decide), up_ne _ _ _ _ (by decide)]
    exact hh i (by omega)
  · rw [q3 0 (by decide), up_ne _ _ _ _ (by decide)]
    exact h6
theorem D_undo0 (h : IV w σ 0 hs) : f_X4_undo w = some (-1005, w) := by
  unfold f_X4_undo f_X0_size
  rw [Option.bind_some]
  try dsimp only
  rw [if_neg (show ¬ ¬ w 9 1 = 0 by rw [h.2.1.2.1]; exact fun h => h rfl)]
theorem D_restore (h : IV w σ k hs) : f_X4_restore w = some (-1005, w) := by
  unfold f_X4_restore
  rw [if_neg (show ¬ ¬ w 0 6 = 0 from fun e => e h.2.2)]
theorem D_takeOff (h : IV w σ k hs) {q : Nat} (hq : q < 25) : ∃ w' k' hs', f_X4_takeOff (nI q) w = some (if σ.1 q = 0 then -1005 else nI (σ.1 q - 1), w') ∧ IV w' (sS σ q 0) k' hs' := by
  have hC := h.1
  have h20 := hC.2.2.2.1 q hq
  by_cases hz : σ.1 q = 0
  · have es : sS σ q 0 = σ := by
      unfold sS sb
      refine Prod.ext (funext fun r => ?_) rfl
      dsimp only
      by_cases e : r = q
      · rw [if_pos e, e, hz]
      · rw [if_neg e]
    refine ⟨w, k, hs, ?_, by rw [es]; exact h⟩
    unfold f_X4_takeOff
    rw [px_sq hq, Option.bind_some]
    try dsimp only
    rw [if_pos (show ¬ (1 : Int32) = 0 by decide), C_manOn hC hq, Option.bind_some]
    try dsimp only
    rw [if_neg (fun h => h ((px_encE _ h20).mpr hz)), if_pos hz]
  · obtain ⟨w2, k', hs', d1, d2, -⟩ := D_rec h
    obtain ⟨w3, e1, e2, e3⟩ := C_place d2.1 hq (x := 0) (by omega) (fun s _ h => by omega)
    refine ⟨w3, k' + 1, hs', ?_, d2.keep e2 e3.k⟩
    unfold f_X4_takeOff
    rw [px_sq hq, Option.bind_some]
    try dsimp only
    rw [if_pos (show ¬ (1 : Int32) = 0 by decide), C_manOn hC hq, Option.bind_some]
    try dsimp only
    rw [if_pos (show ¬ encM (σ.1 q) = 99 from fun h => hz ((px_encE _ h20).mp h)), d1, Option.bind_some]
    try dsimp only
    rw [show f_X2_place (nI q) 99 w2 = _ from e1, Option.bind_some, if_neg hz, encM_s hz]
theorem D_setHandN (h : IV w σ k hs) {s kd : Nat} (hs2 : s < 2) (h1 : 1 ≤ kd) (h5 : kd ≤ 5) {m : Nat} (hm : m ≤ 4) (he : σ.2.2.1 (5 * s + kd - 1) = nI m) : f_X4_setHand (nI s) (nI kd) (nI m) w = some (-1005, w) := by
  unfold f_X4_setHand
  rw [px_isSide hs2, Option.bind_some]
  try dsimp only
  rw [if_neg (show ¬ (1 : Int32) = 0 by decide), px_isHK h1 h5, Option.bind_some]
  try dsimp only
  rw [if_pos (show ¬ (1 : Int32) = 0 by decide), if_neg (q_nlt (L := 0) (b := 0) rfl (by omega) (by omega)), if_pos (q_le2 (L := 4) (b := 4) rfl hm (by omega)), C_inHand h.1 hs2 h1 h5, Option.bind_some]
  try dsimp only
  rw [if_neg (fun h => h he)]
theorem D_setHand (h : IV w σ k hs) {s kd : Nat} (hs2 : s < 2) (h1 : 1 ≤ kd) (h5 : kd ≤ 5) {m : Nat} (hm : m ≤ 4) (he : ¬ σ.2.2.1 (5 * s + kd - 1) = nI m) : ∃ w' k' hs', f_X4_setHand (nI s) (nI kd) (nI m) w = some (σ.2.2.1 (5 * s + kd - 1), w') ∧ IV w' (sH σ (5 * s + kd - 1) (nI m)) k' hs' := by
  obtain ⟨w2, k', hs', d1, d2, -⟩ := D_rec h
  obtain ⟨w3, e1, e2, e3⟩ := C_setInHand d2.1 hs2 h1 h5 (nI m)
  refine ⟨w3, k' + 1, hs', ?_, d2.keep e2 e3.k⟩
  unfold f_X4_setHand
  rw [px_isSide hs2, Option.bind_some]
  try dsimp only
  rw [if_neg (show ¬ (1 : Int32) = 0 by decide), px_isHK h1 h5, Option.bind_some]
  try dsimp only
  rw [if_pos (show ¬ (1 : Int32) = 0 by decide), if_neg (q_nlt (L := 0) (b := 0) rfl (by omega) (by omega)), if_pos (q_le2 (L := 4) (b := 4) rfl hm (by omega)), C_inHand h.1 hs2 h1 h5, Option.bind_some]
  try dsimp only
  rw [if_pos he, d1, Option.bind_some]
  try dsimp only
  rw [e1, Option.bind_some]
theorem D_setHandO : f_X4_setHand 0 1 5 w = some (-1002, w) := by
  unfold f_X4_setHand
  rw [show f_X4_isSide 0 w = _ from px_isSide (s := 0) (by omega) w, Option.bind_some]
  try dsimp only
  rw [if_neg (show ¬ (1 : Int32) = 0 by decide), show f_X4_isHandKind 1 w = _ from px_isHK (k := 1) (by omega) (by omega) w, Option.bind_some]
  try dsimp only
  rw [if_pos (show ¬ (1 : Int32) = 0 by decide), if_neg (by decide), if_neg (by decide)]
theorem D_setSideN (h : IV w σ k hs) {s : Nat} (hs2 : s < 2) (he : σ.2.1 = s) : f_X4_setSide (nI s) w = some (-1005, w) := by
  unfold f_X4_setSide
  rw [px_isSide hs2, Option.bind_some]
  try dsimp only
  rw [if_pos (show ¬ (1 : Int32) = 0 by decide), C_sideToPlay h.1, Option.bind_some]
  try dsimp only
  rw [if_neg (show ¬ ¬ nI σ.2.1 = nI s from fun h => h (by rw [he]))]
theorem D_setSide (h : IV w σ k hs) {s : Nat} (hs2 : s < 2) (he : ¬ σ.2.1 = s) : ∃ w' k' hs', f_X4_setSide (nI s) w = some (nI (numS (sT σ s)), w') ∧ IV w' (sT σ s) k' hs' := by
  have ht1 := h.1.2.2.2.2
  have hne : ¬ nI σ.2.1 = nI s := fun h => he ((nI_eq (by omega) (by omega)).mp h)
  obtain ⟨w2, k', hs', d1, d2, -⟩ := D_rec h
  obtain ⟨s1, s2⟩ := C_setSide d2.1 (t := s) (by omega)
  obtain ⟨w3, e1, e2, e3, -, -⟩ := C_findPlays s1
  refine ⟨w3, k' + 1, hs', ?_, d2.keep e2 (s2.k.trans e3.k)⟩
  unfold f_X4_setSide
  rw [px_isSide hs2, Option.bind_some]
  try dsimp only
  rw [if_pos (show ¬ (1 : Int32) = 0 by decide), C_sideToPlay h.1, Option.bind_some]
  try dsimp only
  rw [if_pos hne, d1, Option.bind_some]
  try dsimp only
  unfold f_X2_setSideToPlay
  rw [Option.bind_some]
  try dsimp only
  rw [e1, Option.bind_some]
/-- whether a king of man m's side stands elsewhere -/
theorem D_putK (h : IV w σ k hs) {q m : Nat} (hq : q < 25) (hm : m < 20) (h0 : m % 10 = 0) (hk : ¬ (kgI σ.1 (m / 10) = -1 ∨ kgI σ.1 (m / 10) = nI q)) : f_X4_put (nI q) (nI m) w = some (-1004, w) := by
  obtain ⟨en, hs2⟩ := px_enc1 m hm
  have tm4 : f_X4_isMan (nI m) w = some (1, w) := by rw [t4_man, if_pos ⟨nI_le (by omega) (by omega), nI_le (by omega) (by omega)⟩]
  have kd : nI m - nI m / 10 * 10 = nI (m % 10) := px_r10 (by omega)
  have sd : nI m / 10 = nI (m / 10) := px_d10 (by omega)
  unfold f_X4_put
  rw [px_sq hq, Option.bind_some]
  try dsimp only
  rw [if_neg (show ¬ (1 : Int32) = 0 by decide), tm4, Option.bind_some]
  try dsimp only
  rw [if_pos (show ¬ (1 : Int32) = 0 by decide)]
  unfold f_X4_sideOf
  rw [Option.bind_some]
  try dsimp only
  rw [sd, C_kingOf h.1 hs2, Option.bind_some]
  try dsimp only
  unfold f_X4_kindOf
  rw [Option.bind_some]
  try dsimp only
  rw [kd, if_neg (show ¬ ¬ nI (m % 10) = 0 by rw [h0]; exact fun h => h rfl), if_neg (fun h => hk (Or.inl h)), if_neg (fun h => hk (Or.inr h))]
theorem D_put51 (h : IV w σ k hs) {q m : Nat} (hq : q < 25) (hm : m < 20) (hking : m % 10 = 0 → ∀ r, r < 25 → r ≠ q → σ.1 r ≠ 10 * (m / 10) + 1) : ∃ w' k' hs', f_X4_put_51 (nI q) (nI m) w = some (if σ.1 q = m + 1 then -1005 else nI (brd (sS σ q (m + 1)).1 25), w') ∧ IV w' (sS σ q (m + 1)) k' hs' := by
  have hC := h.1
  have h20 := hC.2.2.2.1 q hq
  obtain ⟨en, hs2⟩ := px_enc1 m hm
  unfold f_X4_put_51
  rw [C_manOn hC hq, Option.bind_some]
  try dsimp only
  by_cases he : σ.1 q = m + 1
  · have es : sS σ q (m + 1) = σ := by
      unfold sS sb
      refine Prod.ext (funext fun r => ?_) rfl
      dsimp only
      by_cases e : r = q
      · rw [if_pos e, e, he]
      · rw [if_neg e]
    refine ⟨w, k, hs, ?_, by rw [es]; exact h⟩
    rw [if_neg (show ¬ ¬ encM (σ.1 q) = nI m by rw [he, en]; exact fun h => h rfl), if_pos he]
  · obtain ⟨w2, k', hs', d1, d2, -⟩ := D_rec h
    obtain ⟨w3, e1, e2, e3⟩ := C_place d2.1 hq (x := m + 1) (by omega) (fun s hs hx r hr hrq => by
      obtain ⟨k1, k2⟩ := knd_king hx hs
      rw [← k2]; exact hking k1 r hr hrq)
    refine ⟨w3, k' + 1, hs', ?_, d2.keep e2 e3.k⟩
    rw [if_pos (show ¬ encM (σ.1 q) = nI m by rw [en]; exact fun h => he ((encM_inj _ h20 _ (by omega)).mp h)), d1, Option.bind_some]
    try dsimp only
    rw [en, e1, Option.bind_some]
    try dsimp only
    rw [C_menOnBoard e2, Option.bind_some, if_neg he]
theorem D_put (h : IV w σ k hs) {q m : Nat} (hq : q < 25) (hm : m < 20) (hk : m % 10 = 0 → kgI σ.1 (m / 10) = -1 ∨ kgI σ.1 (m / 10) = nI q) : ∃ w' k' hs', f_X4_put (nI q) (nI m) w = some (if σ.1 q = m + 1 then -1005 else nI (brd (sS σ q (m + 1)).1 25), w') ∧ IV w' (sS σ q (m + 1)) k' hs' := by
  obtain ⟨en, hs2⟩ := px_enc1 m hm
  have tm4 : f_X4_isMan (nI m) w = some (1, w) := by rw [t4_man, if_pos ⟨nI_le (by omega) (by omega), nI_le (by omega) (by omega)⟩]
  have kd : nI m - nI m / 10 * 10 = nI (m % 10) := px_r10 (by omega)
  have sd : nI m / 10 = nI (m / 10) := px_d10 (by omega)
  obtain ⟨w', k', hs', e1, e2⟩ := D_put51 h hq hm (fun h0 r hr hrq hb => by
    have ha := (king_else (b := σ.1) h.1.2.2.1 hs2 hq).mp (hk h0)
    rw [List.any_eq_false] at ha
    have := ha r (List.mem_range.mpr hr)
    simp [hrq, hb] at this)
  refine ⟨w', k', hs', ?_, e2⟩
  unfold f_X4_put
  rw [px_sq hq, Option.bind_some]
  try dsimp only
  rw [if_neg (show ¬ (1 : Int32) = 0 by decide), tm4, Option.bind_some]
  try dsimp only
  rw [if_pos (show ¬ (1 : Int32) = 0 by decide)]
  unfold f_X4_sideOf
  rw [Option.bind_some]
  try dsimp only
  rw [sd, C_kingOf h.1 hs2, Option.bind_some]
  try dsimp only
  unfold f_X4_kindOf
  rw [Option.bind_some]
  try dsimp only
  rw [kd]
  by_cases hk0 : m % 10 = 0
  · rw [if_neg (show ¬ ¬ nI (m % 10) = 0 by rw [hk0]; exact fun h => h rfl)]
    rcases hk hk0 with h | h
    · rw [if_pos h]; exact e1
    · by_cases h1 : kgI σ.1 (m / 10) = -1
      · rw [if_pos h1]; exact e1
      · rw [if_neg h1, if_pos h]; exact e1
  · rw [if_pos (show ¬ nI (m % 10) = 0 from nI_ne0 (by omega) (by omega))]
    exact e1
theorem D_put20 : f_X4_put 0 20 w = some (-1001, w) := by
  unfold f_X4_put
  rw [show f_X4_isSquare 0 w = _ from px_sq (q := 0) (by omega) w, Option.bind_some]
  try dsimp only
  rw [if_neg (show ¬ (1 : Int32) = 0 by decide), t4_man, if_neg (by decide), Option.bind_some]
  try dsimp only
  rw [if_neg (fun h => h rfl)]
end DL
