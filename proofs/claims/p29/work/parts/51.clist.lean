/-! the class's list of plays, and that there is room for it -/
theorem numN_mono {f g : Nat → Bool} : ∀ n, (∀ t, t < n → f t = true → g t = true) → numN f n ≤ numN g n
  | 0, _ => Nat.le_refl _
  | n + 1, h => by
    have ih := numN_mono n (fun t ht => h t (by omega))
    rw [numN, numN]
    by_cases e : f n = true
    · rw [if_pos e, if_pos (h n (by omega) e)]; omega
    · rw [if_neg e]; omega
theorem numN_mono_n (f : Nat → Bool) : ∀ k m, numN f m ≤ numN f (m + k)
  | 0, _ => Nat.le_refl _
  | k + 1, m => by
    have := numN_mono_n f k m
    rw [← Nat.add_assoc, numN]
    omega
theorem hitL_mono {b : Nat → Nat} {m t : Nat} : ∀ (l : List Nat) (far : Nat), hitL b m far l t = true → hitL (fun _ => 0) m far l t = true
  | [], _, h => by cases h
  | y :: ys, far, h => by
    rw [hitL] at h ⊢
    simp only [Bool.and_eq_true, Bool.or_eq_true, decide_eq_true_eq] at h ⊢
    refine ⟨h.1, ?_⟩
    rcases h.2 with e | e
    · exact Or.inl e
    · exact Or.inr ⟨trivial, hitL_mono ys (far + 1) e.2⟩
theorem att_mono {b : Nat → Nat} {x q t : Nat} (h : att b x q t = true) : att (fun _ => 0) x q t = true := by
  unfold att at h ⊢
  rw [List.any_eq_true] at h ⊢
  obtain ⟨w, hw, h⟩ := h
  exact ⟨w, hw, hitL_mono _ _ h⟩
theorem att_room : ∀ q, q < 25 → ∀ x, x ≤ 20 → numN (att (fun _ => 0) x q) 25 ≤ if 2 ≤ knd x ∧ knd x ≤ 5 then 8 else 16 := by decide +kernel
theorem blk_room {σ : PS} (hO : OKs σ) {f : Nat} (hf : f < 25) : blk σ f + blk σ (25 + f) ≤ 16 := by
  have hr := att_room f hf (σ.1 f) (hO.1 f hf)
  have h1 : blk σ f ≤ numN (att (fun _ => 0) (σ.1 f) f) 25 := by
    unfold blk
    refine numN_mono 25 (fun t ht h => ?_)
    rw [bF_pl hO hf ht] at h
    unfold safeT at h
    simp only [Bool.and_eq_true] at h
    exact att_mono h.1.2.2.1
  have h2 : blk σ (25 + f) ≤ numN (att (fun _ => 0) (σ.1 f) f) 25 := by
    unfold blk
    refine numN_mono 25 (fun t ht h => ?_)
    rw [bF_pr hO hf ht] at h
    unfold safeT at h
    simp only [Bool.and_eq_true] at h
    exact att_mono h.1.2.2.1
  by_cases hk : 2 ≤ knd (σ.1 f) ∧ knd (σ.1 f) ≤ 5
  · rw [if_pos hk] at hr; omega
  · rw [if_neg hk] at hr
    have h3 : blk σ (25 + f) ≤ numN (fun _ => false) 25 := by
      unfold blk
      refine numN_mono 25 (fun t ht h => ?_)
      rw [bF_pr hO hf ht] at h
      unfold prm at h
      simp only [Bool.and_eq_true, decide_eq_true_eq] at h
      exact absurd h.2.2.1 hk
    have h4 : numN (fun _ => false) 25 = 0 := by decide
    omega
theorem sum_room {σ : PS} (hO : OKs σ) : ∀ n, n ≤ 25 → sumB σ 0 n + sumB σ 25 n ≤ 16 * n
  | 0, _ => Nat.le_refl _
  | n + 1, h => by
    have := sum_room hO n (by omega)
    have := blk_room hO (f := n) (by omega)
    rw [sumB, sumB, Nat.zero_add]
    omega
theorem sum_room2 {σ : PS} (lo : Nat) : ∀ n, sumB σ lo n ≤ 25 * n
  | 0 => Nat.le_refl _
  | n + 1 => by
    have := sum_room2 (σ := σ) lo n
    have : blk σ (lo + n) ≤ 25 := numN_le _ 25
    rw [sumB]
    omega
theorem numS_room {σ : PS} (hO : OKs σ) : numS σ ≤ 525 := by
  have h1 := sum_room hO 25 (by omega)
  have h2 := sum_room2 (σ := σ) 50 5
  rw [numS_sum]
  omega
def tld (c : Nat) : Nat := if c < 1250 then mpN (c % 625 / 25) (c % 25) (decide (625 ≤ c)) else dpN ((c - 1250) / 25 + 1) (c % 25)
theorem tld_blk : ∀ m, m < 55 → ∀ t, t < 25 → tld (25 * m + t) = tld (25 * m) + t := by decide +kernel
theorem tld_lt {c : Nat} (h : c < 1375) : tld c < 21000 := by
  unfold tld mpN dpN
  split
  · split <;> omega
  · omega
/-- what the listing leaves alone -/
def FL (w w' : mvW) : Prop := (∀ c, c ≠ 4 → c ≠ 8 → w' c = w c) ∧ ∀ i, i ≠ 5 → w' 4 i = w 4 i
theorem FL.refl (w : mvW) : FL w w := ⟨fun _ _ _ => rfl, fun _ _ => rfl⟩
theorem FL.trans {a b c : mvW} (h1 : FL a b) (h2 : FL b c) : FL a c := ⟨fun k h hh => (h2.1 k h hh).trans (h1.1 k h hh), fun i hi => (h2.2 i hi).trans (h1.2 i hi)⟩
theorem FL.up (w : mvW) (i : Nat) (x y : Int32) : FL w (mv_up (mv_up w 8 i x) 4 5 y) := by
  refine ⟨fun c h4 h8 => ?_, fun j hj => ?_⟩
  · funext j; rw [rdn _ 4 5 j c y h4, rdn _ 8 i j c x h8]
  · rw [rds, if_neg hj, rdn _ 8 i j 4 x (by decide)]
theorem CI.fl {w w' : mvW} {σ : PS} (h : CI w σ) (hf : FL w w') : CI w' σ := by
  obtain ⟨a, b, c, d⟩ := h
  refine ⟨?_, ?_, c, d⟩
  · rw [hf.1 2 (by decide) (by decide)]; exact a
  · intro q e hq he; rw [hf.1 3 (by decide) (by decide)]; exact b q e hq he
def LstI (w : mvW) (σ : PS) (n : Nat) : Prop := w 4 5 = nI (numN (alw σ) n) ∧ ∀ c, c < n → alw σ c = true → w 8 (numN (alw σ) c) = nI (tld c)
theorem LstI.step {w : mvW} {σ : PS} {n : Nat} (h : LstI w σ n) (hn : n < 1375) (hr : numS σ ≤ 525) (ha : alw σ n = true) : numN (alw σ) n < 525 ∧ LstI (mv_up (mv_up w 8 (numN (alw σ) n) (nI (tld n))) 4 5 (nI (numN (alw σ) n + 1))) σ (n + 1) := by
  have e : numN (alw σ) (n + 1) = numN (alw σ) n + 1 := by rw [numN, if_pos ha]
  have hl : numN (alw σ) n < 525 := by
    have := numN_mono_n (alw σ) (1375 - (n + 1)) (n + 1)
    rw [show n + 1 + (1375 - (n + 1)) = 1375 by omega] at this
    have h2 : numN (alw σ) 1375 = numS σ := rfl
    omega
  refine ⟨hl, ?_, fun c hc hca => ?_⟩
  · rw [rds, if_pos rfl, e]
  · rw [rdn _ 4 5 _ 8 _ (by decide), rds]
    by_cases hcn : c = n
    · subst hcn; rw [if_pos rfl]
    · rw [if_neg]
      · exact h.2 c (by omega) hca
      · have h3 := numN_mono_n (alw σ) (n - (c + 1)) (c + 1)
        rw [show c + 1 + (n - (c + 1)) = n by omega, numN, if_pos hca] at h3
        omega
theorem LstI.skip {w : mvW} {σ : PS} {n : Nat} (h : LstI w σ n) (ha : alw σ n = false) : LstI w σ (n + 1) := by
  have e : numN (alw σ) (n + 1) = numN (alw σ) n := by rw [numN, if_neg (by rw [ha]; decide)]; rfl
  refine ⟨by rw [e]; exact h.1, fun c hc hca => ?_⟩
  by_cases hcn : c = n
  · subst hcn; rw [ha] at hca; cases hca
  · exact h.2 c (by omega) hca
theorem C_addPlays {w : mvW} {σ : PS} {m : Nat} (hm : m < 55) (hr : numS σ ≤ 525) (hL : LstI w σ (25 * m)) : ∃ w', f_X3_addPlays (msk (bF σ m)) (nI (tld (25 * m))) w = some w' ∧ FL w w' ∧ LstI w' σ (25 * (m + 1)) := by
  have loop : ∀ k t N u, t + k = 25 → k + 1 ≤ N → FL w u → LstI u σ (25 * m + t) → ∃ w', f_X3_addPlays_2 N (msk (bF σ m)) (nI (tld (25 * m))) (nI t) u = some w' ∧ FL w w' ∧ LstI w' σ (25 * (m + 1)) := by
    intro k
    induction k with
    | zero =>
      intro t N u hk hN hf hl
      obtain ⟨n, rfl⟩ : ∃ n, N = n + 1 := ⟨N - 1, by omega⟩
      have : t = 25 := by omega
      subst this
      exact ⟨u, by rw [f_X3_addPlays_2, if_pos (by decide)], hf, hl⟩
    | succ k ih =>
      intro t N u hk hN hf hl
      obtain ⟨n, rfl⟩ : ∃ n, N = n + 1 := ⟨N - 1, by omega⟩
      have ht : t < 25 := by omega
      rw [f_X3_addPlays_2, if_neg (q_nle (L := 25) (b := 25) rfl ht (by omega)), C_has _ ht, Option.bind_some, msk_bit _ ht, nI_1]
      dsimp only
      cases hb : bF σ m t with
      | false =>
        rw [if_pos (show (if false = true then (1 : Int32) else 0) = 0 from rfl)]
        exact ih (t + 1) n u (by omega) (by omega) hf (hl.skip hb)
      | true =>
        obtain ⟨s1, s2⟩ := hl.step (by omega) hr hb
        have hle : numN (alw σ) (25 * m + t) < 2 ^ 30 := by omega
        rw [if_neg (show ¬ (if true = true then (1 : Int32) else 0) = 0 by decide), if_neg (show ¬ u 4 5 < 0 by rw [hl.1]; exact q_nlt (L := 0) (b := 0) rfl (by omega) (by omega)), if_neg (show ¬ 525 ≤ u 4 5 by rw [hl.1]; exact q_nle (L := 525) (b := 525) rfl s1 (by omega)), show mv_ix 525 (u 4 5) = some (numN (alw σ) (25 * m + t)) by rw [hl.1]; exact px_ix s1 (by decide), Option.bind_some, nI_add, ← tld_blk m hm t ht, rdn _ 8 _ 5 4 _ (by decide), hl.1, nI_1]
        exact ih (t + 1) n _ (by omega) (by omega) (hf.trans (FL.up _ _ _ _)) s2
  have r := loop 25 0 4096 w (by omega) (by omega) (FL.refl w) hL
  exact r
theorem FndM.fl {w w' : mvW} {σ : PS} {n : Nat} (h : FndM w σ n) (hf : FL w w') : FndM w' σ n := fun i hi => by
  rw [hf.1 5 (by decide) (by decide), hf.1 6 (by decide) (by decide)]; exact h i hi
theorem FndD.fl {w w' : mvW} {σ : PS} {n : Nat} (h : FndD w σ n) (hf : FL w w') : FndD w' σ n := fun i h1 hi => by
  rw [hf.1 7 (by decide) (by decide)]; exact h i h1 hi
theorem C_list67 {w0 : mvW} {σ : PS} (hr : numS σ ≤ 525) : ∀ (j k N : Nat) (u : mvW), k + j = 6 → 1 ≤ k → j + 1 ≤ N → FL w0 u → FndD u σ 6 → LstI u σ (25 * (49 + k)) → ∃ w', f_X3_listPlays_67 N (nI k) u = some (nI (numS σ), w') ∧ FL w0 w' ∧ LstI w' σ 1375 := by
  intro j
  induction j with
  | zero =>
    intro k N u hk h1 hN hf hd hl
    obtain ⟨n, rfl⟩ : ∃ n, N = n + 1 := ⟨N - 1, by omega⟩
    have : k = 6 := by omega
    subst this
    exact ⟨u, by rw [f_X3_listPlays_67, if_pos (by decide), hl.1]; rfl, hf, hl⟩
  | succ j ih =>
    intro k N u hk h1 hN hf hd hl
    obtain ⟨n, rfl⟩ : ∃ n, N = n + 1 := ⟨N - 1, by omega⟩
    have k5 : k ≤ 5 := by omega
    obtain ⟨w1, a1, a2, a3⟩ := C_addPlays (m := 49 + k) (by omega) hr hl
    have e0 := C_dropNumber k 0 u
    have et : dpN k 0 = tld (25 * (49 + k)) := by
      unfold tld
      rw [if_neg (by omega), show (25 * (49 + k) - 1250) / 25 + 1 = k by omega, show 25 * (49 + k) % 25 = 0 by omega]
    rw [et] at e0
    rw [f_X3_listPlays_67, if_neg (show ¬ (5 : Int32) < nI k from nI_nlt k5 (by decide)), px_ix (n := 6) (by omega) (by decide), Option.bind_some]
    rw [show (0 : Int32) = nI 0 from rfl, e0, Option.bind_some, hd k h1 (by omega)]
    dsimp only
    rw [a1, Option.bind_some, nI_1]
    exact ih (k + 1) n w1 (by omega) (by omega) (by omega) (hf.trans a2) (hd.fl a2) a3
theorem C_list37 {w0 : mvW} {σ : PS} (hr : numS σ ≤ 525) : ∀ (j k N : Nat) (u : mvW), k + j = 25 → j + 1 ≤ N → FL w0 u → FndM u σ 25 → FndD u σ 6 → LstI u σ (25 * (25 + k)) → ∃ w', f_X3_listPlays_37 N (nI k) u = some (nI (numS σ), w') ∧ FL w0 w' ∧ LstI w' σ 1375 := by
  intro j
  induction j with
  | zero =>
    intro k N u hk hN hf hm hd hl
    obtain ⟨n, rfl⟩ : ∃ n, N = n + 1 := ⟨N - 1, by omega⟩
    have : k = 25 := by omega
    subst this
    rw [f_X3_listPlays_37, if_pos (by decide)]
    exact C_list67 hr 5 1 4096 u (by omega) (by omega) (by omega) hf hd hl
  | succ j ih =>
    intro k N u hk hN hf hm hd hl
    obtain ⟨n, rfl⟩ : ∃ n, N = n + 1 := ⟨N - 1, by omega⟩
    have k5 : k < 25 := by omega
    obtain ⟨w1, a1, a2, a3⟩ := C_addPlays (m := 25 + k) (by omega) hr hl
    have e0 := C_moveNumber k 0 true (a3 := 1) (by decide) u
    have et : mpN k 0 true = tld (25 * (25 + k)) := by
      unfold tld
      rw [if_pos (by omega), show 25 * (25 + k) % 625 / 25 = k by omega, show 25 * (25 + k) % 25 = 0 by omega, decide_eq_true (by omega : 625 ≤ 25 * (25 + k))]
    rw [et] at e0
    rw [f_X3_listPlays_37, if_neg (q_nle (L := 25) (b := 25) rfl k5 (by omega)), px_ix k5 (by decide), Option.bind_some]
    rw [show (0 : Int32) = nI 0 from rfl, e0, Option.bind_some, (hm k k5).2]
    dsimp only
    rw [a1, Option.bind_some, nI_1]
    exact ih (k + 1) n w1 (by omega) (by omega) (hf.trans a2) (hm.fl a2) (hd.fl a2) a3
theorem C_list7 {w0 : mvW} {σ : PS} (hr : numS σ ≤ 525) : ∀ (j k N : Nat) (u : mvW), k + j = 25 → j + 1 ≤ N → FL w0 u → FndM u σ 25 → FndD u σ 6 → LstI u σ (25 * k) → ∃ w', f_X3_listPlays_7 N (nI k) u = some (nI (numS σ), w') ∧ FL w0 w' ∧ LstI w' σ 1375 := by
  intro j
  induction j with
  | zero =>
    intro k N u hk hN hf hm hd hl
    obtain ⟨n, rfl⟩ : ∃ n, N = n + 1 := ⟨N - 1, by omega⟩
    have : k = 25 := by omega
    subst this
    rw [f_X3_listPlays_7, if_pos (by decide)]
    exact C_list37 hr 25 0 4096 u (by omega) (by omega) hf hm hd hl
  | succ j ih =>
    intro k N u hk hN hf hm hd hl
    obtain ⟨n, rfl⟩ : ∃ n, N = n + 1 := ⟨N - 1, by omega⟩
    have k5 : k < 25 := by omega
    obtain ⟨w1, a1, a2, a3⟩ := C_addPlays (m := k) (by omega) hr hl
    have e0 := C_moveNumber k 0 false (a3 := 0) (by decide) u
    have et : mpN k 0 false = tld (25 * k) := by
      unfold tld
      rw [if_pos (by omega), show 25 * k % 625 / 25 = k by omega, show 25 * k % 25 = 0 by omega, decide_eq_false (by omega : ¬ 625 ≤ 25 * k)]
    rw [et] at e0
    rw [f_X3_listPlays_7, if_neg (q_nle (L := 25) (b := 25) rfl k5 (by omega)), px_ix k5 (by decide), Option.bind_some]
    rw [show f_X4_moveNumber (nI k) 0 0 u = _ from e0, Option.bind_some, (hm k k5).1]
    dsimp only
    rw [a1, Option.bind_some, nI_1]
    exact ih (k + 1) n w1 (by omega) (by omega) (hf.trans a2) (hm.fl a2) (hd.fl a2) a3
theorem C_listPlays {w : mvW} {σ : PS} (hC : CI w σ) (hm : FndM w σ 25) (hd : FndD w σ 6) : ∃ w', f_X3_listPlays w = some (nI (numS σ), w') ∧ CI w' σ ∧ FL w w' ∧ LstI w' σ 1375 := by
  have hr := numS_room hC.2.2.2
  have hf : FL w (mv_up w 4 5 0) := by
    refine ⟨fun c h4 _ => ?_, fun j hj => ?_⟩
    · funext j; rw [rdn _ 4 5 j c _ h4]
    · rw [rds, if_neg hj]
  have hl : LstI (mv_up w 4 5 0) σ (25 * 0) := ⟨by rw [rds, if_pos rfl]; rfl, fun c hc => absurd hc (Nat.not_lt_zero c)⟩
  obtain ⟨w1, a1, a2, a3⟩ := C_list7 (w0 := w) hr 25 0 4096 (mv_up w 4 5 0) (by omega) (by omega) hf (hm.fl hf) (hd.fl hf) hl
  exact ⟨w1, a1, hC.fl a2, a2, a3⟩
theorem C_listed {w : mvW} {σ : PS} (hl : LstI w σ 1375) {c : Nat} (hc : c < 1375) (ha : alw σ c = true) (hr : numS σ ≤ 525) : f_X3_listed (nI (numN (alw σ) c)) w = some (nI (tld c), w) := by
  have h3 := numN_mono_n (alw σ) (1375 - (c + 1)) (c + 1)
  rw [show c + 1 + (1375 - (c + 1)) = 1375 by omega, numN, if_pos ha] at h3
  have h2 : numN (alw σ) 1375 = numS σ := rfl
  unfold f_X3_listed
  rw [if_neg (q_nlt (L := 0) (b := 0) rfl (by omega) (by omega)), if_neg (show ¬ w 4 5 ≤ nI (numN (alw σ) c) by rw [hl.1]; exact nI_ge (by omega) (by omega)), if_neg (q_nle (L := 525) (b := 525) rfl (by omega) (by omega)), px_ix (by omega) (by decide), Option.bind_some, hl.2 c hc ha]
theorem numN_rank {f : Nat → Bool} {r : Nat} : ∀ n, r < numN f n → ∃ c, c < n ∧ f c = true ∧ numN f c = r
  | 0, h => absurd h (Nat.not_lt_zero r)
  | n + 1, h => by
    by_cases h2 : r < numN f n
    · obtain ⟨c, a, b, d⟩ := numN_rank n h2
      exact ⟨c, by omega, b, d⟩
    · rw [numN] at h
      by_cases e : f n = true
      · rw [if_pos e] at h; exact ⟨n, by omega, e, by omega⟩
      · rw [if_neg e] at h; exact absurd h h2
