theorem C_takeBackM {w : mvW} {σ : PS} {f to : Nat} {pr : Bool} (hO : OKs σ) (hU : KU σ.1) (hC : CI w (apM σ f to pr)) (hf : f < 25) (ht : to < 25) (h0 : wnmS σ.1 σ.2.1 f to pr = 0) : ∃ w', f_X2_takeBack (nI (mpN f to pr)) (encM (σ.1 to)) w = some w' ∧ CI w' σ ∧ FC w w' := by
  obtain ⟨g1, g2, g3, g4, g5⟩ := wnmS_0 h0
  obtain ⟨o1, o2⟩ := own_of g1
  have hne := att_ne hf g2
  have ht1 : σ.2.1 ≤ 1 := hO.2
  have hf20 := hO.1 f hf
  have ht20 := hO.1 to ht
  obtain ⟨m1, m2, m3, m4⟩ := mpN_eq hf ht pr
  have es : (1 : Int32) - nI (apM σ f to pr).2.1 = nI σ.2.1 := by
    show (1 : Int32) - nI (1 - σ.2.1) = _
    rw [show (1 : Int32) - nI (1 - σ.2.1) = nI (1 - (1 - σ.2.1)) from pk_sub (a := 1) (by omega), show 1 - (1 - σ.2.1) = σ.2.1 by omega]
  unfold f_X2_takeBack
  rw [C_sideToPlay hC, Option.bind_some]
  unfold f_X2_setSideToPlay
  rw [Option.bind_some]
  dsimp only
  rw [es, if_pos (q_lt (L := 20000) (b := 20000) rfl m1 (by omega)), px_r10000 (by omega), px_r100 (by omega), px_d100 (by omega), m2, m3]
  obtain ⟨a1, a2⟩ := C_setSide hC (t := σ.2.1) ht1
  have nk : ∀ s, s < 2 → σ.1 to ≠ 10 * s + 1 := by
    intro s hs e
    exact g4 (by omega) (by rw [e]; unfold knd; omega)
  have vto : (sT (apM σ f to pr) σ.2.1).1 to = σ.1 f + (if pr = true then 4 else 0) := by
    show (if to = f then 0 else if to = to then σ.1 f + (if pr = true then 4 else 0) else σ.1 to) = _
    rw [if_neg hne, if_pos rfl]
  rw [C_manOn a1 ht, Option.bind_some, vto]
  dsimp only
  obtain ⟨w2, b1, b2, b3⟩ := C_place a1 (q := to) (x := σ.1 to) ht ht20 (fun s hs e => absurd e (nk s hs))
  rw [b1, Option.bind_some]
  obtain ⟨w3, c1, c2, c3⟩ := C_place b2 (q := f) (x := σ.1 f) hf hf20 (fun s hs e r hr hrn hh => by
    have hh' : (if r = to then σ.1 to else if r = f then 0 else if r = to then σ.1 f + (if pr = true then 4 else 0) else σ.1 r) = 10 * s + 1 := hh
    by_cases er : r = to
    · rw [if_pos er] at hh'; exact nk s hs hh'
    · rw [if_neg er, if_neg hrn, if_neg er] at hh'; exact hrn (hU s hs r f hr hf hh' e))
  obtain ⟨w4, d1, d2, d3⟩ := C_change c2 (s := σ.2.1) (x := σ.1 to) (by omega) ht20 g4 (-1)
  have e : (if σ.1 to = 0 then sS (sS (sT (apM σ f to pr) σ.2.1) to (σ.1 to)) f (σ.1 f) else sH (sS (sS (sT (apM σ f to pr) σ.2.1) to (σ.1 to)) f (σ.1 f)) (5 * σ.2.1 + pkd (σ.1 to) - 1) ((sS (sS (sT (apM σ f to pr) σ.2.1) to (σ.1 to)) f (σ.1 f)).2.2.1 (5 * σ.2.1 + pkd (σ.1 to) - 1) + -1)) = σ := by
    have hb : (sS (sS (sT (apM σ f to pr) σ.2.1) to (σ.1 to)) f (σ.1 f)).1 = σ.1 := by
      funext r
      show (if r = f then σ.1 f else if r = to then σ.1 to else if r = f then 0 else if r = to then σ.1 f + (if pr = true then 4 else 0) else σ.1 r) = σ.1 r
      by_cases e1 : r = f
      · rw [if_pos e1, e1]
      · by_cases e2 : r = to
        · rw [if_neg e1, if_pos e2, e2]
        · rw [if_neg e1, if_neg e2, if_neg e1, if_neg e2]
    by_cases hz : σ.1 to = 0
    · rw [if_pos hz]
      refine Prod.ext hb ?_
      show (σ.2.1, (mkM σ f to pr).2.2.1, σ.2.2.2) = σ.2
      unfold mkM
      dsimp only
      rw [if_pos hz]
    · rw [if_neg hz]
      refine Prod.ext hb ?_
      show (σ.2.1, upd (mkM σ f to pr).2.2.1 (5 * σ.2.1 + pkd (σ.1 to) - 1) ((mkM σ f to pr).2.2.1 (5 * σ.2.1 + pkd (σ.1 to) - 1) + -1), σ.2.2.2) = σ.2
      unfold mkM
      dsimp only
      rw [if_neg hz]
      have : ∀ (h : Nat → Int32) (i : Nat), upd (upd h i (h i + 1)) i (upd h i (h i + 1) i + -1) = h := by
        intro h i
        funext j
        by_cases e : j = i
        · subst e; simp only [upd, if_pos rfl]
          rw [if_pos trivial, if_pos trivial, Int32.add_assoc, show (1 : Int32) + -1 = 0 from rfl, Int32.add_zero]
        · simp [upd, e]
      rw [this]
  rw [e] at d2
  cases pr
  · rw [if_pos (q_lt (L := 10000) (b := 10000) rfl (m4.mpr rfl) (by omega)), if_neg (show ¬ (false = true) by decide), Nat.add_zero, c1, Option.bind_some, d1, Option.bind_some]
    exact ⟨w4, rfl, d2, a2.trans (b3.trans (c3.trans d3))⟩
  · have : ¬ mpN f to true < 10000 := fun h => by have := m4.mp h; cases this
    have hk := g5 rfl
    rw [if_neg (q_nlt (L := 10000) (b := 10000) rfl (by omega) (by omega)), if_pos (show true = true from rfl), (encM_4 (σ.1 f) (by unfold knd at hk; omega) o1).2, c1, Option.bind_some, d1, Option.bind_some]
    exact ⟨w4, rfl, d2, a2.trans (b3.trans (c3.trans d3))⟩
/-! drops that are open -/
def opn (σ : PS) (kd : Nat) (g : Nat → Bool) (t : Nat) : Bool := decide (σ.2.2.1 (5 * σ.2.1 + kd - 1) ≠ 0) && (g t && (!decide (kd = 5) || (!isLast σ.2.1 t && !hasPw σ.1 σ.2.1 (t % 5))))
theorem C_openToDrops {w : mvW} {σ : PS} (hC : CI w σ) {kd : Nat} (h1 : 1 ≤ kd) (h5 : kd ≤ 5) (g : Nat → Bool) : f_X3_openToDrops (nI kd) (msk g) w = some (msk (opn σ kd g), w) := by
  have ht1 : σ.2.1 ≤ 1 := hC.2.2.2.2
  unfold f_X3_openToDrops
  rw [C_sideToPlay hC, Option.bind_some]
  dsimp only
  rw [C_inHand hC (by omega) h1 h5, Option.bind_some]
  dsimp only
  by_cases hh : σ.2.2.1 (5 * σ.2.1 + kd - 1) = 0
  · rw [if_neg (fun h => h hh), show msk (opn σ kd g) = 0 from msk_0.mpr (fun t _ => by simp [opn, hh])]
  · rw [if_pos hh]
    by_cases k5 : kd = 5
    · rw [if_neg (fun h => h (by rw [k5]; rfl)), C_lastRow (by omega), Option.bind_some]
      dsimp only
      rw [C_pawnColumns hC (by omega), Option.bind_some]
      dsimp only
      have hh' : ¬ σ.2.2.1 (5 * σ.2.1 + 4) = 0 := by simpa [k5] using hh
      rw [msk_andn, msk_andn, msk_cong (fun t _ => show _ = opn σ kd g t by simp [opn, hh', k5, Bool.and_assoc])]
    · rw [if_pos (q_ne (L := 5) (b := 5) rfl (by omega) (by omega) k5), msk_cong (fun t _ => show _ = opn σ kd g t by simp [opn, hh, k5])]
/-- whether the side to play has a play, in the words of the tries -/
def hasT (σ : PS) : Bool := (List.range 25).any (fun f => isOwn σ.1 σ.2.1 f && (List.range 25).any (fun to => safeT σ.1 f to)) || (List.range 6).any (fun kd => decide (1 ≤ kd) && (List.range 25).any (fun to => opn σ kd (safeD σ.1 σ.2.1) to))
theorem msk_ne0 {f : Nat → Bool} : (msk f = 0) = ((List.range 25).any f = false) := by
  apply propext
  rw [msk_0]
  constructor
  · intro h; rw [List.any_eq_false]; intro t ht; rw [h t (List.mem_range.mp ht)]; decide
  · intro h t ht
    have := List.any_eq_false.mp h t (List.mem_range.mpr ht)
    simpa using this
def anyU (f : Nat → Bool) : Nat → Nat → Bool
  | 0, _ => false
  | n + 1, q => f q || anyU f n (q + 1)
theorem anyU_range (f : Nat → Bool) : ∀ n q, anyU f n q = (List.range n).any (fun k => f (q + k))
  | 0, _ => rfl
  | n + 1, q => by
    rw [anyU, anyU_range f n (q + 1), List.range_succ_eq_map, List.any_cons, List.any_map]
    congr 1
    exact congrArg (fun p => (List.range n).any p) (funext fun k => by
      show f (q + 1 + k) = f (q + (k + 1))
      rw [show q + 1 + k = q + (k + 1) by omega])
theorem C_canReply {w : mvW} {σ : PS} (hC : CI w σ) : ∃ w', f_X3_canReply w = some (if hasT σ = true then 1 else 0, w') ∧ CI w' σ ∧ FC w w' := by
  have ht1 : σ.2.1 ≤ 1 := hC.2.2.2.2
  unfold f_X3_canReply
  rw [C_sideToPlay hC, Option.bind_some]
  dsimp only
  -- drops
  have dl : ∀ k kd N u, kd + k = 6 → 1 ≤ kd → k + 1 ≤ N → CI u σ → FC w u → ∃ w', f_X3_canReply_54 N (msk (safeD σ.1 σ.2.1)) (nI kd) u = some (if anyU (fun kd => (List.range 25).any (fun to => opn σ kd (safeD σ.1 σ.2.1) to)) k kd = true then 1 else 0, w') ∧ CI w' σ ∧ FC w w' := by
    intro k
    induction k with
    | zero =>
      intro kd N u hk h1 hN hu hf
      obtain ⟨n, rfl⟩ : ∃ n, N = n + 1 := ⟨N - 1, by omega⟩
      have : kd = 6 := by omega
      subst this
      exact ⟨u, by rw [f_X3_canReply_54, if_pos (by decide)]; rfl, hu, hf⟩
    | succ k ih =>
      intro kd N u hk h1 hN hu hf
      obtain ⟨n, rfl⟩ : ∃ n, N = n + 1 := ⟨N - 1, by omega⟩
      rw [f_X3_canReply_54, if_neg (show ¬ (5 : Int32) < nI kd from fun hh => by
        have := (nI_ltI (a := 5) (b := kd) (by omega) (by omega)).mp hh
        omega), C_openToDrops hu h1 (by omega), Option.bind_some, nI_1, anyU]
      dsimp only
      cases ha : (List.range 25).any (fun to => opn σ kd (safeD σ.1 σ.2.1) to) with
      | false =>
        rw [if_pos (msk_ne0.mpr ha), Bool.false_or]
        exact ih (kd + 1) n u (by omega) (by omega) (by omega) hu hf
      | true =>
        rw [if_neg (fun h => by rw [msk_ne0] at h; rw [ha] at h; cases h)]
        exact ⟨u, rfl, hu, hf⟩
  have ml : ∀ k f N u, f + k = 25 → k + 1 ≤ N → CI u σ → FC w u → ∃ w', f_X3_canReply_10 N (nI σ.2.1) (nI f) u = some (if (anyU (fun f => isOwn σ.1 σ.2.1 f && (List.range 25).any (fun to => safeT σ.1 f to)) k f || anyU (fun kd => (List.range 25).any (fun to => opn σ kd (safeD σ.1 σ.2.1) to)) 5 1) = true then 1 else 0, w') ∧ CI w' σ ∧ FC w w' := by
    intro k
    induction k with
    | zero =>
      intro f N u hk hN hu hf
      obtain ⟨n, rfl⟩ : ∃ n, N = n + 1 := ⟨N - 1, by omega⟩
      have : f = 25 := by omega
      subst this
      obtain ⟨w1, e1, e2, e3⟩ := C_safeDrops hu
      rw [f_X3_canReply_10, if_pos (by decide), e1, Option.bind_some]
      dsimp only
      exact dl 5 1 4096 w1 (by omega) (by omega) (by omega) e2 (hf.trans e3)
    | succ k ih =>
      intro f N u hk hN hu hf
      obtain ⟨n, rfl⟩ : ∃ n, N = n + 1 := ⟨N - 1, by omega⟩
      have hf25 : f < 25 := by omega
      have h20 := hC.2.2.2.1 f hf25
      rw [f_X3_canReply_10, if_neg (q_nle (L := 25) (b := 25) rfl hf25 (by omega)), C_manOn hu hf25, Option.bind_some]
      unfold f_X4_sideOf
      rw [Option.bind_some, nI_1, anyU]
      dsimp only
      rw [px_side _ h20]
      cases ho : isOwn σ.1 σ.2.1 f with
      | false =>
        rw [Bool.false_and, Bool.false_or, if_pos]
        · exact ih (f + 1) n u (by omega) (by omega) hu hf
        · by_cases hz : σ.1 f = 0
          · rw [if_pos hz]
            exact fun h => by have := (nI_eq (by omega) (by omega)).mp h; omega
          · rw [if_neg hz]
            intro h
            have := (nI_eq (by omega) (by omega)).mp h
            simp [isOwn, hz, this] at ho
      | true =>
        obtain ⟨o1, o2⟩ := own_of ho
        obtain ⟨w1, e1, e2, e3⟩ := C_safeTargets hu hf25
        rw [if_neg o1, o2, if_neg (fun h : ¬ nI σ.2.1 = nI σ.2.1 => h rfl), e1, Option.bind_some, Bool.true_and]
        dsimp only
        cases ha : (List.range 25).any (fun to => safeT σ.1 f to) with
        | false =>
          rw [if_pos (msk_ne0.mpr ha), Bool.false_or]
          exact ih (f + 1) n w1 (by omega) (by omega) e2 (hf.trans e3)
        | true =>
          rw [if_neg (fun h => by rw [msk_ne0] at h; rw [ha] at h; cases h)]
          exact ⟨w1, rfl, e2, hf.trans e3⟩
  obtain ⟨w', r1, r2, r3⟩ := ml 25 0 4096 w (by omega) (by omega) hC (FC.refl w)
  refine ⟨w', ?_, r2, r3⟩
  have e : hasT σ = (anyU (fun f => isOwn σ.1 σ.2.1 f && (List.range 25).any (fun to => safeT σ.1 f to)) 25 0 || anyU (fun kd => (List.range 25).any (fun to => opn σ kd (safeD σ.1 σ.2.1) to)) 5 1) := by
    unfold hasT
    rw [anyU_range, anyU_range]
    congr 1
  rw [e]
  exact r1
