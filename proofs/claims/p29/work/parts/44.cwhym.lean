/-! a king's danger doesn't hang on its own side's other men but by where they stand -/
theorem hitL_cong {b1 b2 : Nat → Nat} {m t : Nat} : ∀ (l : List Nat) (far : Nat), (∀ q ∈ l, b1 q = 0 ↔ b2 q = 0) → hitL b1 m far l t = hitL b2 m far l t
  | [], _, _ => rfl
  | q :: qs, far, h => by
    rw [hitL, hitL, hitL_cong qs (far + 1) (fun r hr => h r (List.mem_cons_of_mem _ hr))]
    have := h q List.mem_cons_self
    rw [show decide (b1 q = 0) = decide (b2 q = 0) by rw [decide_eq_decide]; exact this]
theorem att_cong {b1 b2 : Nat → Nat} {x q t : Nat} (hq : q < 25) (h : ∀ r, r < 25 → (b1 r = 0 ↔ b2 r = 0)) : att b1 x q t = att b2 x q t := by
  have e : ∀ w, w < 8 → hitL b1 (mst x w) 1 (pth q w) t = hitL b2 (mst x w) 1 (pth q w) t := fun w hw => hitL_cong _ _ (fun r hr => h r (pthN_lt 4 q w hq hw r hr))
  unfold att
  rw [Bool.eq_iff_iff, List.any_eq_true, List.any_eq_true]
  constructor
  · rintro ⟨w, h1, h2⟩; exact ⟨w, h1, by rw [← e w (List.mem_range.mp h1)]; exact h2⟩
  · rintro ⟨w, h1, h2⟩; exact ⟨w, h1, by rw [e w (List.mem_range.mp h1)]; exact h2⟩
theorem cntN_cong {b1 b2 : Nat → Nat} {s t : Nat} (h : ∀ r, r < 25 → (b1 r = 0 ↔ b2 r = 0)) (h2 : ∀ r, r < 25 → isOwn b1 s r = isOwn b2 s r) (h3 : ∀ r, r < 25 → isOwn b1 s r = true → b1 r = b2 r) : ∀ n, n ≤ 25 → cntN b1 s t n = cntN b2 s t n
  | 0, _ => rfl
  | n + 1, hn => by
    rw [cntN, cntN, cntN_cong h h2 h3 n (by omega), ← h2 n (by omega)]
    by_cases ho : isOwn b1 s n = true
    · rw [ho, Bool.true_and, Bool.true_and, h3 n (by omega) ho, att_cong (by omega) h]
    · have : isOwn b1 s n = false := by simpa using ho
      rw [this, Bool.false_and, Bool.false_and]
theorem chk_own {b1 b2 : Nat → Nat} {s : Nat} (h : ∀ r, r < 25 → (b1 r = 0 ↔ b2 r = 0) ∧ (isOwn b1 (1 - s) r = isOwn b2 (1 - s) r) ∧ (isOwn b1 (1 - s) r = true → b1 r = b2 r) ∧ (b1 r = 10 * s + 1 ↔ b2 r = 10 * s + 1)) : chk b1 s = chk b2 s := by
  unfold chk
  rw [kg_cong (b := b1) (b' := b2) (fun q hq => (h q hq).2.2.2)]
  cases kg b2 s with
  | none => rfl
  | some q =>
    dsimp only
    have : cnt b1 (1 - s) q = cnt b2 (1 - s) q := cntN_cong (fun r hr => (h r hr).1) (fun r hr => (h r hr).2.1) (fun r hr => (h r hr).2.2.1) 25 (by omega)
    rw [this]
theorem own_of {b : Nat → Nat} {t q : Nat} (h : isOwn b t q = true) : b q ≠ 0 ∧ (b q - 1) / 10 = t := by simpa [isOwn] using h
theorem own_no {b : Nat → Nat} {t s q : Nat} (h : b q ≠ 0) (h1 : (b q - 1) / 10 = t) (hne : t ≠ s) : isOwn b s q = false := by
  simp [isOwn, h, h1, hne]
theorem chk_own2 {b1 b2 : Nat → Nat} {s : Nat} (hs : s ≤ 1) (h : ∀ r, r < 25 → ∃ x1 x2, b1 r = x1 ∧ b2 r = x2 ∧ (x1 = x2 ∨ (x1 ≠ 0 ∧ x2 ≠ 0 ∧ (x1 - 1) / 10 = s ∧ (x2 - 1) / 10 = s ∧ (x1 = 10 * s + 1 ↔ x2 = 10 * s + 1)))) : chk b1 s = chk b2 s := by
  refine chk_own (fun r hr => ?_)
  obtain ⟨x1, x2, e1, e2, h3⟩ := h r hr
  unfold isOwn
  rw [e1, e2]
  rcases h3 with rfl | ⟨a1, a2, a3, a4, a5⟩
  · simp
  · have n1 : ¬ s = 1 - s := by omega
    refine ⟨by omega, ?_, ?_, a5⟩
    · rw [a3, a4, decide_eq_false n1, Bool.and_false, Bool.and_false]
    · rw [a3, decide_eq_false n1, Bool.and_false]
      intro hh; cases hh
/-- the board behind an allowed move, and the board that the class tries -/
theorem chk_move {b : Nat → Nat} {t f to ad : Nat} (ht : t ≤ 1) (ho : isOwn b t f = true) (hne : to ≠ f) (had : ad = 0 ∨ (ad = 4 ∧ 2 ≤ knd (b f) ∧ knd (b f) ≤ 5)) : chk (fun r => if r = f then 0 else if r = to then b f + ad else b r) t = chk (mvB b f to) t := by
  obtain ⟨g1, g2⟩ := own_of ho
  refine chk_own2 ht (fun r hr => ?_)
  unfold mvB sb
  by_cases e1 : r = f
  · have e2 : ¬ r = to := fun e => hne (e.symm.trans e1)
    exact ⟨0, 0, if_pos e1, by rw [if_neg e2, if_pos e1], Or.inl rfl⟩
  · by_cases e2 : r = to
    · refine ⟨b f + ad, b f, by rw [if_neg e1, if_pos e2], if_pos e2, Or.inr ⟨by omega, g1, ?_, g2, ?_⟩⟩
      · rcases had with rfl | ⟨rfl, k1, k2⟩ <;> (unfold knd at *; omega)
      · rcases had with rfl | ⟨rfl, k1, k2⟩ <;> (unfold knd at *; omega)
    · exact ⟨b r, b r, by rw [if_neg e1, if_neg e2], by rw [if_neg e2, if_neg e1], Or.inl rfl⟩
/-- promotion squares -/
def prm (b : Nat → Nat) (q t : Nat) : Bool := decide (b q ≠ 0) && ((decide (2 ≤ knd (b q)) && decide (knd (b q) ≤ 5)) && (isLast ((b q - 1) / 10) t || isLast ((b q - 1) / 10) q))
def frc (b : Nat → Nat) (q t : Nat) : Bool := decide (b q ≠ 0) && (decide (knd (b q) = 5) && isLast ((b q - 1) / 10) t)
theorem lastM : ∀ s, s < 2 → (if ¬ nI s = 0 then (32505856 : Int32) else 31) = msk (fun q => isLast s q) := by decide +kernel
theorem everyM : (33554431 : Int32) = msk (fun _ => true) := by decide +kernel
theorem noneM : (0 : Int32) = msk (fun _ => false) := by decide +kernel
theorem msk_cong {f g : Nat → Bool} (h : ∀ t, t < 25 → f t = g t) : msk f = msk g := mkN_cong 25 h
theorem C_lastRow {s : Nat} (hs : s < 2) (w : mvW) : f_X4_lastRow (nI s) w = some (msk (fun q => isLast s q), w) := by
  unfold f_X4_lastRow
  rw [← lastM s hs]
  by_cases h : nI s = 0
  · rw [if_neg (fun hh => hh h), if_neg (fun hh => hh h)]
  · rw [if_pos h, if_pos h]
theorem C_forcing {w : mvW} {σ : PS} (hC : CI w σ) {q : Nat} (hq : q < 25) : f_X3_forcingSquares (nI q) w = some (msk (frc σ.1 q), w) := by
  have h20 := hC.2.2.2.1 q hq
  unfold f_X3_forcingSquares
  rw [C_manOn hC hq, Option.bind_some]
  dsimp only
  by_cases h0 : σ.1 q = 0
  · rw [if_pos ((px_encE _ h20).mpr h0)]
    rw [show msk (frc σ.1 q) = 0 from by rw [noneM]; exact msk_cong (fun t _ => by simp [frc, h0])]
  · rw [if_neg (fun h => h0 ((px_encE _ h20).mp h))]
    obtain ⟨k1, k2⟩ := px_kind _ h20 h0
    unfold f_X4_sideOf f_X4_kindOf
    simp only [Option.bind_some]
    rw [k1, k2]
    by_cases h5 : knd (σ.1 q) = 5
    · rw [if_neg (fun h => h (by rw [h5]; rfl)), C_lastRow (by omega), Option.bind_some]
      rw [show msk (frc σ.1 q) = msk (fun t => isLast ((σ.1 q - 1) / 10) t) from msk_cong (fun t _ => by simp [frc, h0, h5])]
    · rw [if_pos (q_ne (L := 5) (b := 5) rfl (by unfold knd; omega) (by omega) h5)]
      rw [show msk (frc σ.1 q) = 0 from by rw [noneM]; exact msk_cong (fun t _ => by simp [frc, h5])]
theorem C_promoting {w : mvW} {σ : PS} (hC : CI w σ) {q : Nat} (hq : q < 25) : f_X3_promotingSquares (nI q) w = some (msk (prm σ.1 q), w) := by
  have h20 := hC.2.2.2.1 q hq
  unfold f_X3_promotingSquares
  rw [C_manOn hC hq, Option.bind_some]
  dsimp only
  by_cases h0 : σ.1 q = 0
  · rw [if_pos ((px_encE _ h20).mpr h0)]
    rw [show msk (prm σ.1 q) = 0 from by rw [noneM]; exact msk_cong (fun t _ => by simp [prm, h0])]
  · rw [if_neg (fun h => h0 ((px_encE _ h20).mp h))]
    obtain ⟨k1, k2⟩ := px_kind _ h20 h0
    unfold f_X4_sideOf f_X4_kindOf
    simp only [Option.bind_some]
    rw [k1, k2]
    have hk10 : knd (σ.1 q) < 10 := by unfold knd; omega
    by_cases hlo : 2 ≤ knd (σ.1 q)
    · rw [if_neg (q_nlt (L := 2) (b := 2) rfl hlo (by omega))]
      by_cases hhi : knd (σ.1 q) ≤ 5
      · rw [if_pos (q_le2 (L := 5) (b := 5) rfl hhi (by omega)), C_lastRow (by omega), Option.bind_some]
        dsimp only
        rw [C_has _ hq, Option.bind_some, msk_bit _ hq]
        by_cases hl : isLast ((σ.1 q - 1) / 10) q = true
        · simp only [if_pos hl]
          rw [if_neg (by decide), everyM]
          rw [show msk (prm σ.1 q) = msk (fun _ => true) from msk_cong (fun t _ => by simp [prm, h0, hlo, hhi, hl])]
        · simp only [if_neg hl]
          rw [if_pos trivial]
          rw [show msk (prm σ.1 q) = msk (fun t => isLast ((σ.1 q - 1) / 10) t) from msk_cong (fun t _ => by simp [prm, h0, hlo, hhi, hl])]
      · rw [if_neg (q_nle2 (L := 5) (b := 5) rfl (by omega) (by omega))]
        rw [show msk (prm σ.1 q) = 0 from by rw [noneM]; exact msk_cong (fun t _ => by simp [prm, hhi])]
    · rw [if_pos (q_lt (L := 2) (b := 2) rfl (by omega) (by omega))]
      rw [show msk (prm σ.1 q) = 0 from by rw [noneM]; exact msk_cong (fun t _ => by simp [prm, hlo])]
def mcd (f to : Nat) (pr : Bool) : Nat := 25 * f + to + (if pr = true then 625 else 0)
theorem mcd_eq {f to : Nat} (hf : f < 25) (ht : to < 25) (pr : Bool) : mcd f to pr < 1250 ∧ mcd f to pr % 625 / 25 = f ∧ mcd f to pr % 25 = to ∧ decide (625 ≤ mcd f to pr) = pr := by
  unfold mcd
  cases pr
  · rw [if_neg (by decide)]; refine ⟨by omega, by omega, by omega, decide_eq_false (by omega)⟩
  · rw [if_pos rfl]; refine ⟨by omega, by omega, by omega, decide_eq_true (by omega)⟩
/-- the reason against a move, in the words of the tries -/
theorem resS_move {σ : PS} (hO : OKs σ) {f to : Nat} (hf : f < 25) (ht : to < 25) (pr : Bool) : resS σ (mcd f to pr) = if wnmS σ.1 σ.2.1 f to pr ≠ 0 then wnmS σ.1 σ.2.1 f to pr else if safeT σ.1 f to = true then 0 else 6 := by
  obtain ⟨c1, c2, c3, c4⟩ := mcd_eq hf ht pr
  unfold resS wnS
  rw [if_pos c1, c2, c3, c4]
  by_cases h0 : wnmS σ.1 σ.2.1 f to pr = 0
  · rw [if_neg (show ¬ (wnmS σ.1 σ.2.1 f to pr ≠ 0) from fun h => h h0), if_neg (show ¬ (wnmS σ.1 σ.2.1 f to pr ≠ 0) from fun h => h h0)]
    obtain ⟨g1, g2, g3, g4, g5⟩ := wnmS_0 h0
    have hne := att_ne hf g2
    obtain ⟨o1, o2⟩ := own_of g1
    have e : chk (mkS σ (mcd f to pr)).1 σ.2.1 = chk (mvB σ.1 f to) σ.2.1 := by
      have := chk_move (ad := if pr = true then 4 else 0) hO.2 g1 hne (by
        cases pr
        · exact Or.inl rfl
        · exact Or.inr ⟨rfl, g5 rfl⟩)
      rw [← this]
      unfold mkS mkM
      rw [if_pos c1, c2, c3, c4]
    rw [e, if_pos c1, decide_eq_false (by omega : ¬ 1350 ≤ mcd f to pr), Bool.false_and, if_neg (by decide : ¬ (false = true))]
    have hc : cEn σ.1 ((σ.1 f - 1) / 10) to = true := by
      unfold cEn
      rw [o2]
      by_cases hz : σ.1 to = 0
      · simp [hz]
      · have := g4 hz
        simp [isOwn, hz] at g3
        simp [hz, this, g3]
    have hs : safeT σ.1 f to = !chk (mvB σ.1 f to) σ.2.1 := by
      unfold safeT
      rw [hc, g2, o2]
      simp [o1]
    rw [hs]
    cases chk (mvB σ.1 f to) σ.2.1 <;> rfl
  · rw [if_pos h0, if_pos h0]
theorem C_whyNoMove {w : mvW} {σ : PS} (hC : CI w σ) {f to : Nat} (hf : f < 25) (ht : to < 25) (pr : Bool) {a3 : Int32} (ha3 : a3 = 0 ↔ pr = false) : ∃ w', f_X3_whyNoMove (nI f) (nI to) a3 w = some (nI (resS σ (mcd f to pr)), w') ∧ CI w' σ ∧ FC w w' := by
  have hO := hC.2.2.2
  have hf20 := hO.1 f hf
  have ht20 := hO.1 to ht
  have ht1 : σ.2.1 ≤ 1 := hO.2
  rw [resS_move hO hf ht pr]
  unfold f_X3_whyNoMove wnmS
  rw [C_sideToPlay hC, Option.bind_some]
  dsimp only
  rw [C_manOn hC hf, Option.bind_some]
  unfold f_X4_sideOf
  rw [Option.bind_some]
  dsimp only
  rw [px_side _ hf20]
  by_cases h1 : isOwn σ.1 σ.2.1 f = true
  · obtain ⟨o1, o2⟩ := own_of h1
    rw [h1, if_neg (show ¬ (true = false) by decide), if_neg o1, o2, if_pos rfl, C_attackedFrom hC hf, Option.bind_some, if_neg o1]
    dsimp only
    rw [C_has _ ht, Option.bind_some, attM_bit _ _ hf ht]
    by_cases h2 : att σ.1 (σ.1 f) f to = true
    · simp only [if_pos h2]
      rw [if_pos (by decide), C_canEnter hC (by omega) ht, Option.bind_some, h2, if_neg (show ¬ (true = false) by decide)]
      by_cases h3 : cEn σ.1 σ.2.1 to = true
      · simp only [if_pos h3]
        have h3' : (isOwn σ.1 σ.2.1 to || (decide (σ.1 to ≠ 0) && decide (knd (σ.1 to) = 0))) = false := by
          unfold cEn at h3
          unfold isOwn
          by_cases hz : σ.1 to = 0
          · simp [hz]
          · simp [hz] at h3
            simp [hz, h3.1, h3.2]
        rw [if_pos (by decide), h3', if_neg (show ¬ (false = true) by decide)]
        have g92 : ∃ w', f_X3_whyNoMove_92 (nI f) (nI to) w = some (nI (if safeT σ.1 f to = true then 0 else 6), w') ∧ CI w' σ ∧ FC w w' := by
          unfold f_X3_whyNoMove_92
          obtain ⟨w', e1, e2, e3⟩ := C_safeTargets hC hf
          refine ⟨w', ?_, e2, e3⟩
          rw [e1, Option.bind_some, C_has _ ht, Option.bind_some, msk_bit _ ht]
          by_cases hs : safeT σ.1 f to = true
          · simp only [if_pos hs]; rw [if_neg (by decide)]; rfl
          · simp only [if_neg hs]; rw [if_pos trivial]; rfl
        have g74 : ∃ w', f_X3_whyNoMove_74 (nI f) (nI to) a3 w = some (nI (if pr = true then (if safeT σ.1 f to = true then 0 else 6) else if (decide (knd (σ.1 f) = 5) && isLast σ.2.1 to) = true then 5 else (if safeT σ.1 f to = true then 0 else 6)), w') ∧ CI w' σ ∧ FC w w' := by
          unfold f_X3_whyNoMove_74
          cases pr
          · rw [if_neg (fun hh => hh (ha3.mpr rfl)), C_forcing hC hf, Option.bind_some]
            dsimp only
            rw [C_has _ ht, Option.bind_some, msk_bit _ ht, if_neg (show ¬ (false = true) by decide)]
            have e5 : frc σ.1 f to = (decide (knd (σ.1 f) = 5) && isLast σ.2.1 to) := by unfold frc; rw [o2]; simp [o1]
            rw [e5]
            by_cases h5 : (decide (knd (σ.1 f) = 5) && isLast σ.2.1 to) = true
            · simp only [if_pos h5]
              rw [if_neg (by decide)]
              exact ⟨w, rfl, hC, FC.refl w⟩
            · simp only [if_neg h5]
              rw [if_pos trivial]
              exact g92
          · have : ¬ a3 = 0 := fun h => by have := ha3.mp h; cases this
            rw [if_pos this, if_pos rfl]
            exact g92
        cases pr
        · rw [if_pos (ha3.mpr rfl)]
          obtain ⟨w', e1, e2, e3⟩ := g74
          refine ⟨w', ?_, e2, e3⟩
          rw [e1, if_neg (show ¬ (false = true) by decide)]
          by_cases h5 : (decide (knd (σ.1 f) = 5) && isLast σ.2.1 to) = true
          · rw [h5]; simp
          · have hb : (decide (knd (σ.1 f) = 5) && isLast σ.2.1 to) = false := by simpa using h5
            rw [hb]; simp
        · have ha : ¬ a3 = 0 := fun h => by have := ha3.mp h; cases this
          rw [if_neg ha, C_promoting hC hf, Option.bind_some]
          dsimp only
          rw [C_has _ ht, Option.bind_some, msk_bit _ ht]
          have e4 : prm σ.1 f to = canP σ.1 σ.2.1 f to := by unfold prm canP; rw [o2]; simp [o1]
          rw [e4]
          by_cases h4 : canP σ.1 σ.2.1 f to = true
          · simp only [if_pos h4]
            rw [if_pos (by decide)]
            obtain ⟨w', e1, e2, e3⟩ := g74
            refine ⟨w', ?_, e2, e3⟩
            rw [e1]
            simp
          · simp only [if_neg h4]
            rw [if_neg (fun h => h trivial)]
            exact ⟨w, by simp; rfl, hC, FC.refl w⟩
      · simp only [if_neg h3]
        have h3' : (isOwn σ.1 σ.2.1 to || (decide (σ.1 to ≠ 0) && decide (knd (σ.1 to) = 0))) = true := by
          unfold cEn at h3
          unfold isOwn
          by_cases hz : σ.1 to = 0
          · simp [hz] at h3
          · by_cases hz2 : (σ.1 to - 1) / 10 = σ.2.1
            · simp [hz, hz2]
            · simp [hz, hz2] at h3
              simp [hz, h3]
        rw [if_neg (fun h => h trivial), h3']
        exact ⟨w, by simp; rfl, hC, FC.refl w⟩
    · simp only [if_neg h2]
      have : att σ.1 (σ.1 f) f to = false := by simpa using h2
      rw [if_neg (fun h => h trivial), this]
      exact ⟨w, by simp; rfl, hC, FC.refl w⟩
  · have h1' : isOwn σ.1 σ.2.1 f = false := by simpa using h1
    rw [h1', if_neg]
    · exact ⟨w, by simp; rfl, hC, FC.refl w⟩
    · by_cases hz : σ.1 f = 0
      · rw [if_pos hz]
        exact fun h => by have := (nI_eq (by omega) (by omega)).mp h; omega
      · rw [if_neg hz]
        intro h
        have := (nI_eq (by omega) (by omega)).mp h
        simp [isOwn, hz, this] at h1'
