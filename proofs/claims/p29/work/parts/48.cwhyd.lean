theorem anyF_iff {f : Nat → Bool} : ∀ n q, anyF f n q = true ↔ ∃ k, k < n ∧ f (q + k) = true
  | 0, q => by simp [anyF]
  | n + 1, q => by
    rw [anyF]
    by_cases h : f q = true
    · rw [if_pos h]; exact ⟨fun _ => ⟨0, by omega, h⟩, fun _ => rfl⟩
    · rw [if_neg h, anyF_iff n (q + 1)]
      constructor
      · rintro ⟨k, h1, h2⟩; exact ⟨k + 1, by omega, by rw [show q + (k + 1) = q + 1 + k by omega]; exact h2⟩
      · rintro ⟨k, h1, h2⟩
        cases k with
        | zero => exact absurd h2 h
        | succ k => exact ⟨k, by omega, by rw [show q + 1 + k = q + (k + 1) by omega]; exact h2⟩
theorem okS_res (σ : PS) {c : Nat} (hc : c < 1350) : okS σ c = true ↔ resS σ c = 0 := by
  unfold okS resS
  by_cases h0 : wnS σ c = 0
  · rw [if_neg (show ¬ (wnS σ c ≠ 0) from fun h => h h0), decide_eq_true h0, Bool.true_and]
    cases chk (mkS σ c).1 σ.2.1 with
    | true => rw [if_pos rfl]; simp; split <;> omega
    | false => rw [if_neg (show ¬ (false = true) by decide), decide_eq_false (by omega : ¬ 1350 ≤ c), Bool.false_and]; simp
  · rw [if_pos h0, decide_eq_false h0, Bool.false_and]
    simp [h0]
theorem mcd_of {c : Nat} (h : c < 1250) : mcd (c % 625 / 25) (c % 25) (decide (625 ≤ c)) = c := by
  unfold mcd
  by_cases e : 625 ≤ c
  · rw [decide_eq_true e, if_pos rfl]; omega
  · rw [decide_eq_false e, if_neg (by decide)]; omega
def dcd (kd to : Nat) : Nat := 1250 + 25 * (kd - 1) + to
theorem dcd_eq {kd to : Nat} (h1 : 1 ≤ kd) (h5 : kd ≤ 5) (ht : to < 25) : ¬ dcd kd to < 1250 ∧ dcd kd to < 1375 ∧ (dcd kd to - 1250) / 25 + 1 = kd ∧ dcd kd to % 25 = to ∧ (1350 ≤ dcd kd to ↔ kd = 5) := by
  unfold dcd
  refine ⟨by omega, by omega, by omega, by omega, by omega⟩
/-- a safe try of an own man is an allowed move, promoted or not -/
theorem safe_move {σ : PS} (hO : OKs σ) {f to : Nat} (hf : f < 25) (ht : to < 25) (h1 : isOwn σ.1 σ.2.1 f = true) (h2 : safeT σ.1 f to = true) : resS σ (mcd f to (decide (knd (σ.1 f) = 5) && isLast σ.2.1 to)) = 0 := by
  obtain ⟨o1, o2⟩ := own_of h1
  have h2' := h2
  unfold safeT at h2'
  rw [o2] at h2'
  simp only [Bool.and_eq_true, decide_eq_true_eq, Bool.not_eq_true'] at h2'
  obtain ⟨-, a1, a2, a3⟩ := h2'
  rw [resS_move hO hf ht]
  have h3 : (isOwn σ.1 σ.2.1 to || (decide (σ.1 to ≠ 0) && decide (knd (σ.1 to) = 0))) = false := by
    unfold cEn at a2
    unfold isOwn
    by_cases hz : σ.1 to = 0
    · simp [hz]
    · simp [hz] at a2
      simp [hz, a2.1, a2.2]
  have h0 : wnmS σ.1 σ.2.1 f to (decide (knd (σ.1 f) = 5) && isLast σ.2.1 to) = 0 := by
    unfold wnmS
    rw [h1, if_neg (show ¬ (true = false) by decide), a1, if_neg (show ¬ (true = false) by decide), h3, if_neg (show ¬ (false = true) by decide)]
    cases hp : (decide (knd (σ.1 f) = 5) && isLast σ.2.1 to) with
    | false => rw [if_neg (show ¬ (false = true) by decide), if_neg (show ¬ (false = true) by decide)]
    | true =>
      simp only [Bool.and_eq_true, decide_eq_true_eq] at hp
      rw [if_pos rfl, if_pos (by simp [canP, hp.1, hp.2])]
  rw [if_neg (show ¬ (wnmS σ.1 σ.2.1 f to (decide (knd (σ.1 f) = 5) && isLast σ.2.1 to) ≠ 0) from fun h => h h0), if_pos h2]
theorem move_safe {σ : PS} (hO : OKs σ) {f to : Nat} (hf : f < 25) (ht : to < 25) {pr : Bool} (h : resS σ (mcd f to pr) = 0) : wnmS σ.1 σ.2.1 f to pr = 0 ∧ isOwn σ.1 σ.2.1 f = true ∧ safeT σ.1 f to = true := by
  rw [resS_move hO hf ht] at h
  by_cases h0 : wnmS σ.1 σ.2.1 f to pr = 0
  · rw [if_neg (show ¬ (wnmS σ.1 σ.2.1 f to pr ≠ 0) from fun h => h h0)] at h
    refine ⟨h0, (wnmS_0 h0).1, ?_⟩
    cases hs : safeT σ.1 f to with
    | true => rfl
    | false => rw [hs, if_neg (show ¬ (false = true) by decide)] at h; cases h
  · rw [if_pos h0] at h; exact absurd h h0
theorem chk_drop {b : Nat → Nat} {t to kd : Nat} (ht : t ≤ 1) (h1 : 1 ≤ kd) (h5 : kd ≤ 5) : chk (sb b to (10 * t + kd + 1)) t = chk (sb b to (10 * t + 2)) t := by
  refine chk_own2 ht (fun r hr => ?_)
  unfold sb
  by_cases e : r = to
  · exact ⟨10 * t + kd + 1, 10 * t + 2, if_pos e, if_pos e, Or.inr ⟨by omega, by omega, by omega, by omega, by omega⟩⟩
  · exact ⟨b r, b r, if_neg e, if_neg e, Or.inl rfl⟩
theorem mkS_drop {σ : PS} {kd to : Nat} (h1 : 1 ≤ kd) (h5 : kd ≤ 5) (ht : to < 25) : mkS σ (dcd kd to) = mkD σ kd to := by
  obtain ⟨c1, c2, c3, c4, c5⟩ := dcd_eq h1 h5 ht
  unfold mkS
  rw [if_neg c1, c3, c4]
theorem okS_drop {σ : PS} (hO : OKs σ) {kd to : Nat} (h1 : 1 ≤ kd) (h5 : kd ≤ 5) (ht : to < 25) : okS σ (dcd kd to) = opn σ kd (safeD σ.1 σ.2.1) to := by
  obtain ⟨c1, c2, c3, c4, c5⟩ := dcd_eq h1 h5 ht
  unfold okS
  rw [mkS_drop h1 h5 ht]
  have e : chk (mkD σ kd to).1 σ.2.1 = chk (sb σ.1 to (10 * σ.2.1 + 2)) σ.2.1 := chk_drop (b := σ.1) hO.2 h1 h5
  rw [e]
  unfold wnS wndS opn safeD
  rw [if_neg c1, c3, c4]
  by_cases a1 : σ.2.2.1 (5 * σ.2.1 + kd - 1) = 0
  · simp [a1]
  · by_cases a2 : σ.1 to = 0
    · by_cases a3 : kd = 5
      · have a1' : ¬ σ.2.2.1 (5 * σ.2.1 + 4) = 0 := by simpa [a3] using a1
        cases hl : isLast σ.2.1 to <;> cases hp : hasPw σ.1 σ.2.1 (to % 5) <;> simp [a1', a2, a3, hl, hp]
      · simp [a1, a2, a3]
    · simp [a1, a2]
theorem hasS_T {σ : PS} (hO : OKs σ) : hasS σ = hasT σ := by
  unfold hasS hasT
  rw [Bool.eq_iff_iff, anyF_iff, Bool.or_eq_true, List.any_eq_true, List.any_eq_true]
  constructor
  · rintro ⟨c, hc, h⟩
    rw [Nat.zero_add] at h
    by_cases h1 : c < 1250
    · left
      have hr := (okS_res σ (by omega)).mp h
      rw [← mcd_of h1] at hr
      obtain ⟨-, g1, g2⟩ := move_safe hO (by omega) (by omega) hr
      refine ⟨c % 625 / 25, List.mem_range.mpr (by omega), ?_⟩
      rw [g1, Bool.true_and, List.any_eq_true]
      exact ⟨c % 25, List.mem_range.mpr (by omega), g2⟩
    · right
      have e : dcd ((c - 1250) / 25 + 1) (c % 25) = c := by unfold dcd; omega
      rw [← e, okS_drop hO (by omega) (by omega) (by omega)] at h
      refine ⟨(c - 1250) / 25 + 1, List.mem_range.mpr (by omega), ?_⟩
      rw [decide_eq_true (by omega), Bool.true_and, List.any_eq_true]
      exact ⟨c % 25, List.mem_range.mpr (by omega), h⟩
  · rintro (⟨f, hf, h⟩ | ⟨kd, hk, h⟩)
    · rw [List.mem_range] at hf
      rw [Bool.and_eq_true, List.any_eq_true] at h
      obtain ⟨h1, to, ht, h2⟩ := h
      rw [List.mem_range] at ht
      have hr := safe_move hO hf ht h1 h2
      have hlt := (mcd_eq hf ht (decide (knd (σ.1 f) = 5) && isLast σ.2.1 to)).1
      exact ⟨mcd f to (decide (knd (σ.1 f) = 5) && isLast σ.2.1 to), by omega, by rw [Nat.zero_add]; exact (okS_res σ (by omega)).mpr hr⟩
    · rw [List.mem_range] at hk
      rw [Bool.and_eq_true, decide_eq_true_eq, List.any_eq_true] at h
      obtain ⟨h1, to, ht, h2⟩ := h
      rw [List.mem_range] at ht
      refine ⟨dcd kd to, (dcd_eq h1 (by omega) ht).2.1, ?_⟩
      rw [Nat.zero_add, okS_drop hO h1 (by omega) ht]
      exact h2
theorem hasS_cong {b : Nat → Nat} {t : Nat} {h c1 c2 : Nat → Int32} : hasS (b, t, h, c1) = hasS (b, t, h, c2) := by
  unfold hasS
  have : okS (b, t, h, c1) = okS (b, t, h, c2) := by
    funext c
    unfold okS mkS
    by_cases e : c < 1250
    · rw [if_pos e, if_pos e]; rfl
    · rw [if_neg e, if_neg e]; rfl
  rw [this]
theorem apD_ok {σ : PS} (hO : OKs σ) {kd to : Nat} (h5 : kd ≤ 5) : OKs (apD σ kd to) := by
  obtain ⟨h1, h2⟩ := hO
  refine ⟨fun q hq => ?_, by show 1 - σ.2.1 ≤ 1; omega⟩
  show (if q = to then 10 * σ.2.1 + kd + 1 else σ.1 q) ≤ 20
  split
  · omega
  · exact h1 q hq
def matT (σ : PS) (to : Nat) : Bool := chk (apD σ 5 to).1 (1 - σ.2.1) && !hasT (apD σ 5 to)
theorem resS_drop {σ : PS} (hO : OKs σ) {kd to : Nat} (h1 : 1 ≤ kd) (h5 : kd ≤ 5) (ht : to < 25) : resS σ (dcd kd to) = if wndS σ kd to ≠ 0 then wndS σ kd to else if safeD σ.1 σ.2.1 to = true then (if (decide (kd = 5) && matT σ to) = true then 6 else 0) else 5 := by
  obtain ⟨c1, c2, c3, c4, c5⟩ := dcd_eq h1 h5 ht
  unfold resS
  rw [mkS_drop h1 h5 ht]
  have ew : wnS σ (dcd kd to) = wndS σ kd to := by unfold wnS; rw [if_neg c1, c3, c4]
  rw [ew]
  by_cases h0 : wndS σ kd to = 0
  · rw [if_neg (show ¬ (wndS σ kd to ≠ 0) from fun h => h h0), if_neg (show ¬ (wndS σ kd to ≠ 0) from fun h => h h0), if_neg c1]
    have e : chk (mkD σ kd to).1 σ.2.1 = chk (sb σ.1 to (10 * σ.2.1 + 2)) σ.2.1 := chk_drop (b := σ.1) hO.2 h1 h5
    have hz : σ.1 to = 0 := by
      unfold wndS at h0
      by_cases a1 : σ.2.2.1 (5 * σ.2.1 + kd - 1) = 0
      · rw [if_pos a1] at h0; cases h0
      · rw [if_neg a1] at h0
        by_cases a2 : σ.1 to = 0
        · exact a2
        · rw [if_pos a2] at h0; cases h0
    have es : safeD σ.1 σ.2.1 to = !chk (mkD σ kd to).1 σ.2.1 := by rw [e]; simp [safeD, hz]
    rw [es]
    cases chk (mkD σ kd to).1 σ.2.1 with
    | true => rfl
    | false =>
      rw [if_neg (show ¬ (false = true) by decide), Bool.not_false, if_pos rfl]
      by_cases k5 : kd = 5
      · subst k5
        rw [decide_eq_true (c5.mpr rfl), decide_eq_true rfl, Bool.true_and, Bool.true_and]
        have em : (chk (mkD σ 5 to).1 (1 - σ.2.1) && !hasS (mkD σ 5 to)) = matT σ to := by
          unfold matT
          rw [← hasS_T (apD_ok hO (by omega))]
          have : hasS (mkD σ 5 to) = hasS (apD σ 5 to) := hasS_cong
          rw [this]
          rfl
        rw [em]
      · rw [decide_eq_false (fun h => k5 (c5.mp h)), decide_eq_false k5, Bool.false_and, Bool.false_and]
  · rw [if_pos h0, if_pos h0]
theorem C_withoutMates {w : mvW} {σ : PS} (hC : CI w σ) {g : Nat → Bool} (hg : ∀ t, t < 25 → g t = true → σ.1 t = 0) : ∃ w', f_X3_withoutMates (msk g) w = some (msk (fun t => g t && !matT σ t), w') ∧ CI w' σ ∧ FC w w' := by
  have hO := hC.2.2.2
  have ht1 : σ.2.1 ≤ 1 := hO.2
  unfold f_X3_withoutMates
  have loop : ∀ k to N u, to + k = 25 → k + 1 ≤ N → CI u σ → FC w u → ∃ w', f_X3_withoutMates_4 N (msk g) (msk (fun t => g t && !(decide (t < to) && matT σ t))) (nI to) u = some (msk (fun t => g t && !matT σ t), w') ∧ CI w' σ ∧ FC w w' := by
    intro k
    induction k with
    | zero =>
      intro to N u hk hN hu hf
      obtain ⟨n, rfl⟩ : ∃ n, N = n + 1 := ⟨N - 1, by omega⟩
      have : to = 25 := by omega
      subst this
      refine ⟨u, ?_, hu, hf⟩
      rw [f_X3_withoutMates_4, if_pos (by decide), msk_cong (fun t ht => by rw [decide_eq_true ht, Bool.true_and])]
    | succ k ih =>
      intro to N u hk hN hu hf
      obtain ⟨n, rfl⟩ : ∃ n, N = n + 1 := ⟨N - 1, by omega⟩
      have ht : to < 25 := by omega
      have keep : (g to && matT σ to) = false → ∀ v, CI v σ → FC w v → ∃ w', f_X3_withoutMates_4 n (msk g) (msk (fun t => g t && !(decide (t < to) && matT σ t))) (nI (to + 1)) v = some (msk (fun t => g t && !matT σ t), w') ∧ CI w' σ ∧ FC w w' := by
        intro hm v hv hfv
        rw [msk_cong (f := fun t => g t && !(decide (t < to) && matT σ t)) (g := fun t => g t && !(decide (t < to + 1) && matT σ t)) (fun t _ => ?_)]
        · exact ih (to + 1) n v (by omega) (by omega) hv hfv
        · by_cases e : t = to
          · subst e
            cases h1 : g t <;> cases h2 : matT σ t <;> simp_all
          · rw [show decide (t < to + 1) = decide (t < to) by rw [decide_eq_decide]; omega]
      rw [f_X3_withoutMates_4, if_neg (q_nle (L := 25) (b := 25) rfl ht (by omega)), C_has _ ht, Option.bind_some, msk_bit _ ht, nI_1]
      dsimp only
      cases hgt : g to with
      | false =>
        rw [if_neg (show ¬ (¬ (if false = true then (1 : Int32) else 0) = 0) from fun h => h rfl)]
        exact keep (by rw [hgt]; rfl) u hu hf
      | true =>
        have hz := hg to ht hgt
        obtain ⟨w1, a1, a2, a3⟩ := C_applyD hu (kd := 5) (to := to) (by omega) (by omega) ht
        obtain ⟨w2, b1, b2, b3⟩ := C_canReply a2
        have tb := fun {u' : mvW} (h : CI u' (apD σ 5 to)) (x : Int32) => C_takeBackD hO h (by omega) (by omega) ht hz x
        rw [if_pos (show ¬ (if true = true then (1 : Int32) else 0) = 0 by decide), show (5 : Int32) = nI 5 from rfl, C_dropNumber, Option.bind_some]
        dsimp only
        rw [a1, Option.bind_some]
        dsimp only
        rw [C_isInCheck a2, Option.bind_some]
        dsimp only
        have eside : (apD σ 5 to).2.1 = 1 - σ.2.1 := rfl
        rw [eside]
        cases hc : chk (apD σ 5 to).1 (1 - σ.2.1) with
        | false =>
          obtain ⟨w3, c1, c2, c3⟩ := tb a2 99
          rw [if_pos (show (if false = true then (1 : Int32) else 0) = 0 from rfl), c1, Option.bind_some]
          exact keep (by simp [matT, hc]) w3 c2 (hf.trans (a3.trans c3))
        | true =>
          obtain ⟨w3, c1, c2, c3⟩ := tb b2 99
          rw [if_neg (show ¬ (if true = true then (1 : Int32) else 0) = 0 by decide), b1, Option.bind_some]
          dsimp only
          cases hh : hasT (apD σ 5 to) with
          | true =>
            rw [if_pos (show ¬ (if true = true then (1 : Int32) else 0) = 0 by decide), c1, Option.bind_some]
            exact keep (by simp [matT, hh]) w3 c2 (hf.trans (a3.trans (b3.trans c3)))
          | false =>
            rw [if_neg (show ¬ (¬ (if false = true then (1 : Int32) else 0) = 0) from fun h => h rfl), C_bit, Option.bind_some]
            dsimp only
            rw [c1, Option.bind_some, msk_one ht, msk_andn]
            rw [msk_cong (f := fun t => g t && !(decide (t < to) && matT σ t) && !decide (t = to)) (g := fun t => g t && !(decide (t < to + 1) && matT σ t)) (fun t _ => ?_)]
            · exact ih (to + 1) n w3 (by omega) (by omega) c2 (hf.trans (a3.trans (b3.trans c3)))
            · have hm : matT σ to = true := by simp [matT, hc, hh]
              by_cases e : t = to
              · subst e
                rw [hm, decide_eq_true rfl, decide_eq_true (by omega : t < t + 1)]
                simp
              · rw [decide_eq_false e, show decide (t < to + 1) = decide (t < to) by rw [decide_eq_decide]; omega]
                simp
  have := loop 25 0 4096 w (by omega) (by omega) hC (FC.refl w)
  rw [msk_cong (f := fun t => g t && !(decide (t < 0) && matT σ t)) (g := g) (fun t _ => by simp)] at this
  exact this
theorem C_whyNoDrop {w : mvW} {σ : PS} (hC : CI w σ) {kd to : Nat} (h1 : 1 ≤ kd) (h5 : kd ≤ 5) (ht : to < 25) : ∃ w', f_X3_whyNoDrop (nI kd) (nI to) w = some (nI (resS σ (dcd kd to)), w') ∧ CI w' σ ∧ FC w w' := by
  have hO := hC.2.2.2
  have ht1 : σ.2.1 ≤ 1 := hO.2
  have ht20 := hO.1 to ht
  rw [resS_drop hO h1 h5 ht]
  unfold f_X3_whyNoDrop
  rw [C_sideToPlay hC, Option.bind_some]
  dsimp only
  rw [C_inHand hC (by omega) h1 h5, Option.bind_some]
  dsimp only
  by_cases a1 : σ.2.2.1 (5 * σ.2.1 + kd - 1) = 0
  · have e : wndS σ kd to = 1 := by unfold wndS; rw [if_pos a1]
    rw [if_neg (fun h => h a1), e]
    exact ⟨w, rfl, hC, FC.refl w⟩
  · rw [if_pos a1, C_manOn hC ht, Option.bind_some]
    dsimp only
    by_cases a2 : σ.1 to = 0
    · rw [if_pos ((px_encE _ ht20).mpr a2)]
      have k5e : (nI kd = 5) = (kd = 5) := px_eq (b := 5) (by omega) (by omega)
      have g74 : wndS σ kd to = 0 → ∃ w', f_X3_whyNoDrop_74 (nI kd) (nI to) w = some (nI (if wndS σ kd to ≠ 0 then wndS σ kd to else if safeD σ.1 σ.2.1 to = true then (if (decide (kd = 5) && matT σ to) = true then 6 else 0) else 5), w') ∧ CI w' σ ∧ FC w w' := by
        intro h0
        rw [if_neg (show ¬ (wndS σ kd to ≠ 0) from fun h => h h0)]
        unfold f_X3_whyNoDrop_74
        obtain ⟨w1, e1, e2, e3⟩ := C_safeDrops hC
        rw [e1, Option.bind_some]
        dsimp only
        rw [C_has _ ht, Option.bind_some, msk_bit _ ht]
        dsimp only
        cases hs : safeD σ.1 σ.2.1 to with
        | false =>
          rw [if_neg (show ¬ (¬ (if false = true then (1 : Int32) else 0) = 0) from fun h => h rfl)]
          exact ⟨w1, rfl, e2, e3⟩
        | true =>
          rw [if_pos (show ¬ (if true = true then (1 : Int32) else 0) = 0 by decide), if_pos rfl]
          by_cases k5 : kd = 5
          · rw [if_neg (fun h => h (by rw [k5e]; exact k5)), C_bit, Option.bind_some]
            dsimp only
            rw [msk_one ht]
            obtain ⟨w2, f1, f2, f3⟩ := C_withoutMates e2 (g := fun t => decide (t = to)) (fun t _ h => by rw [of_decide_eq_true h]; exact a2)
            rw [f1, Option.bind_some, decide_eq_true k5, Bool.true_and]
            dsimp only
            refine ⟨w2, ?_, f2, e3.trans f3⟩
            cases hm : matT σ to with
            | true =>
              rw [if_neg (fun h => h (msk_0.mpr (fun t _ => by
                by_cases e : t = to
                · subst e; simp [hm]
                · simp [e])))]
              rfl
            | false =>
              rw [if_pos (fun h => by
                have := msk_0.mp h to ht
                simp [hm] at this)]
              rfl
          · rw [if_pos (fun h => k5 (by rw [k5e] at h; exact h)), decide_eq_false k5, Bool.false_and]
            exact ⟨w1, rfl, e2, e3⟩
      by_cases k5 : kd = 5
      · rw [if_neg (fun h => h (by rw [k5e]; exact k5)), C_lastRow (by omega), Option.bind_some]
        dsimp only
        rw [C_has _ ht, Option.bind_some, msk_bit _ ht]
        dsimp only
        cases hl : isLast σ.2.1 to with
        | true =>
          have e : wndS σ kd to = 3 := by unfold wndS; rw [if_neg a1, if_neg (fun h => h a2), decide_eq_true k5, hl]; rfl
          rw [if_neg (show ¬ (if true = true then (1 : Int32) else 0) = 0 by decide), e]
          exact ⟨w, rfl, hC, FC.refl w⟩
        | false =>
          rw [if_pos (show (if false = true then (1 : Int32) else 0) = 0 from rfl)]
          unfold f_X3_whyNoDrop_55
          rw [if_neg (fun h => h (by rw [k5e]; exact k5)), C_pawnColumns hC (by omega), Option.bind_some]
          dsimp only
          rw [C_has _ ht, Option.bind_some, msk_bit _ ht]
          dsimp only
          cases hp : hasPw σ.1 σ.2.1 (to % 5) with
          | true =>
            have e : wndS σ kd to = 4 := by unfold wndS; rw [if_neg a1, if_neg (fun h => h a2), decide_eq_true k5, hl, hp]; rfl
            rw [if_neg (show ¬ (if true = true then (1 : Int32) else 0) = 0 by decide), e]
            exact ⟨w, rfl, hC, FC.refl w⟩
          | false =>
            rw [if_pos (show (if false = true then (1 : Int32) else 0) = 0 from rfl)]
            exact g74 (by unfold wndS; rw [if_neg a1, if_neg (fun h => h a2), decide_eq_true k5, hl, hp]; rfl)
      · rw [if_pos (fun h => k5 (by rw [k5e] at h; exact h))]
        unfold f_X3_whyNoDrop_55
        rw [if_pos (fun h => k5 (by rw [k5e] at h; exact h))]
        exact g74 (by unfold wndS; rw [if_neg a1, if_neg (fun h => h a2), decide_eq_false k5]; rfl)
    · rw [if_neg (fun h => a2 ((px_encE _ ht20).mp h))]
      have e : wndS σ kd to = 2 := by unfold wndS; rw [if_neg a1, if_pos a2]
      rw [e]
      exact ⟨w, rfl, hC, FC.refl w⟩
