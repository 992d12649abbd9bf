/-- a move that nothing but the own king's check forbids -/
theorem wnmS_0 {b : Nat → Nat} {t f to : Nat} {pr : Bool} (h : wnmS b t f to pr = 0) : isOwn b t f = true ∧ att b (b f) f to = true ∧ isOwn b t to = false ∧ (b to ≠ 0 → knd (b to) ≠ 0) ∧ (pr = true → 2 ≤ knd (b f) ∧ knd (b f) ≤ 5) := by
  unfold wnmS at h
  by_cases h1 : isOwn b t f = false
  · rw [if_pos h1] at h; cases h
  · rw [if_neg h1] at h
    by_cases h2 : att b (b f) f to = false
    · rw [if_pos h2] at h; cases h
    · rw [if_neg h2] at h
      by_cases h3 : (isOwn b t to || (decide (b to ≠ 0) && decide (knd (b to) = 0))) = true
      · rw [if_pos h3] at h; cases h
      · rw [if_neg h3] at h
        simp only [Bool.or_eq_true, Bool.and_eq_true, decide_eq_true_eq, not_or, not_and] at h3
        refine ⟨by simpa using h1, by simpa using h2, by simpa using h3.1, h3.2, fun hp => ?_⟩
        rw [if_pos hp] at h
        by_cases h4 : canP b t f to = true
        · simp only [canP, Bool.and_eq_true, decide_eq_true_eq] at h4
          exact h4.1
        · rw [if_neg h4] at h; cases h
theorem nxt_ne : ∀ q, q < 25 → ∀ w, w < 8 → ∀ r ∈ pth q w, r ≠ q := by decide +kernel
theorem hitL_mem {b : Nat → Nat} {m t : Nat} : ∀ {l : List Nat} {far : Nat}, hitL b m far l t = true → t ∈ l
  | [], _, h => by simp [hitL] at h
  | q :: qs, far, h => by
    simp only [hitL, Bool.and_eq_true, Bool.or_eq_true, decide_eq_true_eq] at h
    rcases h.2 with h | h
    · rw [h]; exact List.mem_cons_self
    · exact List.mem_cons_of_mem _ (hitL_mem h.2)
theorem att_ne {b : Nat → Nat} {x q t : Nat} (hq : q < 25) (h : att b x q t = true) : t ≠ q := by
  obtain ⟨w, hw, h2⟩ := List.any_eq_true.mp h
  exact nxt_ne q hq w (List.mem_range.mp hw) t (hitL_mem h2)
theorem pkd_in {x : Nat} (h : x ≠ 0) (hk : knd x ≠ 0) : 1 ≤ pkd x ∧ pkd x ≤ 5 := by
  unfold pkd knd at *
  split <;> omega
theorem M_makesM {P c : Nat} {v : mvW} {σ : PS} (hR : RW v P σ) (hO : OKs σ) (hP : P ≤ 120) (h2 : c < 1250) (h0 : wnS σ c = 0) : ∃ v', f_X5_makes (nI P) (nI c) v = some (nI (σ.1 (c % 25)) - 1, v') ∧ RW v' P (mkS σ c) ∧ FR P v v' := by
  obtain ⟨b, t, h, ct⟩ := σ
  obtain ⟨hB, hT, hH, hC⟩ := hR
  obtain ⟨hOb, hOt⟩ := hO
  simp only [] at hB hT hH hC hOb hOt
  have hto : c % 25 < 25 := by omega
  have hf : c % 625 / 25 < 25 := by omega
  unfold wnS at h0
  rw [if_pos h2] at h0
  obtain ⟨g1, g2, g3, g4, g5⟩ := wnmS_0 h0
  simp only [] at g1 g2 g3 g4 g5
  have hne := att_ne hf g2
  unfold f_X5_makes
  rw [px_p35 (by omega), Option.bind_some, px_r25 (by omega), M_manAt v hto hP, Option.bind_some, Option.bind_some, px_p36 (by omega), Option.bind_some, Option.bind_some, if_pos (q_lt (L := 1250) (b := 1250) rfl h2 (by omega)), M_from _ (by omega), Option.bind_some]
  simp only [hT]
  rw [hB _ hto]
  unfold mkS mkM
  rw [if_pos h2]
  simp only []
  have hb20 := hOb _ hto
  have hf20 := hOb _ hf
  have hpr : ((625 : Int32) ≤ nI c) = (625 ≤ c) := px_le (a := 625) (by omega) (by omega)
  have hprt : 625 ≤ c → (625 : Int32) ≤ nI c := fun h => by rw [hpr]; exact h
  have hprf : ¬ 625 ≤ c → ¬ (625 : Int32) ≤ nI c := fun h => by rw [hpr]; exact h
  generalize c % 625 / 25 = f at *
  generalize c % 25 = to at *
  -- the world after side and count
  generalize hv1 : mv_up (mv_up v 1 (P + 35) (1 - nI t)) 1 (P + 36) ((mv_up v 1 (P + 35) (1 - nI t)) 1 (P + 36) + 1) = v1
  have r1 : ∀ j, v1 1 j = if j = P + 36 then v 1 (P + 36) + 1 else if j = P + 35 then nI (1 - t) else v 1 j := by
    intro j
    rw [← hv1]
    simp only [rd1]
    rw [if_neg (by omega : ¬ P + 36 = P + 35), show (1 : Int32) - nI t = nI (1 - t) from pk_sub (a := 1) hOt]
  have r1c : ∀ c, c ≠ 1 → v1 c = v c := by
    intro c hc
    rw [← hv1]
    funext j
    rw [rdn _ _ _ _ _ _ hc, rdn _ _ _ _ _ _ hc]
  -- the end, over any world that differs from v1 in the hand and the count of men taken
  have fin : ∀ (v2 : mvW) (hd : Nat → Int32) (tk : Int32) (x5 : Int32), (∀ j, v2 1 j = if P + 25 ≤ j ∧ j < P + 35 then hd (j - (P + 25)) else if j = P + 37 then tk else v1 1 j) → (∀ c, c ≠ 1 → v2 c = v c) → ∃ v', f_X5_makes_189 (nI P) (nI c) (nI to) x5 (nI f) v2 = some (x5, v') ∧ RW v' P ((fun q => if q = f then 0 else if q = to then b f + (if decide (625 ≤ c) = true then 4 else 0) else b q), 1 - t, hd, (fun i => if i = 0 then ct 0 + 1 else if i = 1 then tk else if i = 2 then (if decide (625 ≤ c) = true then ct 2 + 1 else ct 2) else ct i)) ∧ FR P v v' := by
    intro v2 hd tk x5 r2 r2c
    unfold f_X5_makes_189
    rw [px_ixe (k := P + f) (nI_add P f) (by omega) (by decide), Option.bind_some]
    have rf : v2 1 (P + f) = nI (b f) := by
      rw [r2, if_neg (by omega), if_neg (by omega), r1, if_neg (by omega), if_neg (by omega), hB f hf]
    have r38 : v2 1 (P + 38) = ct 2 := by
      rw [r2, if_neg (by omega), if_neg (by omega), r1, if_neg (by omega), if_neg (by omega)]
      exact hC 2 (by omega)
    have all : ∀ (s0 : Int32) (ad cd : Nat), s0 = nI ad → (∀ (X : Int32), RW (mv_up (mv_up (mv_up v2 1 (P + to) (nI (b f) + s0)) 1 (P + f) 0) 1 (P + 38) X) P ((fun q => if q = f then 0 else if q = to then b f + ad else b q), 1 - t, hd, (fun i => if i = 0 then ct 0 + 1 else if i = 1 then tk else if i = 2 then X else ct i))) ∧ ∀ X : Int32, FR P v (mv_up (mv_up (mv_up v2 1 (P + to) (nI (b f) + s0)) 1 (P + f) 0) 1 (P + 38) X) := by
      intro s0 ad cd hs
      refine ⟨fun X => ⟨fun q hq => ?_, ?_, fun i hi => ?_, fun i hi => ?_⟩, fun X => ⟨fun i hi => ?_, fun c hc => ?_⟩⟩
      · simp only [rd1]
        rw [if_neg (by omega)]
        by_cases e : q = f
        · subst e; rw [if_pos rfl, if_pos rfl]; rfl
        · rw [if_neg (by omega), if_neg e]
          by_cases e2 : q = to
          · subst e2; rw [if_pos rfl, if_pos rfl, hs, nI_add]
          · rw [if_neg (by omega), if_neg e2, r2, if_neg (by omega), if_neg (by omega), r1, if_neg (by omega), if_neg (by omega), hB q hq]
      · simp only [rd1]
        rw [if_neg (by omega), if_neg (by omega), if_neg (by omega), r2, if_neg (by omega), if_neg (by omega), r1, if_neg (by omega), if_pos rfl]
      · simp only [rd1]
        rw [if_neg (by omega), if_neg (by omega), if_neg (by omega), r2, if_pos (by omega), show P + 25 + i - (P + 25) = i by omega]
      · simp only [rd1]
        have hC0 := hC 0 (by omega)
        rcases (show i = 0 ∨ i = 1 ∨ i = 2 ∨ i = 3 by omega) with rfl | rfl | rfl | rfl
        · rw [if_neg (by omega), if_neg (by omega), if_neg (by omega), r2, if_neg (by omega), if_neg (by omega), r1, if_pos (by omega), if_pos rfl, ← hC0]
        · rw [if_neg (by omega), if_neg (by omega), if_neg (by omega), r2, if_neg (by omega), if_pos (by omega), if_neg (by omega), if_pos rfl]
        · rw [if_pos (by omega), if_neg (by omega), if_neg (by omega), if_pos rfl]
        · rw [if_neg (by omega), if_neg (by omega), if_neg (by omega), r2, if_neg (by omega), if_neg (by omega), r1, if_neg (by omega), if_neg (by omega), if_neg (by omega), if_neg (by omega), if_neg (by omega)]
          exact hC 3 (by omega)
      · simp only [rd1]
        rw [if_neg (by omega), if_neg (by omega), if_neg (by omega), r2, if_neg (by omega), if_neg (by omega), r1, if_neg (by omega), if_neg (by omega)]
      · funext j
        rw [rdn _ _ _ _ _ _ hc, rdn _ _ _ _ _ _ hc, rdn _ _ _ _ _ _ hc, r2c c hc]
    have rd38 : ∀ (s0 : Int32), (mv_up (mv_up v2 1 (P + to) (nI (b f) + s0)) 1 (P + f) 0) 1 (P + 38) = ct 2 := by
      intro s0
      simp only [rd1]
      rw [if_neg (by omega), if_neg (by omega), r38]
    by_cases hp : 625 ≤ c
    · rw [if_pos (hprt hp)]
      unfold f_X5_makes_218
      rw [px_ixe (k := P + to) (nI_add P to) (by omega) (by decide), Option.bind_some, px_ixe (k := P + f) (nI_add P f) (by omega) (by decide), Option.bind_some, px_p38 (by omega), Option.bind_some, if_pos (hprt hp), Option.bind_some, rf, rd38]
      refine ⟨_, rfl, ?_, (all 4 4 1 rfl).2 _⟩
      have := (all 4 4 1 rfl).1 (ct 2 + 1)
      simpa [hp] using this
    · rw [if_neg (hprf hp)]
      unfold f_X5_makes_218
      rw [px_ixe (k := P + to) (nI_add P to) (by omega) (by decide), Option.bind_some, px_ixe (k := P + f) (nI_add P f) (by omega) (by decide), Option.bind_some, px_p38 (by omega), Option.bind_some, if_neg (hprf hp), Option.bind_some, rf, rd38]
      refine ⟨_, rfl, ?_, (all 0 0 0 rfl).2 _⟩
      have := (all 0 0 0 rfl).1 (ct 2 + 0)
      simpa [hp] using this
  by_cases hz : b to = 0
  · rw [hz, if_pos (by decide), if_pos rfl, if_pos rfl]
    exact fin v1 h (ct 1) _ (fun j => by
      by_cases q1 : P + 25 ≤ j ∧ j < P + 35
      · rw [if_pos q1, r1, if_neg (by omega), if_neg (by omega)]
        have := hH (j - (P + 25)) (by omega)
        rw [← this, show P + 25 + (j - (P + 25)) = j by omega]
      · rw [if_neg q1]
        by_cases q2 : j = P + 37
        · rw [if_pos q2, r1, if_neg (by omega), if_neg (by omega), q2]
          exact hC 1 (by omega)
        · rw [if_neg q2]) r1c
  · obtain ⟨p1, p2⟩ := pkd_in hz (g4 hz)
    rw [if_neg hz, if_neg hz, px_m1 (by omega), if_neg (nI_pos (by omega)), px_r10 (by omega)]
    simp only [show (nI ((b to - 1) % 10) ≤ (5 : Int32)) = ((b to - 1) % 10 ≤ 5) from px_le (b := 5) (by omega) (by omega)]
    have mid : f_X5_makes_152 (fun x1' x2' x4' x5' x6' w' => f_X5_makes_189 x1' x2' x4' x5' x6' w') (nI P) (nI c) (nI t) (nI to) (nI (b to - 1)) (nI f) (nI (pkd (b to))) v1 = f_X5_makes_189 (nI P) (nI c) (nI to) (nI (b to - 1)) (nI f) (mv_up (mv_up v1 1 (P + 25 + (5 * t + pkd (b to) - 1)) (h (5 * t + pkd (b to) - 1) + 1)) 1 (P + 37) (ct 1 + 1)) := by
      unfold f_X5_makes_152
      rw [px_ixe (k := P + 25 + (5 * t + pkd (b to) - 1)) (px_hand p1) (by omega) (by decide), Option.bind_some, Option.bind_some, px_p37 (by omega), Option.bind_some, Option.bind_some]
      have a1 : v1 1 (P + 25 + (5 * t + pkd (b to) - 1)) = h (5 * t + pkd (b to) - 1) := by
        rw [r1, if_neg (by omega), if_neg (by omega), hH _ (by omega)]
      have a2 : ∀ X, (mv_up v1 1 (P + 25 + (5 * t + pkd (b to) - 1)) X) 1 (P + 37) = ct 1 := by
        intro X
        rw [rd1, if_neg (by omega), r1, if_neg (by omega), if_neg (by omega)]
        exact hC 1 (by omega)
      rw [a1, a2]
    have e : (if (b to - 1) % 10 ≤ 5 then f_X5_makes_152 (fun x1' x2' x4' x5' x6' w' => f_X5_makes_189 x1' x2' x4' x5' x6' w') (nI P) (nI c) (nI t) (nI to) (nI (b to - 1)) (nI f) (nI ((b to - 1) % 10)) v1 else f_X5_makes_152 (fun x1' x2' x4' x5' x6' w' => f_X5_makes_189 x1' x2' x4' x5' x6' w') (nI P) (nI c) (nI t) (nI to) (nI (b to - 1)) (nI f) (nI ((b to - 1) % 10) - 4) v1) = f_X5_makes_152 (fun x1' x2' x4' x5' x6' w' => f_X5_makes_189 x1' x2' x4' x5' x6' w') (nI P) (nI c) (nI t) (nI to) (nI (b to - 1)) (nI f) (nI (pkd (b to))) v1 := by
      by_cases q : (b to - 1) % 10 ≤ 5
      · rw [if_pos q]; congr 2; unfold pkd knd; rw [if_neg (by omega)]
      · rw [if_neg q, show nI ((b to - 1) % 10) - 4 = nI ((b to - 1) % 10 - 4) from pk_sub (b := 4) (by omega)]; congr 2; unfold pkd knd; rw [if_pos (by omega)]
    rw [e, mid]
    refine fin _ _ (ct 1 + 1) _ (fun j => ?_) (fun c hc => ?_)
    · simp only [rd1, upd]
      by_cases q2 : j = P + 37
      · rw [if_pos q2, if_neg (by omega), if_pos q2]
      · rw [if_neg q2]
        by_cases q1 : P + 25 ≤ j ∧ j < P + 35
        · rw [if_pos q1]
          by_cases q3 : j = P + 25 + (5 * t + pkd (b to) - 1)
          · rw [if_pos q3, if_pos (by omega)]
          · rw [if_neg q3, if_neg (by omega), r1, if_neg (by omega), if_neg (by omega)]
            have := hH (j - (P + 25)) (by omega)
            rw [← this, show P + 25 + (j - (P + 25)) = j by omega]
        · rw [if_neg q1, if_neg (by omega), if_neg q2]
    · funext j
      rw [rdn _ _ _ _ _ _ hc, rdn _ _ _ _ _ _ hc, r1c c hc]
theorem M_makes {P c : Nat} {v : mvW} {σ : PS} (hR : RW v P σ) (hO : OKs σ) (hP : P ≤ 120) (h2 : c < 1375) (h0 : wnS σ c = 0) : ∃ v', f_X5_makes (nI P) (nI c) v = some (nI (σ.1 (c % 25)) - 1, v') ∧ RW v' P (mkS σ c) ∧ FR P v v' := by
  by_cases h : c < 1250
  · exact M_makesM hR hO hP h h0
  · exact M_makesD hR hO hP (by omega) h2
theorem mkS_ok {σ : PS} (hO : OKs σ) {c : Nat} (h2 : c < 1375) (h0 : wnS σ c = 0) : OKs (mkS σ c) := by
  obtain ⟨b, t, h, ct⟩ := σ
  obtain ⟨hOb, hOt⟩ := hO
  simp only [] at hOb hOt
  unfold mkS
  by_cases h1 : c < 1250
  · rw [if_pos h1]
    unfold wnS at h0
    rw [if_pos h1] at h0
    obtain ⟨g1, g2, g3, g4, g5⟩ := wnmS_0 h0
    refine ⟨fun q hq => ?_, by show 1 - t ≤ 1; omega⟩
    show (if q = c % 625 / 25 then 0 else if q = c % 25 then b (c % 625 / 25) + (if decide (625 ≤ c) = true then 4 else 0) else b q) ≤ 20
    have hf := hOb (c % 625 / 25) (by omega)
    split
    · omega
    · split
      · by_cases hp : decide (625 ≤ c) = true
        · rw [if_pos hp]
          have := g5 hp
          simp only [knd] at this
          omega
        · rw [if_neg hp]; omega
      · exact hOb q hq
  · rw [if_neg h1]
    refine ⟨fun q hq => ?_, by show 1 - t ≤ 1; omega⟩
    show (if q = c % 25 then 10 * t + ((c - 1250) / 25 + 1) + 1 else b q) ≤ 20
    split
    · omega
    · exact hOb q hq
