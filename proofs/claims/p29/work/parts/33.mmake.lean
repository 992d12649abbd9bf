theorem px_hand {P t kd : Nat} (hk : 1 ≤ kd) : nI P + 25 + 5 * nI t + nI kd - 1 = nI (P + 25 + (5 * t + kd - 1)) := by
  rw [show nI P + 25 = nI (P + 25) from nI_add P 25, show (5 : Int32) * nI t = nI (5 * t) from pk_mul 5 t, nI_add, nI_add, show nI (P + 25 + 5 * t + kd) - 1 = nI (P + 25 + 5 * t + kd - 1) from pk_sub (b := 1) (by omega), show P + 25 + 5 * t + kd - 1 = P + 25 + (5 * t + kd - 1) by omega]
theorem M_whyNotDrop {P c : Nat} {v : mvW} {σ : PS} (hR : RW v P σ) (hO : OKs σ) (hP : P ≤ 120) (h1 : 1250 ≤ c) (h2 : c < 1375) : f_X5_whyNotDrop (nI P) (nI c) v = some (nI (wndS σ ((c - 1250) / 25 + 1) (c % 25)), v) := by
  obtain ⟨b, t, h, ct⟩ := σ
  obtain ⟨hB, hT, hH, hC⟩ := hR
  obtain ⟨hOb, hOt⟩ := hO
  simp only [] at hB hT hH hC hOb hOt
  have hkd1 : 1 ≤ (c - 1250) / 25 + 1 := by omega
  have hkd5 : (c - 1250) / 25 + 1 ≤ 5 := by omega
  have hto : c % 25 < 25 := by omega
  have ht20 := hOb _ hto
  unfold f_X5_whyNotDrop wndS
  simp only []
  rw [M_kindOf v h1 h2, Option.bind_some, px_p35 (by omega), Option.bind_some, px_r25 (by omega)]
  generalize (c - 1250) / 25 + 1 = kd at *
  generalize c % 25 = to at *
  simp only [hT]
  rw [px_ixe (k := P + 25 + (5 * t + kd - 1)) (px_hand hkd1) (by omega) (by decide), Option.bind_some, hH (5 * t + kd - 1) (by omega)]
  by_cases a1 : h (5 * t + kd - 1) = 0
  · rw [if_neg (fun hh => hh a1), if_pos a1]; rfl
  · rw [if_pos a1, if_neg a1, px_ixe (k := P + to) (nI_add P to) (by omega) (by decide), Option.bind_some, hB to hto]
    by_cases a2 : b to = 0
    · rw [if_pos (show nI (b to) = 0 by rw [a2]; rfl), if_neg (fun hh : b to ≠ 0 => hh a2)]
      have h5 : (nI kd = 5) = (kd = 5) := px_eq (b := 5) (by omega) (by omega)
      have g78 : f_X5_whyNotDrop_78 (nI P) (nI kd) (nI to) (nI t) v = some (nI (if (decide (kd = 5) && hasPw b t (to % 5)) = true then 4 else 0), v) := by
        unfold f_X5_whyNotDrop_78
        simp only [h5]
        by_cases k5 : kd = 5
        · rw [if_neg (fun hh => hh k5), px_r5 (by omega), M_hasPawnIn hB hOb hP hOt (by omega), Option.bind_some, decide_eq_true k5, Bool.true_and]
          cases hasPw b t (to % 5) <;> rfl
        · rw [if_pos k5, decide_eq_false k5]; rfl
      simp only [h5]
      by_cases k5 : kd = 5
      · rw [if_neg (fun hh => hh k5), M_lastRow v hOt, Option.bind_some, px_d5 (by omega), decide_eq_true k5, Bool.true_and]
        have hl5 : (nI (to / 5) = nI (if t = 0 then 0 else 4)) = (to / 5 = if t = 0 then 0 else 4) := px_eq (by omega) (by split <;> omega)
        simp only [hl5]
        by_cases hl : to / 5 = if t = 0 then 0 else 4
        · rw [if_neg (fun hh => hh hl), if_pos (by simp [isLast, hl])]; rfl
        · rw [if_pos hl, if_neg (by simp [isLast, hl]), g78, decide_eq_true k5, Bool.true_and]
      · rw [if_pos k5, g78, decide_eq_false k5]; rfl
    · rw [if_neg (show ¬ nI (b to) = 0 from q_ne (b := 0) rfl (by omega) (by omega) a2), if_pos a2]; rfl
theorem M_whyNot {P c : Nat} {v : mvW} {σ : PS} (hR : RW v P σ) (hO : OKs σ) (hP : P ≤ 120) (h2 : c < 1375) : f_X5_whyNot (nI P) (nI c) v = some (nI (wnS σ c), v) := by
  unfold f_X5_whyNot wnS
  by_cases h1 : 1250 ≤ c
  · rw [if_pos (q_le (L := 1250) (b := 1250) rfl h1 (by omega)), if_neg (by omega), M_whyNotDrop hR hO hP h1 h2]; rfl
  · rw [if_neg (q_nle (L := 1250) (b := 1250) rfl (by omega) (by omega)), if_pos (by omega), M_whyNotMove hR.1 hO.1 hP hO.2 hR.2.1 (by omega)]; rfl
theorem wnS_le (σ : PS) (c : Nat) : wnS σ c ≤ 5 := by
  unfold wnS wnmS wndS
  repeat' split
  all_goals omega
/-- what a play makes of a row -/
def pkd (x : Nat) : Nat := if 5 < knd x then knd x - 4 else knd x
def mkM (σ : PS) (f to : Nat) (pr : Bool) : PS :=
  ((fun q => if q = f then 0 else if q = to then σ.1 f + (if pr = true then 4 else 0) else σ.1 q), 1 - σ.2.1,
   (if σ.1 to = 0 then σ.2.2.1 else upd σ.2.2.1 (5 * σ.2.1 + pkd (σ.1 to) - 1) (σ.2.2.1 (5 * σ.2.1 + pkd (σ.1 to) - 1) + 1)),
   (fun i => if i = 0 then σ.2.2.2 0 + 1 else if i = 1 then (if σ.1 to = 0 then σ.2.2.2 1 else σ.2.2.2 1 + 1) else if i = 2 then (if pr = true then σ.2.2.2 2 + 1 else σ.2.2.2 2) else σ.2.2.2 i))
def mkD (σ : PS) (kd to : Nat) : PS :=
  ((fun q => if q = to then 10 * σ.2.1 + kd + 1 else σ.1 q), 1 - σ.2.1, upd σ.2.2.1 (5 * σ.2.1 + kd - 1) (σ.2.2.1 (5 * σ.2.1 + kd - 1) - 1),
   (fun i => if i = 0 then σ.2.2.2 0 + 1 else if i = 3 then σ.2.2.2 3 + 1 else σ.2.2.2 i))
def mkS (σ : PS) (c : Nat) : PS := if c < 1250 then mkM σ (c % 625 / 25) (c % 25) (decide (625 ≤ c)) else mkD σ ((c - 1250) / 25 + 1) (c % 25)
theorem rd1 (w : mvW) (i j : Nat) (x : Int32) : mv_up w 1 i x 1 j = if j = i then x else w 1 j := by simp [mv_up, upd]
theorem rdn (w : mvW) (k i j c : Nat) (x : Int32) (h : c ≠ k) : mv_up w k i x c j = w c j := by simp [mv_up, h]
/-- a row is changed, nothing else -/
def FR (P : Nat) (v v' : mvW) : Prop := (∀ i, i < P ∨ P + 40 ≤ i → v' 1 i = v 1 i) ∧ ∀ c, c ≠ 1 → v' c = v c
theorem M_makesD {P c : Nat} {v : mvW} {σ : PS} (hR : RW v P σ) (hO : OKs σ) (hP : P ≤ 120) (h1 : 1250 ≤ c) (h2 : c < 1375) : ∃ v', f_X5_makes (nI P) (nI c) v = some (nI (σ.1 (c % 25)) - 1, v') ∧ RW v' P (mkS σ c) ∧ FR P v v' := by
  obtain ⟨b, t, h, ct⟩ := σ
  obtain ⟨hB, hT, hH, hC⟩ := hR
  obtain ⟨hOb, hOt⟩ := hO
  simp only [] at hB hT hH hC hOb hOt
  have hto : c % 25 < 25 := by omega
  unfold f_X5_makes
  rw [px_p35 (by omega), Option.bind_some, px_r25 (by omega), M_manAt v hto hP, Option.bind_some, Option.bind_some, px_p36 (by omega), Option.bind_some, Option.bind_some, if_neg (q_nlt (L := 1250) (b := 1250) rfl h1 (by omega)), M_kindOf _ h1 h2, Option.bind_some]
  simp only [hT]
  rw [px_ixe (k := P + 25 + (5 * t + ((c - 1250) / 25 + 1) - 1)) (px_hand (by omega)) (by omega) (by decide), Option.bind_some, Option.bind_some, M_kindOf _ h1 h2, Option.bind_some, px_ixe (k := P + c % 25) (nI_add P _) (by omega) (by decide), Option.bind_some, px_p39 (by omega), Option.bind_some, Option.bind_some, hB _ hto]
  refine ⟨_, rfl, ?_, ?_⟩
  · unfold mkS mkD
    rw [if_neg (by omega)]
    generalize hkd : (c - 1250) / 25 + 1 = kd
    have hkd1 : 1 ≤ kd := by omega
    have hkd5 : kd ≤ 5 := by omega
    generalize c % 25 = to at *
    have e1 : (10 : Int32) * nI t + nI kd + 1 = nI (10 * t + kd + 1) := by
      rw [show (10 : Int32) * nI t = nI (10 * t) from pk_mul 10 t, nI_add, nI_1]
    rw [e1]
    refine ⟨fun q hq => ?_, ?_, fun i hi => ?_, fun i hi => ?_⟩
    · simp only [rd1]
      by_cases e : q = to
      · subst e; rw [if_neg (by omega), if_pos rfl, if_pos rfl]
      · rw [if_neg (by omega), if_neg (by omega), if_neg (by omega), if_neg (by omega), if_neg (by omega), if_neg e, hB q hq]
    · simp only [rd1]
      rw [if_neg (by omega), if_neg (by omega), if_neg (by omega), if_neg (by omega), if_pos trivial]
      exact pk_sub (a := 1) hOt
    · simp only [rd1, upd]
      by_cases e : i = 5 * t + kd - 1
      · subst e
        rw [if_neg (by omega), if_neg (by omega), if_pos rfl, if_neg (by omega), if_neg (by omega), if_pos rfl, hH _ hi]
      · rw [if_neg (by omega), if_neg (by omega), if_neg (by omega), if_neg (by omega), if_neg (by omega), if_neg e, hH _ hi]
    · simp only [rd1]
      have hC0 := hC 0 (by omega)
      have hC3 := hC 3 (by omega)
      rcases (show i = 0 ∨ i = 1 ∨ i = 2 ∨ i = 3 by omega) with rfl | rfl | rfl | rfl
      · rw [if_neg (by omega), if_neg (by omega), if_neg (by omega), if_pos (by omega), if_neg (by omega), if_pos rfl]
        rw [show P + 36 = P + 36 + 0 from rfl, hC0]
      · rw [if_neg (by omega), if_neg (by omega), if_neg (by omega), if_neg (by omega), if_neg (by omega), if_neg (by omega), if_neg (by omega)]
        exact hC 1 (by omega)
      · rw [if_neg (by omega), if_neg (by omega), if_neg (by omega), if_neg (by omega), if_neg (by omega), if_neg (by omega), if_neg (by omega)]
        exact hC 2 (by omega)
      · rw [if_pos (by omega), if_neg (by omega), if_neg (by omega), if_neg (by omega), if_neg (by omega), if_neg (by omega), if_pos rfl]
        rw [show P + 39 = P + 36 + 3 from rfl, hC3]
  · refine ⟨fun i hi => ?_, fun c hc => ?_⟩
    · simp only [rd1]
      rw [if_neg (by omega), if_neg (by omega), if_neg (by omega), if_neg (by omega), if_neg (by omega)]
    · funext j
      dsimp only
      rw [rdn _ _ _ _ _ _ hc, rdn _ _ _ _ _ _ hc, rdn _ _ _ _ _ _ hc, rdn _ _ _ _ _ _ hc, rdn _ _ _ _ _ _ hc]
