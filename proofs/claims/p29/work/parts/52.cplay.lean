/-! plays by their codes: made, taken back, counted; mated; which numbers tell plays -/
theorem resS_cong {b : Nat → Nat} {t : Nat} {h c1 c2 : Nat → Int32} (c : Nat) : resS (b, t, h, c1) c = resS (b, t, h, c2) c := by
  unfold resS
  have e1 : wnS (b, t, h, c1) c = wnS (b, t, h, c2) c := rfl
  have e2 : (mkS (b, t, h, c1) c).1 = (mkS (b, t, h, c2) c).1 := by unfold mkS; split <;> rfl
  have e3 : hasS (mkS (b, t, h, c1) c) = hasS (mkS (b, t, h, c2) c) := by
    unfold mkS
    split
    · exact hasS_cong
    · exact hasS_cong
  rw [e1, e2, e3]
theorem numS_cong {b : Nat → Nat} {t : Nat} {h c1 c2 : Nat → Int32} : numS (b, t, h, c1) = numS (b, t, h, c2) := by
  unfold numS
  exact numN_cong 1375 (fun c _ => by unfold alw; rw [resS_cong])
def matS (σ : PS) : Bool := chk σ.1 σ.2.1 && decide (numS σ = 0)
theorem FG.of {w : mvW} {σ : PS} (_ : CI w σ) : FG w w := FG.refl w
theorem numS_lt (σ : PS) : numS σ ≤ 1375 := numN_le _ _
theorem C_isMated {w : mvW} {σ : PS} (hC : CI w σ) : ∃ w', f_X3_isMated w = some (if matS σ = true then 1 else 0, w') ∧ CI w' σ ∧ FG w w' := by
  unfold f_X3_isMated matS
  rw [C_isInCheck hC, Option.bind_some]
  cases chk σ.1 σ.2.1 with
  | false => exact ⟨w, rfl, hC, FG.refl w⟩
  | true =>
    obtain ⟨w1, a1, a2, a3, -, -⟩ := C_findPlays hC
    dsimp only
    rw [if_neg (show ¬ (if true = true then (1 : Int32) else 0) = 0 by decide), a1, Option.bind_some, Bool.true_and]
    refine ⟨w1, ?_, a2, a3⟩
    have := numS_lt σ
    by_cases h : numS σ = 0
    · rw [h]; rfl
    · rw [if_pos (nI_ne0 (by omega) (by omega)), decide_eq_false h]; rfl
theorem M_isMated {P : Nat} {v : mvW} {σ : PS} (hR : RW v P σ) (hO : OKs σ) (hP : P ≤ 40) : ∃ v', f_X5_isMated (nI P) v = some (if matS σ = true then 1 else 0, v') ∧ FU (P + 40) v v' := by
  unfold f_X5_isMated matS
  rw [px_p35 (by omega), Option.bind_some, hR.2.1, M_isInCheck hR.1 hO.1 (by omega) hO.2, Option.bind_some]
  cases chk σ.1 σ.2.1 with
  | false => exact ⟨v, rfl, FU.refl _ _⟩
  | true =>
    obtain ⟨v1, a1, a2⟩ := M_plays hR hO hP
    dsimp only
    rw [if_neg (show ¬ (if true = true then (1 : Int32) else 0) = 0 by decide), a1, Option.bind_some, Bool.true_and]
    refine ⟨v1, ?_, a2⟩
    have := numS_lt σ
    by_cases h : numS σ = 0
    · rw [h]; rfl
    · rw [if_pos (nI_ne0 (by omega) (by omega)), decide_eq_false h]; rfl
theorem M_told {c : Nat} (hc : c < 1375) (v : mvW) : f_X5_told (nI c) v = some (nI (tld c), v) := by
  unfold f_X5_told tld
  by_cases h : c < 1250
  · rw [if_neg (q_nle (L := 1250) (b := 1250) rfl h (by omega)), M_from v hc, Option.bind_some, if_pos h, px_d625 (by omega), px_r25 (by omega)]
    dsimp only
    rw [show (10000 : Int32) * nI (c / 625) = nI (10000 * (c / 625)) from pk_mul 10000 _, show (100 : Int32) * nI (c % 625 / 25) = nI (100 * (c % 625 / 25)) from pk_mul 100 _, nI_add, nI_add]
    unfold mpN
    refine congrArg (fun n => some (nI n, v)) ?_
    by_cases h2 : 625 ≤ c
    · rw [decide_eq_true h2, if_pos rfl]; omega
    · rw [decide_eq_false h2, if_neg (by decide)]; omega
  · rw [if_pos (q_le (L := 1250) (b := 1250) rfl (by omega) (by omega)), M_kindOf v (by omega) hc, Option.bind_some, if_neg h, px_r25 (by omega)]
    dsimp only
    rw [show (100 : Int32) * nI ((c - 1250) / 25 + 1) = nI (100 * ((c - 1250) / 25 + 1)) from pk_mul 100 _, show (20000 : Int32) + nI (100 * ((c - 1250) / 25 + 1)) = nI (20000 + 100 * ((c - 1250) / 25 + 1)) from nI_add 20000 _, nI_add]
    rfl
def apS (σ : PS) (c : Nat) : PS := ((mkS σ c).1, (mkS σ c).2.1, (mkS σ c).2.2.1, σ.2.2.2)
theorem apS_move {σ : PS} {c : Nat} (h : c < 1250) : apS σ c = apM σ (c % 625 / 25) (c % 25) (decide (625 ≤ c)) := by
  unfold apS apM mkS
  rw [if_pos h]; rfl
theorem apS_drop {σ : PS} {c : Nat} (h : ¬ c < 1250) : apS σ c = apD σ ((c - 1250) / 25 + 1) (c % 25) := by
  unfold apS apD mkS
  rw [if_neg h]; rfl
theorem alw_wn {σ : PS} {c : Nat} (h : alw σ c = true) : wnS σ c = 0 := by
  unfold alw at h
  have h := of_decide_eq_true h
  unfold resS at h
  by_cases e : wnS σ c = 0
  · exact e
  · rw [if_pos e] at h; exact absurd h e
theorem wn_drop0 {σ : PS} {c : Nat} (h : ¬ c < 1250) (h0 : wnS σ c = 0) : σ.1 (c % 25) = 0 := by
  unfold wnS wndS at h0
  rw [if_neg h] at h0
  by_cases a1 : σ.2.2.1 (5 * σ.2.1 + ((c - 1250) / 25 + 1) - 1) = 0
  · rw [if_pos a1] at h0; cases h0
  · rw [if_neg a1] at h0
    by_cases a2 : σ.1 (c % 25) = 0
    · exact a2
    · rw [if_pos a2] at h0; cases h0
theorem wn_move0 {σ : PS} {c : Nat} (h : c < 1250) (h0 : wnS σ c = 0) : wnmS σ.1 σ.2.1 (c % 625 / 25) (c % 25) (decide (625 ≤ c)) = 0 := by
  unfold wnS at h0
  rw [if_pos h] at h0
  exact h0
theorem C_applyS {w : mvW} {σ : PS} (hC : CI w σ) {c : Nat} (hc : c < 1375) (h0 : wnS σ c = 0) : ∃ w', f_X2_apply (nI (tld c)) w = some (encM (σ.1 (c % 25)), w') ∧ CI w' (apS σ c) ∧ FC w w' := by
  unfold tld
  by_cases h : c < 1250
  · rw [if_pos h, apS_move h]
    exact C_applyM hC (by omega) (by omega) (wn_move0 h h0)
  · rw [if_neg h, apS_drop h, wn_drop0 h h0]
    exact C_applyD hC (by omega) (by omega) (by omega)
theorem C_takeBackS {w : mvW} {σ : PS} (hO : OKs σ) (hU : KU σ.1) {c : Nat} (hC : CI w (apS σ c)) (hc : c < 1375) (h0 : wnS σ c = 0) : ∃ w', f_X2_takeBack (nI (tld c)) (encM (σ.1 (c % 25))) w = some w' ∧ CI w' σ ∧ FC w w' := by
  unfold tld
  by_cases h : c < 1250
  · rw [if_pos h]
    rw [apS_move h] at hC
    exact C_takeBackM hO hU hC (by omega) (by omega) (wn_move0 h h0)
  · rw [if_neg h]
    rw [apS_drop h] at hC
    exact C_takeBackD hO hC (by omega) (by omega) (by omega) (wn_drop0 h h0) _
theorem CI.cnts {w : mvW} {b : Nat → Nat} {t : Nat} {h c c' : Nat → Int32} (hC : CI w (b, t, h, c)) (e : ∀ i, i < 4 → c i = c' i) : CI w (b, t, h, c') := by
  obtain ⟨⟨a1, a2, a3, a4, a5⟩, b, c, d⟩ := hC
  exact ⟨⟨a1, a2, a3, fun i hi => (a4 i hi).trans (e i hi), a5⟩, b, c, d⟩
theorem CI.cup {w : mvW} {b : Nat → Nat} {t : Nat} {h c : Nat → Int32} (hC : CI w (b, t, h, c)) {i : Nat} (hi : i < 4) (x : Int32) : CI (mv_up w 2 (40 + i) x) (b, t, h, upd c i x) ∧ FC w (mv_up w 2 (40 + i) x) := by
  obtain ⟨⟨a1, a2, a3, a4, a5⟩, b, c, d⟩ := hC
  have hf : FC w (mv_up w 2 (40 + i) x) := fun k hk => by funext j; exact rdn w 2 _ j k x hk
  refine ⟨⟨⟨fun q hq => ?_, ?_, fun s k hs h1 h5 => ?_, fun j hj => ?_, fun s hs => ?_⟩, b.keep hf, c, d⟩, hf⟩
  · rw [rd2, if_neg (by omega)]; exact a1 q hq
  · rw [rd2, if_neg (by omega)]; exact a2
  · rw [rd2, if_neg (by omega)]; exact a3 s k hs h1 h5
  · rw [rd2]
    show _ = if j = i then x else _
    by_cases e : j = i
    · rw [if_pos (by omega), if_pos e]
    · rw [if_neg (by omega), if_neg e]; exact a4 j hj
  · rw [rd2, if_neg (by omega)]; exact a5 s hs
theorem encM_99 {x : Nat} (hx : x ≤ 20) : (encM x = 99) = (x = 0) := propext (px_encE x hx)
theorem CI_count {w : mvW} {σ : PS} (hC : CI w σ) {i : Nat} (hi : i < 4) : w 2 (40 + i) = σ.2.2.2 i := hC.1.2.2.2.1 i hi
theorem C_playS {w : mvW} {σ : PS} (hC : CI w σ) {c : Nat} (hc : c < 1375) (h0 : wnS σ c = 0) : ∃ w', f_X2_play (nI (tld c)) w = some (encM (σ.1 (c % 25)), w') ∧ CI w' (mkS σ c) ∧ FC w w' := by
  have hO := hC.2.2.2
  have ht20 := hO.1 (c % 25) (by omega)
  obtain ⟨w1, a1, a2, a3⟩ := C_applyS hC hc h0
  have hlt := tld_lt hc
  unfold f_X2_play
  rw [a1, Option.bind_some]
  dsimp only
  have k0 : w1 2 40 = σ.2.2.2 0 := CI_count a2 (i := 0) (by decide)
  have k1 : w1 2 41 = σ.2.2.2 1 := CI_count a2 (i := 1) (by decide)
  have k2 : w1 2 42 = σ.2.2.2 2 := CI_count a2 (i := 2) (by decide)
  have k3 : w1 2 43 = σ.2.2.2 3 := CI_count a2 (i := 3) (by decide)
  have i0 := CI.cup (i := 0) (show CI w1 ((mkS σ c).1, (mkS σ c).2.1, (mkS σ c).2.2.1, σ.2.2.2) from a2) (by decide) (σ.2.2.2 0 + 1)
  have tail : ∀ (u : mvW) (d : Nat → Int32), CI u ((mkS σ c).1, (mkS σ c).2.1, (mkS σ c).2.2.1, d) → FC w u → d 0 = σ.2.2.2 0 + 1 → d 1 = (if σ.1 (c % 25) = 0 then σ.2.2.2 1 else σ.2.2.2 1 + 1) → d 2 = σ.2.2.2 2 → d 3 = σ.2.2.2 3 → ∃ w', f_X2_play_34 (nI (tld c)) (encM (σ.1 (c % 25))) u = some (encM (σ.1 (c % 25)), w') ∧ CI w' (mkS σ c) ∧ FC w w' := by
    intro u d hu hf d0 d1 d2 d3
    unfold f_X2_play_34
    by_cases h : c < 1250
    · have e : mkS σ c = ((mkS σ c).1, (mkS σ c).2.1, (mkS σ c).2.2.1, (mkM σ (c % 625 / 25) (c % 25) (decide (625 ≤ c))).2.2.2) := by unfold mkS; rw [if_pos h]
      obtain ⟨m1, m2, m3, m4⟩ := mpN_eq (f := c % 625 / 25) (to := c % 25) (by omega) (by omega) (decide (625 ≤ c))
      have et : tld c = mpN (c % 625 / 25) (c % 25) (decide (625 ≤ c)) := by unfold tld; rw [if_pos h]
      rw [et, if_pos (q_lt (L := 20000) (b := 20000) rfl m1 (by omega))]
      by_cases h2 : 625 ≤ c
      · rw [if_neg (q_nlt (L := 10000) (b := 10000) rfl (by
          have := mt m4.mp (by rw [decide_eq_true h2]; decide)
          omega) (by omega))]
        have ku : u 2 42 = σ.2.2.2 2 := (CI_count hu (i := 2) (by decide)).trans d2
        rw [ku]
        obtain ⟨j1, j2⟩ := hu.cup (i := 2) (by decide) (σ.2.2.2 2 + 1)
        refine ⟨_, rfl, ?_, hf.trans j2⟩
        rw [e]
        refine j1.cnts (fun i hi => ?_)
        unfold mkM
        rw [decide_eq_true h2]
        rcases (by omega : i = 0 ∨ i = 1 ∨ i = 2 ∨ i = 3) with r | r | r | r <;> subst r <;> simp [upd, d0, d1, d3]
      · rw [if_pos (q_lt (L := 10000) (b := 10000) rfl (m4.mpr (decide_eq_false h2)) (by omega))]
        refine ⟨_, rfl, ?_, hf⟩
        rw [e]
        refine hu.cnts (fun i hi => ?_)
        unfold mkM
        rw [decide_eq_false h2]
        rcases (by omega : i = 0 ∨ i = 1 ∨ i = 2 ∨ i = 3) with r | r | r | r <;> subst r <;> simp [d0, d1, d2, d3]
    · have e : mkS σ c = ((mkS σ c).1, (mkS σ c).2.1, (mkS σ c).2.2.1, (mkD σ ((c - 1250) / 25 + 1) (c % 25)).2.2.2) := by unfold mkS; rw [if_neg h]
      have et : 20000 ≤ tld c := by unfold tld dpN; rw [if_neg h]; omega
      rw [if_neg (q_nlt (L := 20000) (b := 20000) rfl et (by omega))]
      have ku : u 2 43 = σ.2.2.2 3 := (CI_count hu (i := 3) (by decide)).trans d3
      rw [ku]
      obtain ⟨j1, j2⟩ := hu.cup (i := 3) (by decide) (σ.2.2.2 3 + 1)
      refine ⟨_, rfl, ?_, hf.trans j2⟩
      rw [e]
      refine j1.cnts (fun i hi => ?_)
      unfold mkD
      rw [wn_drop0 h h0, if_pos rfl] at d1
      rcases (by omega : i = 0 ∨ i = 1 ∨ i = 2 ∨ i = 3) with r | r | r | r <;> subst r <;> simp [upd, d0, d1, d2]
  rw [k0]
  by_cases hz : σ.1 (c % 25) = 0
  · rw [if_pos (show encM (σ.1 (c % 25)) = 99 from (px_encE _ ht20).mpr hz)]
    exact tail _ _ i0.1 (a3.trans i0.2) (by simp [upd]) (by simp [upd, hz]) (by simp [upd]) (by simp [upd])
  · rw [if_neg (show ¬ encM (σ.1 (c % 25)) = 99 from fun h => hz ((px_encE _ ht20).mp h))]
    have e41 : mv_up w1 2 40 (σ.2.2.2 0 + 1) 2 41 = σ.2.2.2 1 := by rw [rd2, if_neg (by decide), k1]
    rw [e41]
    have i1 := CI.cup (i := 1) i0.1 (by decide) (σ.2.2.2 1 + 1)
    exact tail _ _ i1.1 (a3.trans (i0.2.trans i1.2)) (by simp [upd]) (by simp [upd, hz]) (by simp [upd]) (by simp [upd])
/-- the code that a number tells, if any -/
def cod (n : Nat) : Option Nat :=
  if 25 ≤ n % 100 then none else if 20000 ≤ n then (if 1 ≤ (n - 20000) / 100 ∧ (n - 20000) / 100 ≤ 5 then some (dcd ((n - 20000) / 100) (n % 100)) else none)
  else if n % 10000 / 100 < 25 then some (mcd (n % 10000 / 100) (n % 100) (decide (10000 ≤ n))) else none
theorem cod_some {n c : Nat} (h : cod n = some c) : c < 1375 ∧ tld c = n := by
  unfold cod at h
  by_cases h1 : 25 ≤ n % 100
  · rw [if_pos h1] at h; cases h
  · rw [if_neg h1] at h
    by_cases h2 : 20000 ≤ n
    · rw [if_pos h2] at h
      by_cases h3 : 1 ≤ (n - 20000) / 100 ∧ (n - 20000) / 100 ≤ 5
      · rw [if_pos h3] at h
        obtain ⟨d1, d2, d3, d4, d5⟩ := dcd_eq h3.1 h3.2 (to := n % 100) (by omega)
        have h := Option.some.inj h
        subst h
        refine ⟨d2, ?_⟩
        unfold tld
        rw [if_neg d1, d3, d4]
        unfold dpN
        omega
      · rw [if_neg h3] at h; cases h
    · rw [if_neg h2] at h
      by_cases h3 : n % 10000 / 100 < 25
      · rw [if_pos h3] at h
        obtain ⟨d1, d2, d3, d4⟩ := mcd_eq h3 (to := n % 100) (by omega) (decide (10000 ≤ n))
        have h := Option.some.inj h
        subst h
        refine ⟨by omega, ?_⟩
        unfold tld
        rw [if_pos d1, d2, d3, d4]
        unfold mpN
        by_cases h4 : 10000 ≤ n
        · rw [decide_eq_true h4, if_pos rfl]; omega
        · rw [decide_eq_false h4, if_neg (by decide)]; omega
      · rw [if_neg h3] at h; cases h
theorem cod_tld {c : Nat} (hc : c < 1375) : cod (tld c) = some c := by
  unfold tld
  by_cases h : c < 1250
  · rw [if_pos h]
    obtain ⟨m1, m2, m3, m4⟩ := mpN_eq (f := c % 625 / 25) (to := c % 25) (by omega) (by omega) (decide (625 ≤ c))
    unfold cod
    rw [m2, m3, if_neg (by omega), if_neg (by omega), if_pos (by omega)]
    have e : decide (10000 ≤ mpN (c % 625 / 25) (c % 25) (decide (625 ≤ c))) = decide (625 ≤ c) := by
      by_cases h2 : 625 ≤ c
      · rw [decide_eq_true h2] at m4 ⊢
        have := mt m4.mp (by decide)
        exact decide_eq_true (by omega)
      · rw [decide_eq_false h2] at m4 ⊢
        have := m4.mpr rfl
        exact decide_eq_false (by omega)
    rw [e, mcd_of h]
  · rw [if_neg h]
    unfold cod
    have e1 : dpN ((c - 1250) / 25 + 1) (c % 25) % 100 = c % 25 := by unfold dpN; omega
    have e2 : (dpN ((c - 1250) / 25 + 1) (c % 25) - 20000) / 100 = (c - 1250) / 25 + 1 := by unfold dpN; omega
    rw [e1, e2, if_neg (by omega), if_pos (by unfold dpN; omega), if_pos (by omega)]
    unfold dcd
    exact congrArg some (by omega)
theorem tld_inj {c d : Nat} (hc : c < 1375) (hd : d < 1375) (h : tld c = tld d) : c = d := by
  have := cod_tld hc
  rw [h, cod_tld hd] at this
  exact (Option.some.inj this).symm
