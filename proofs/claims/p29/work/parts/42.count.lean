/-! the men that strike a square: counted from them, or from the square -/
def allp (t : Nat) : List Nat := pth t 0 ++ pth t 1 ++ pth t 2 ++ pth t 3 ++ pth t 4 ++ pth t 5 ++ pth t 6 ++ pth t 7
def indI (b : Nat → Nat) (s t q : Nat) : Nat := if (isOwn b s q && att b (b q) q t) = true then 1 else 0
theorem hitL_at {b : Nat → Nat} {m t : Nat} : ∀ (l : List Nat) (k far : Nat), l[k]? = some t → (∀ j, j < k → l[j]? ≠ some t) → hitL b m far l t = (decide (far + k ≤ m) && (l.take k).all (fun q => decide (b q = 0)))
  | [], k, far, h, _ => by simp at h
  | y :: ys, 0, far, h, _ => by
    simp at h
    simp [hitL, h]
  | y :: ys, k + 1, far, h, hj => by
    have h0 : y ≠ t := fun e => hj 0 (by omega) (by simp [e])
    rw [List.getElem?_cons_succ] at h
    have ih := hitL_at (b := b) (m := m) ys k (far + 1) h (fun j hjk => by have := hj (j + 1) (by omega); rwa [List.getElem?_cons_succ] at this)
    rw [hitL, ih, List.take_succ_cons, List.all_cons, decide_eq_false h0, Bool.false_or]
    by_cases e : far + (k + 1) ≤ m
    · rw [decide_eq_true e, decide_eq_true (show far ≤ m by omega), decide_eq_true (show far + 1 + k ≤ m by omega)]
      simp
    · rw [decide_eq_false e, decide_eq_false (show ¬ far + 1 + k ≤ m by omega)]
      simp
theorem hitL_no {b : Nat → Nat} {m t far : Nat} {l : List Nat} (h : t ∉ l) : hitL b m far l t = false := by
  cases hh : hitL b m far l t with
  | false => rfl
  | true => exact absurd (hitL_mem hh) h
theorem pth_rev : ∀ t, t < 25 → ∀ d, d < 8 → ∀ k, k < 4 → (match (pth t d)[k]? with | none => true | some q => decide (q < 25) && decide ((pth q (7 - d))[k]? = some t) && decide ((pth q (7 - d)).take k = ((pth t d).take k).reverse) && ((List.range k).all (fun j => decide ((pth q (7 - d))[j]? ≠ some t))) && ((List.range 8).all (fun w => decide (w = 7 - d) || !(pth q w).contains t))) = true := by decide +kernel
theorem any8 {f : Nat → Bool} {d : Nat} (hd : d < 8) (h : ∀ w, w < 8 → w ≠ d → f w = false) : (List.range 8).any f = f d := by
  cases hf : f d with
  | true => exact List.any_eq_true.mpr ⟨d, List.mem_range.mpr hd, hf⟩
  | false =>
    rw [List.any_eq_false]
    intro w hw
    rw [List.mem_range] at hw
    by_cases e : w = d
    · rw [e, hf]; decide
    · rw [h w hw e]; decide
theorem att_at {b : Nat → Nat} {t d k q x : Nat} (ht : t < 25) (hd : d < 8) (hq : (pth t d)[k]? = some q) : att b x q t = (decide (1 + k ≤ mst x (7 - d)) && ((pth t d).take k).all (fun r => decide (b r = 0))) := by
  have hk : k < 4 := by
    have h1 := (List.getElem?_eq_some_iff.mp hq).1
    have h2 := pth_len t ht d hd
    omega
  have h := pth_rev t ht d hd k hk
  rw [hq] at h
  simp only [Bool.and_eq_true, decide_eq_true_eq, List.all_eq_true, List.mem_range, Bool.or_eq_true, Bool.not_eq_true'] at h
  obtain ⟨⟨⟨⟨h0, h1⟩, h2⟩, h3⟩, h4⟩ := h
  unfold att
  rw [any8 (d := 7 - d) (by omega) (fun w hw hne => hitL_no (by
    rcases h4 w hw with e | e
    · exact absurd e hne
    · intro hm
      have := List.contains_iff_mem.mpr hm
      rw [this] at e; cases e)), hitL_at _ k 1 h1 h3, h2]
  rw [List.all_reverse]
theorem sum_zero {I : Nat → Nat} : ∀ (l : List Nat), (∀ q ∈ l, I q = 0) → (l.map I).sum = 0
  | [], _ => rfl
  | y :: ys, h => by rw [List.map_cons, List.sum_cons, h y List.mem_cons_self, sum_zero ys (fun q hq => h q (List.mem_cons_of_mem _ hq))]
theorem hitB_sum {b : Nat → Nat} {s back : Nat} {I : Nat → Nat} : ∀ (l : List Nat) (far : Nat), (∀ k q, l[k]? = some q → I q = if (isOwn b s q && (decide (far + k ≤ mst (b q) back) && (l.take k).all (fun r => decide (b r = 0)))) = true then 1 else 0) → hitB b s back far l = (l.map I).sum
  | [], _, _ => rfl
  | y :: ys, far, h => by
    have hy := h 0 y rfl
    simp only [List.take_zero, List.all_nil, Bool.and_true, Nat.add_zero] at hy
    rw [hitB, List.map_cons, List.sum_cons, hy]
    by_cases h0 : b y = 0
    · rw [if_neg (fun hh => hh h0), if_neg (by simp [isOwn, h0]), Nat.zero_add]
      refine hitB_sum ys (far + 1) (fun k q hk => ?_)
      have := h (k + 1) q (by rw [List.getElem?_cons_succ]; exact hk)
      rw [this, List.take_succ_cons, List.all_cons, decide_eq_true h0, Bool.true_and, show far + (k + 1) = far + 1 + k by omega]
    · rw [if_pos h0]
      have hz : (ys.map I).sum = 0 := by
        have : ∀ q ∈ ys, I q = 0 := by
          intro q hq
          obtain ⟨k, hk⟩ := List.getElem?_of_mem hq
          have := h (k + 1) q (by rw [List.getElem?_cons_succ]; exact hk)
          rw [this, List.take_succ_cons, List.all_cons, decide_eq_false h0, Bool.false_and, Bool.and_false, Bool.and_false]
          rfl
        exact sum_zero ys this
      rw [hz, Nat.add_zero]
      have e : isOwn b s y = decide ((b y - 1) / 10 = s) := by simp [isOwn, h0]
      rw [e]
theorem sum_filter {I : Nat → Nat} {p : Nat → Bool} : ∀ (l : List Nat), (∀ q ∈ l, p q = false → I q = 0) → (l.map I).sum = ((l.filter p).map I).sum
  | [], _ => rfl
  | y :: ys, h => by
    rw [List.map_cons, List.sum_cons, sum_filter ys (fun q hq => h q (List.mem_cons_of_mem _ hq)), List.filter_cons]
    cases hp : p y with
    | true => rw [if_pos rfl, List.map_cons, List.sum_cons]
    | false => rw [if_neg (by decide), h y List.mem_cons_self hp, Nat.zero_add]
theorem allp_perm : ∀ t, t < 25 → ((List.range 25).filter (fun q => (allp t).contains q)).isPerm (allp t) = true := by decide +kernel
theorem allp_back : ∀ q, q < 25 → ∀ w, w < 8 → ∀ t ∈ pth q w, (allp t).contains q = true := by decide +kernel
theorem perm_sum {I : Nat → Nat} {a b : List Nat} (h : a.Perm b) : (a.map I).sum = (b.map I).sum := by
  induction h with
  | nil => rfl
  | cons x _ ih => simp only [List.map_cons, List.sum_cons, ih]
  | swap x y l => simp only [List.map_cons, List.sum_cons]; omega
  | trans _ _ ih1 ih2 => exact ih1.trans ih2
theorem cnt_sum (b : Nat → Nat) (s t : Nat) : ∀ n, cntN b s t n = ((List.range n).map (indI b s t)).sum
  | 0 => rfl
  | n + 1 => by
    rw [cntN, cnt_sum b s t n, List.range_succ, List.map_append, List.sum_append]
    simp [indI]
theorem cb_cnt (b : Nat → Nat) {s t : Nat} (ht : t < 25) : cbN b s t 8 = cnt b s t := by
  have hd : ∀ d, d < 8 → hitB b s (7 - d) 1 (pth t d) = ((pth t d).map (indI b s t)).sum := by
    intro d hd
    refine hitB_sum _ 1 (fun k q hk => ?_)
    unfold indI
    rw [att_at ht hd hk]
  have h1 : cbN b s t 8 = ((allp t).map (indI b s t)).sum := by
    unfold allp
    simp only [List.map_append, List.sum_append, cbN, Nat.zero_add]
    rw [hd 0 (by omega), hd 1 (by omega), hd 2 (by omega), hd 3 (by omega), hd 4 (by omega), hd 5 (by omega), hd 6 (by omega), hd 7 (by omega)]
  have h2 : cnt b s t = ((List.range 25).map (indI b s t)).sum := cnt_sum b s t 25
  rw [h1, h2, sum_filter (p := fun q => (allp t).contains q) (List.range 25) (fun q hq hp => ?_)]
  · exact (perm_sum (List.isPerm_iff.mp (allp_perm t ht))).symm
  · rw [List.mem_range] at hq
    unfold indI
    have : att b (b q) q t = false := by
      cases ha : att b (b q) q t with
      | false => rfl
      | true =>
        obtain ⟨w, hw, h3⟩ := List.any_eq_true.mp ha
        have := allp_back q hq w (List.mem_range.mp hw) t (hitL_mem h3)
        rw [this] at hp; cases hp
    rw [this, Bool.and_false]; rfl
theorem C_countAttackers {w : mvW} {σ : PS} (hC : CI w σ) {s t : Nat} (hs : s ≤ 1) (ht : t < 25) : f_X2_countAttackers (nI s) (nI t) w = some (nI (cnt σ.1 s t), w) := by
  rw [C_countB hC hs ht, cb_cnt σ.1 ht]
/-- kingOf, countAttackers: whether a side is in check -/
theorem C_chk {w : mvW} {σ : PS} (hC : CI w σ) {s : Nat} (hs : s < 2) : ∃ n : Nat, n ≤ 25 ∧ ((f_X2_kingOf (nI s) w).bind fun z => f_X2_countAttackers (1 - nI s) z.1 z.2) = some (nI n, w) ∧ (0 < n ↔ chk σ.1 s = true) := by
  rw [C_kingOf hC hs, Option.bind_some]
  unfold chk
  cases hk : kg σ.1 s with
  | none =>
    refine ⟨0, by omega, ?_, by simp⟩
    dsimp only
    rw [kgI_none hk, C_countNo]; rfl
  | some q =>
    obtain ⟨h1, h2⟩ := kg_some hk
    refine ⟨cnt σ.1 (1 - s) q, cntN_le _ _ _ _, ?_, by simp⟩
    dsimp only
    rw [kgI_some hk, show (1 : Int32) - nI s = nI (1 - s) from pk_sub (a := 1) (by omega), C_countAttackers hC (by omega) h1]
