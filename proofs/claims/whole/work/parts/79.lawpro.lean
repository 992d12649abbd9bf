/-! the law from its entry -/
theorem lw_arrK {args : Array Value} {s : State} {ty : FieldType} (hp : ty = .int ∨ ty = .char) (h : (Cond.arrayClass ty).before args s = true) : ∃ cA : ClassId, ArrOfT s cA ty ∧ va_RA s cA ty := by
  obtain ⟨cA, kA, comp, h1, h2, h3⟩ := Cond.arrayClass_spec h
  refine ⟨cA, fun n z => ?_, ?_⟩
  · rcases hp with rfl | rfl
    · exact ⟨fun k h => (by cases h), kA, h2, comp, h3⟩
    · exact ⟨fun k h => (by cases h), kA, h2, comp, h3⟩
  · rcases hp with rfl | rfl
    · exact h1
    · exact h1
abbrev sX0 : List mvSh := [.inr (4, [some none, some none, some none, some none, some none, some none, none])]
abbrev sM0 : List mvSh := [.inr (5, [some none, some none, some none, none, some none, none, some none, none])]
theorem law_pro {p : Program} {e : Env} {s : State} {m : MethodId} {below : List Frame} {meth : Method} {c : Code} (l : Launch) {b L : Nat} {xs : Nat → Int32} (C0 : lw_At p s m meth c b L xs)
    (kk : ∀ (D : va_G) (cI cC : ClassId) (td : Nat → Option Nat), lwX p s m c b D cI cC td → ∀ (ad1 ad2 : Nat → Nat) (w v : mvW) (H : Heap) (locs : List Loc) (ls : Array Slot), Rel w v → va_P D vwCl (wlX cI cC ad1 ad2 w v) H → va_D (fun q => s.heap.size ≤ q) (wlX cI cC ad1 ad2 w v) → va_S (fun q => s.heap.size ≤ q) s.heap H locs → lv_has ls 4 [(0, .ref b), (1, .ref (ad1 0)), (2, .ref (ad2 0)), (3, .int (nI 0))] → W p l e room_1 s m #[Value.ref b] below meth c H locs 22 1699 (lw_Z below #[Value.ref b] s) (F0 m 18 ls [])) :
    W p l e room_1 s m #[Value.ref b] below meth c s.heap [] 0 0 (lw_Z below #[Value.ref b] s) (entryFrame m ([Value.ref b] : List Value).toArray 4) := by
  obtain ⟨hx, hb, hr, hml, hown, hts, hX, hbl, hlocks, hgv⟩ := id C0
  have hA : ∀ q : Nat, s.heap.size ≤ q → (fun q : Nat => s.heap.size ≤ q) q := fun _ h => h
  have htw : ∀ w ∈ wsL_law, w.before #[Value.ref b] s = true := fun w hw => hts w (wsL_law_in w hw)
  have hown' : s.vm.findClass RL = some m.cls := hown
  obtain ⟨c0, i0, k0⟩ := u_known (C := RX0) (T := TX0) (N := 2) (n := 2) htw (by decide +kernel) (htw (.instantiable RX0 2) (by decide +kernel))
  obtain ⟨c1, i1, k1⟩ := u_known (C := RX1) (T := TX1) (N := 5) (n := 5) htw (by decide +kernel) (htw (.instantiable RX1 5) (by decide +kernel))
  obtain ⟨c2, i2, k2⟩ := u_known (C := RX2) (T := TX2) (N := 2) (n := 2) htw (by decide +kernel) (htw (.instantiable RX2 2) (by decide +kernel))
  obtain ⟨c3, i3, k3⟩ := u_known (C := RX3) (T := TX3) (N := 6) (n := 6) htw (by decide +kernel) (htw (.instantiable RX3 6) (by decide +kernel))
  obtain ⟨c4, i4, k4⟩ := u_known (C := RX4) (T := TX4) (N := 7) (n := 7) htw (by decide +kernel) (htw (.instantiable RX4 7) (by decide +kernel))
  obtain ⟨c5, i5, k5⟩ := u_known (C := RX5) (T := TX5) (N := 8) (n := 8) htw (by decide +kernel) (htw (.instantiable RX5 8) (by decide +kernel))
  obtain ⟨cI, aI, rI⟩ := lw_arrK (Or.inl rfl) (htw (Cond.arrayClass .int) (by decide +kernel))
  obtain ⟨cC, aC, rC⟩ := lw_arrK (Or.inr rfl) (htw (Cond.arrayClass .char) (by decide +kernel))
  obtain ⟨D, hK⟩ : ∃ D : va_G, va_K D vwCl [(cI, .int), (cC, .char)] s := by
    refine ⟨(fun k => if k = 0 then c0 else if k = 1 then c1 else if k = 2 then c2 else if k = 3 then c3 else if k = 4 then c4 else c5, fun k => if k = 0 then i0 else if k = 1 then i1 else if k = 2 then i2 else if k = 3 then i3 else if k = 4 then i4 else i5), ?_, ?_⟩
    · intro k q hq
      match k, hq with
      | 0, hq => cases hq; exact k0
      | 1, hq => cases hq; exact k1
      | 2, hq => cases hq; exact k2
      | 3, hq => cases hq; exact k3
      | 4, hq => cases hq; exact k4
      | 5, hq => cases hq; exact k5
      | k + 6, hq => simp [vwCl] at hq
    · intro k q hq
      match k, hq with
      | 0, hq => cases hq; exact ⟨aI, rI⟩
      | 1, hq => cases hq; exact ⟨aC, rC⟩
      | k + 2, hq => simp at hq
  obtain ⟨td, hSt⟩ := lw_St htw hts hgv
  have F : lwX p s m c b D cI cC td := ⟨hx, hb, hml, hown', htw, hK, hSt⟩
  obtain ⟨w, v, ew, ev, hRel⟩ := Start
  have hS : va_S (fun q : Nat => s.heap.size ≤ q) s.heap s.heap [] := va_S.rf
  have hP : va_P D vwCl [] s.heap := fun k q h => by simp at h
  have hD : va_D (fun q : Nat => s.heap.size ≤ q) [] := ⟨fun i j p q h => by simp at h, fun k q h => by simp at h⟩
  have hl := lv_entry ([.ref b]) (n := 4) (Nat.le_of_ble_eq_true rfl)
  rw [lg_entry_eq]
  generalize (lg_sl ([.ref b]) ++ List.replicate (4 - (lg_sl ([.ref b])).length) Slot.unset).toArray = ls at hl ⊢
  have hl : lv_has ls 4 [(0, .ref b)] := hl
  refine va_new (ci := 4) (fs := [.null, .null, .null, .null, .null, .null, .int 0]) (C := RX4) (T := TX4) (N := 7) hx hb htw (by decide +kernel) tyX4 tyX4_ok hown' (htw (.classLink RL 7 RX4) (by decide +kernel)) (htw (.instantiable RX4 7) (by decide +kernel)) (htw (.initialized RX4) (by decide +kernel)) hK hP hD hS hA rfl (fun j hj => by rcases (show j = 0 ∨ j = 1 ∨ j = 2 ∨ j = 3 ∨ j = 4 ∨ j = 5 ∨ j = 6 by omega) with rfl | rfl | rfl | rfl | rfl | rfl | rfl <;> rfl) (Nat.le_of_ble_eq_true rfl) (Nat.le_of_ble_eq_true rfl) dL_law_0 (fun q0 H hP hD hS => ?_)
  have hP : va_P D vwCl (mv_wl cI cC (fun _ => q0) (fun _ _ => 0) 0 sX0) H := hP
  have hD : va_D (fun q => s.heap.size ≤ q) (mv_wl cI cC (fun _ => q0) (fun _ _ => 0) 0 sX0) := hD
  refine W.widen (k := 1) (n := 7) (by omega) (by omega) ?_
  refine lv_dup hx hb dL_law_3 rfl ?_
  have hFc := va_free (wc := mv_wl cI cC (fun _ => q0) (fun _ _ => 0) 0 sX0) hD hS hA [0] rfl
  refine va_callv (S := Nat → Nat) (va_runI (b := q0) (As := []) (rest := [.ref q0]) ⟨hx, hb, hml, hown', htw⟩ (c_X4_init l D cI cC td (fun _ _ => 0) w ew (fun _ => q0) H.size) (cwI 0 htw gL_law_X4_init rfl rfl rfl (htw (.initialized RX4) (by decide +kernel)) (htw (.methodLink RL 9 yX4_init) (by decide +kernel)) (htw (.instanceMethod yX4_init) (by decide +kernel)) rfl (by decide +kernel) ⟨(Nat.le_of_ble_eq_true rfl), (Nat.le_of_ble_eq_true rfl)⟩) ⟨mv_Pre_blind _ _ _ _ _ _ _ _ _ _ _, fun U hU hW => ?_⟩ rfl rfl hl.1 rfl (lv_room (Nat.le_of_ble_eq_true rfl)) dL_law_4 ⟨(Nat.le_of_ble_eq_true rfl), (Nat.le_of_ble_eq_true rfl)⟩) hS (fun q _ h => hFc q h) hFc (fun ad1 t H1 locs1 ht hvm hag hB hz1 hk1 hS1 => ?_)
  · subst hU
    exact ⟨rfl, rfl, hP, va_K.moved hW.alike hK, hD.weaken (fun _ _ _ _ => trivial), ((hSt.kept (fun a h1 h2 => hS.2.1 a h1 h2)).narrow hFc).warm hW⟩
  subst ht
  have e0 : ad1 0 = q0 := hag 0 (by decide)
  subst e0
  have hP := hB.1
  have hD := hB.2.weaken (fun k q _ h => hFc q.1 h)
  have hS := hS1
  refine W.widen (k := 16) (n := 1231) (by omega) (by omega) ?_
  refine lv_astore_n (lv' := [(1, .ref (ad1 0)), (0, .ref b)]) hx hb dL_law_7 rfl hl (by decide) rfl (fun ls hl => ?_)
  refine va_new (ci := 5) (fs := [.null, .null, .null, .int 0, .null, .int 0, .null, .int 0]) (C := RX5) (T := TX5) (N := 8) hx hb htw (by decide +kernel) tyX5 tyX5_ok hown' (htw (.classLink RL 10 RX5) (by decide +kernel)) (htw (.instantiable RX5 8) (by decide +kernel)) (htw (.initialized RX5) (by decide +kernel)) hK hP hD hS hA rfl (fun j hj => by rcases (show j = 0 ∨ j = 1 ∨ j = 2 ∨ j = 3 ∨ j = 4 ∨ j = 5 ∨ j = 6 ∨ j = 7 by omega) with rfl | rfl | rfl | rfl | rfl | rfl | rfl | rfl <;> rfl) (Nat.le_of_ble_eq_true rfl) (Nat.le_of_ble_eq_true rfl) dL_law_8 (fun q1 H hP hD hS => ?_)
  have hP : va_P D vwCl (mv_wl cI cC ad1 w 0 shX ++ mv_wl cI cC (fun _ => q1) (fun _ _ => 0) 0 sM0) H := hP
  have hD : va_D (fun q => s.heap.size ≤ q) (mv_wl cI cC ad1 w 0 shX ++ mv_wl cI cC (fun _ => q1) (fun _ _ => 0) 0 sM0) := hD
  refine W.widen (k := 17) (n := 1239) (by omega) (by omega) ?_
  refine lv_dup hx hb dL_law_11 rfl ?_
  have hPc := hP.sub (ws' := mv_wl cI cC (fun _ => q1) (fun _ _ => 0) 0 sM0) [16] rfl
  have hDc := hD.sub (ws' := mv_wl cI cC (fun _ => q1) (fun _ _ => 0) 0 sM0) [16] (by decide) rfl
  have hFc := va_free (wc := mv_wl cI cC (fun _ => q1) (fun _ _ => 0) 0 sM0) hD hS hA [16] rfl
  refine va_callv (S := Nat → Nat) (va_runI (b := q1) (As := []) (rest := [.ref q1]) ⟨hx, hb, hml, hown', htw⟩ (c_X5_init l D cI cC td (fun _ _ => 0) v ev (fun _ => q1) H.size) (cwI 0 htw gL_law_X5_init rfl rfl rfl (htw (.initialized RX5) (by decide +kernel)) (htw (.methodLink RL 12 yX5_init) (by decide +kernel)) (htw (.instanceMethod yX5_init) (by decide +kernel)) rfl (by decide +kernel) ⟨(Nat.le_of_ble_eq_true rfl), (Nat.le_of_ble_eq_true rfl)⟩) ⟨mv_Pre_blind _ _ _ _ _ _ _ _ _ _ _, fun U hU hW => ?_⟩ rfl rfl hl.1 rfl (lv_room (Nat.le_of_ble_eq_true rfl)) dL_law_12 ⟨(Nat.le_of_ble_eq_true rfl), (Nat.le_of_ble_eq_true rfl)⟩) hS (fun q _ h => hFc q h) hFc (fun ad2 t H1 locs1 ht hvm hag hB hz1 hk1 hS1 => ?_)
  · subst hU
    exact ⟨rfl, rfl, hPc, va_K.moved hW.alike hK, hDc.weaken (fun _ _ _ _ => trivial), ((hSt.kept (fun a h1 h2 => hS.2.1 a h1 h2)).narrow hFc).warm hW⟩
  subst ht
  have e1 : ad2 0 = q1 := hag 0 (by decide)
  subst e1
  obtain ⟨hP2, hD2⟩ := va_join (wc := mv_wl cI cC (fun _ => ad2 0) (fun _ _ => 0) 0 sM0) (wr := mv_wl cI cC ad1 w 0 shX) (w1 := mv_wl cI cC ad2 v 0 shM) hP hD [16] [0, 1, 2, 3, 4, 5, 6, 7, 8, 9, 10, 11, 12, 13, 14, 15] rfl rfl (by decide) (by decide) hk1 hFc hB.1 hB.2
  refine W.widen (k := 22) (n := 1699) (by omega) (by omega) ?_
  refine lv_astore_n (lv' := [(2, .ref (ad2 0)), (1, .ref (ad1 0)), (0, .ref b)]) hx hb dL_law_15 rfl hl (by decide) rfl (fun ls hl => ?_)
  refine lv_iconst (v := 0) hx hb dL_law_16 (by decide) ?_
  refine lv_istore_n (lv' := [(3, .int 0), (2, .ref (ad2 0)), (1, .ref (ad1 0)), (0, .ref b)]) hx hb dL_law_17 rfl hl (by decide) rfl (fun ls hl => ?_)
  exact kk D cI cC td F ad1 ad2 w v t.heap locs1 ls hRel hP2 hD2 hS1 (lv_sub hl [3, 2, 1, 0] rfl)
