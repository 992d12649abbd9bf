/-! the law calls: on the object's part of the world, on the reference's part -/
def lwX (p : Program) (s : State) (m : MethodId) (c : Code) (b : Nat) (D : va_G) (cI cC : ClassId) (td : Nat → Option Nat) : Prop :=
  p.tables.exec = Jvm.exec ∧ c.code = code ∧ c.maxLocals = 4 ∧ s.vm.findClass RL = some m.cls ∧ (∀ w ∈ wsL_law, w.before #[Value.ref b] s = true) ∧ va_K D vwCl [(cI, .int), (cC, .char)] s ∧ mv_St tbX td (fun q => s.heap.size ≤ q) s s.heap
abbrev wlX (cI cC : ClassId) (ad1 ad2 : Nat → Nat) (w v : mvW) : va_W := mv_wl cI cC ad1 w 0 shX ++ mv_wl cI cC ad2 v 0 shM
theorem lw_cX {p : Program} {l : Launch} {e : Env} {s : State} {m : MethodId} {below : List Frame} {meth : Method} {c : Code} {b : Nat} {D : va_G} {cI cC : ClassId} {td : Nat → Option Nat} {ad1 ad2 : Nat → Nat} {w v : mvW} {H : Heap} {locs : List Loc} {ls : Array Slot} {Q : State → Prop} {pc : Nat} (F : lwX p s m c b D cI cC td)
    {y : MethodName} {ws : List Cond} {rm : Room} {bytes : ByteArray} {maxL n idx : Nat} {ret : Option FieldType} {As : List Int32} {rest : List Value} {z : Int32 × mvW}
    (hM : mv_Ci l D vwCl cI cC tbX td y ws rm shX w (mvC 0 :: As.map Sum.inl) z) (cw : CallW room_1 s #[Value.ref b] RL RX4 idx y bytes maxL ret ws rm 0 0 n) (hn : As.length = n) (hls : ls.size = 4) (hst : (rest.map fun v => v.category).sum ≤ 8) (hd : decode code pc = .ok (.invokevirtual idx, 3))
    (hP : va_P D vwCl (wlX cI cC ad1 ad2 w v) H) (hD : va_D (fun q => s.heap.size ≤ q) (wlX cI cC ad1 ad2 w v)) (hS : va_S (fun q => s.heap.size ≤ q) s.heap H locs)
    (kk : ∀ (H1 : Heap) (locs1 : List Loc), va_P D vwCl (wlX cI cC ad1 ad2 z.2 v) H1 → va_D (fun q => s.heap.size ≤ q) (wlX cI cC ad1 ad2 z.2 v) → va_S (fun q => s.heap.size ≤ q) s.heap H1 locs1 → W p l e room_1 s m #[Value.ref b] below meth c H1 locs1 22 1699 Q (F0 m (pc + 3) ls (.int z.1 :: rest))) :
    W p l e room_1 s m #[Value.ref b] below meth c H locs 22 1699 Q (F0 m pc ls ((As.map Value.int).reverse ++ Value.ref (ad1 0) :: rest)) := by
  obtain ⟨hx, hb, hml, hown, hts, hK, hSt⟩ := F
  have hA : ∀ q : Nat, s.heap.size ≤ q → (fun q : Nat => s.heap.size ≤ q) q := fun _ h => h
  have hPc := hP.sub (ws' := mv_wl cI cC ad1 w 0 shX) [0, 1, 2, 3, 4, 5, 6, 7, 8, 9, 10, 11, 12, 13, 14, 15] rfl
  have hDc := hD.sub (ws' := mv_wl cI cC ad1 w 0 shX) [0, 1, 2, 3, 4, 5, 6, 7, 8, 9, 10, 11, 12, 13, 14, 15] (by decide) rfl
  have hFc := va_free (wc := mv_wl cI cC ad1 w 0 shX) hD hS hA [0, 1, 2, 3, 4, 5, 6, 7, 8, 9, 10, 11, 12, 13, 14, 15] rfl
  have ev : (mvC 0 :: As.map Sum.inl).map (mv_val td ad1) = Value.ref (ad1 0) :: As.map Value.int := by simp [mv_val, mvC]
  refine va_calli (S := Unit) (va_runV (b := ad1 0) (As := As.map Value.int) (rest := rest) ⟨hx, hb, hml, hown, hts⟩ (hM ad1 H.size) cw ⟨mv_Pre_blind _ _ _ _ _ _ _ _ _ _ _, va_recv hK hPc (ci := 4) (q0 := 0) rfl rfl, fun U hU hW => ?_⟩ rfl (by rw [List.length_map]; exact hn) (hls.trans rfl) rfl (lv_room hst) hd ⟨Nat.le_of_ble_eq_true rfl, Nat.le_of_ble_eq_true rfl⟩) hS (fun q _ h => hFc q h) hFc (fun r u t H1 locs1 ht hvm hpost hB hz1 hk1 hS1 => ?_)
  · subst hU
    unfold mv_Pre
    rw [ev]
    exact ⟨rfl, rfl, hPc, va_K.moved hW.alike hK, hDc.weaken (fun _ _ _ _ => trivial), ((hSt.kept (fun a h1 h2 => hS.2.1 a h1 h2)).narrow hFc).warm hW⟩
  · subst hpost
    subst ht
    obtain ⟨hP2, hD2⟩ := va_join (wc := mv_wl cI cC ad1 w 0 shX) (wr := mv_wl cI cC ad2 v 0 shM) (w1 := mv_wl cI cC ad1 z.2 0 shX) hP hD [0, 1, 2, 3, 4, 5, 6, 7, 8, 9, 10, 11, 12, 13, 14, 15] [16, 17, 18, 19, 20, 21] rfl rfl (by decide) (by decide) hk1 hFc hB.1 hB.2
    exact kk t.heap locs1 (hP2.sub [6, 7, 8, 9, 10, 11, 12, 13, 14, 15, 16, 17, 18, 19, 20, 21, 0, 1, 2, 3, 4, 5] rfl) (hD2.sub [6, 7, 8, 9, 10, 11, 12, 13, 14, 15, 16, 17, 18, 19, 20, 21, 0, 1, 2, 3, 4, 5] (by decide) rfl) hS1
theorem lw_cM {p : Program} {l : Launch} {e : Env} {s : State} {m : MethodId} {below : List Frame} {meth : Method} {c : Code} {b : Nat} {D : va_G} {cI cC : ClassId} {td : Nat → Option Nat} {ad1 ad2 : Nat → Nat} {w v : mvW} {H : Heap} {locs : List Loc} {ls : Array Slot} {Q : State → Prop} {pc : Nat} (F : lwX p s m c b D cI cC td)
    {y : MethodName} {ws : List Cond} {rm : Room} {bytes : ByteArray} {maxL n idx : Nat} {ret : Option FieldType} {As : List Int32} {rest : List Value} {z : Int32 × mvW}
    (hM : mv_Ci l D vwCl cI cC tbX td y ws rm shM v (mvC 0 :: As.map Sum.inl) z) (cw : CallW room_1 s #[Value.ref b] RL RX5 idx y bytes maxL ret ws rm 0 0 n) (hn : As.length = n) (hls : ls.size = 4) (hst : (rest.map fun v => v.category).sum ≤ 8) (hd : decode code pc = .ok (.invokevirtual idx, 3))
    (hP : va_P D vwCl (wlX cI cC ad1 ad2 w v) H) (hD : va_D (fun q => s.heap.size ≤ q) (wlX cI cC ad1 ad2 w v)) (hS : va_S (fun q => s.heap.size ≤ q) s.heap H locs)
    (kk : ∀ (H1 : Heap) (locs1 : List Loc), va_P D vwCl (wlX cI cC ad1 ad2 w z.2) H1 → va_D (fun q => s.heap.size ≤ q) (wlX cI cC ad1 ad2 w z.2) → va_S (fun q => s.heap.size ≤ q) s.heap H1 locs1 → W p l e room_1 s m #[Value.ref b] below meth c H1 locs1 22 1699 Q (F0 m (pc + 3) ls (.int z.1 :: rest))) :
    W p l e room_1 s m #[Value.ref b] below meth c H locs 22 1699 Q (F0 m pc ls ((As.map Value.int).reverse ++ Value.ref (ad2 0) :: rest)) := by
  obtain ⟨hx, hb, hml, hown, hts, hK, hSt⟩ := F
  have hA : ∀ q : Nat, s.heap.size ≤ q → (fun q : Nat => s.heap.size ≤ q) q := fun _ h => h
  have hPc := hP.sub (ws' := mv_wl cI cC ad2 v 0 shM) [16, 17, 18, 19, 20, 21] rfl
  have hDc := hD.sub (ws' := mv_wl cI cC ad2 v 0 shM) [16, 17, 18, 19, 20, 21] (by decide) rfl
  have hFc := va_free (wc := mv_wl cI cC ad2 v 0 shM) hD hS hA [16, 17, 18, 19, 20, 21] rfl
  have ev : (mvC 0 :: As.map Sum.inl).map (mv_val td ad2) = Value.ref (ad2 0) :: As.map Value.int := by simp [mv_val, mvC]
  refine va_calli (S := Unit) (va_runV (b := ad2 0) (As := As.map Value.int) (rest := rest) ⟨hx, hb, hml, hown, hts⟩ (hM ad2 H.size) cw ⟨mv_Pre_blind _ _ _ _ _ _ _ _ _ _ _, va_recv hK hPc (ci := 5) (q0 := 0) rfl rfl, fun U hU hW => ?_⟩ rfl (by rw [List.length_map]; exact hn) (hls.trans rfl) rfl (lv_room hst) hd ⟨Nat.le_of_ble_eq_true rfl, Nat.le_of_ble_eq_true rfl⟩) hS (fun q _ h => hFc q h) hFc (fun r u t H1 locs1 ht hvm hpost hB hz1 hk1 hS1 => ?_)
  · subst hU
    unfold mv_Pre
    rw [ev]
    exact ⟨rfl, rfl, hPc, va_K.moved hW.alike hK, hDc.weaken (fun _ _ _ _ => trivial), ((hSt.kept (fun a h1 h2 => hS.2.1 a h1 h2)).narrow hFc).warm hW⟩
  · subst hpost
    subst ht
    obtain ⟨hP2, hD2⟩ := va_join (wc := mv_wl cI cC ad2 v 0 shM) (wr := mv_wl cI cC ad1 w 0 shX) (w1 := mv_wl cI cC ad2 z.2 0 shM) hP hD [16, 17, 18, 19, 20, 21] [0, 1, 2, 3, 4, 5, 6, 7, 8, 9, 10, 11, 12, 13, 14, 15] rfl rfl (by decide) (by decide) hk1 hFc hB.1 hB.2
    exact kk t.heap locs1 hP2 hD2 hS1
