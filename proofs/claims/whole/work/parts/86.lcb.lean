/-! the law's cases 1 (printed by wip/whole/lawgen.py) -/
theorem law_takeOff {p : Program} {l : Launch} {e : Env} {s : State} {m : MethodId} {below : List Frame} {meth : Method} {c : Code} {b L : Nat} {xs : Nat → Int32} {D : va_G} {cI cC : ClassId} {td : Nat → Option Nat} (F : lwX p s m c b D cI cC td) (hX : va_X b L xs s s.heap) (hbl : b < s.heap.size) (hL : L ≤ 2048) {ad1 ad2 : Nat → Nat} {w v : mvW} {H : Heap} {locs : List Loc} {ls : Array Slot} {q : Nat} (hq : q + 4 ≤ L) (hR : Rel w v)
    (hP : va_P D vwCl (wlX cI cC ad1 ad2 w v) H) (hD : va_D (fun q => s.heap.size ≤ q) (wlX cI cC ad1 ad2 w v)) (hS : va_S (fun q => s.heap.size ≤ q) s.heap H locs) (hl : lv_has ls 4 [(0, .ref b), (1, .ref (ad1 0)), (2, .ref (ad2 0)), (3, .int (nI q))])
    (kk : ∀ (w' v' : mvW) (H1 : Heap) (locs1 : List Loc), Rel w' v' → va_P D vwCl (wlX cI cC ad1 ad2 w' v') H1 → va_D (fun q => s.heap.size ≤ q) (wlX cI cC ad1 ad2 w' v') → va_S (fun q => s.heap.size ≤ q) s.heap H1 locs1 → W p l e room_1 s m #[Value.ref b] below meth c H1 locs1 22 1699 (lw_Z below #[Value.ref b] s) (F0 m 814 ls [])) :
    W p l e room_1 s m #[Value.ref b] below meth c H locs 22 1699 (lw_Z below #[Value.ref b] s) (F0 m 300 ls []) := by
  obtain ⟨hx, hb, hml, hown, hts, hK, hSt⟩ := id F
  have hbA : ¬ (fun q : Nat => s.heap.size ≤ q) b := Nat.not_le.mpr hbl
  have h1 : vp_in (nI q + 1) L := by rw [nI_1]; exact vp_in_nI (by omega) (by omega)
  have h2 : vp_in (nI q + 2) L := by rw [show nI q + 2 = nI (q + 2) from nI_add q 2]; exact vp_in_nI (by omega) (by omega)
  have h3 : vp_in (nI q + 3) L := by rw [show nI q + 3 = nI (q + 3) from nI_add q 3]; exact vp_in_nI (by omega) (by omega)
  refine lv_aload_n hx hb dL_law_300 rfl (lv_at hl 1 rfl) ?_
  refine lv_aload_n hx hb dL_law_301 rfl (lv_at hl 0 rfl) ?_
  refine lv_iload_n hx hb dL_law_302 rfl (lv_at hl 3 rfl) ?_
  refine lv_iconst (v := 1) hx hb dL_law_303 (by decide) ?_
  refine lv_iadd hx hb dL_law_304 ?_
  refine va_sld hx hb hX hbl hbA hS h1 dL_law_305 ?_
  obtain ⟨a, w', v', e1, e2, hR'⟩ := L_takeOff hR (xs (nI q + 1).toNatClampNeg)
  refine lw_cX F (As := [(xs (nI q + 1).toNatClampNeg)]) (rest := []) (c_X4_takeOff l D cI cC td (xs (nI q + 1).toNatClampNeg) w _ e1) (cwV 1 hts gL_law_X4_takeOff rfl rfl rfl (by decide +kernel) ⟨Nat.le_of_ble_eq_true rfl, Nat.le_of_ble_eq_true rfl⟩) rfl hl.1 (Nat.le_of_ble_eq_true rfl) dL_law_306 hP hD hS (fun H locs hP hD hS => ?_)
  refine lv_aload_n hx hb dL_law_309 rfl (lv_at hl 2 rfl) ?_
  refine lv_aload_n hx hb dL_law_310 rfl (lv_at hl 0 rfl) ?_
  refine lv_iload_n hx hb dL_law_311 rfl (lv_at hl 3 rfl) ?_
  refine lv_iconst (v := 1) hx hb dL_law_312 (by decide) ?_
  refine lv_iadd hx hb dL_law_313 ?_
  refine va_sld hx hb hX hbl hbA hS h1 dL_law_314 ?_
  refine lw_cM F (As := [(xs (nI q + 1).toNatClampNeg)]) (rest := [.int a]) (c_X5_takeOff l D cI cC td (xs (nI q + 1).toNatClampNeg) v _ e2) (cwV 1 hts gL_law_X5_takeOff rfl rfl rfl (by decide +kernel) ⟨Nat.le_of_ble_eq_true rfl, Nat.le_of_ble_eq_true rfl⟩) rfl hl.1 (Nat.le_of_ble_eq_true rfl) dL_law_315 hP hD hS (fun H locs hP hD hS => ?_)
  exact lv_icmp_eq (tgt := 814) hx hb dL_law_318 (by decide) (fun _ => kk w' v' H locs hR' hP hD hS) (fun hc => absurd rfl hc)
theorem law_setHand {p : Program} {l : Launch} {e : Env} {s : State} {m : MethodId} {below : List Frame} {meth : Method} {c : Code} {b L : Nat} {xs : Nat → Int32} {D : va_G} {cI cC : ClassId} {td : Nat → Option Nat} (F : lwX p s m c b D cI cC td) (hX : va_X b L xs s s.heap) (hbl : b < s.heap.size) (hL : L ≤ 2048) {ad1 ad2 : Nat → Nat} {w v : mvW} {H : Heap} {locs : List Loc} {ls : Array Slot} {q : Nat} (hq : q + 4 ≤ L) (hR : Rel w v)
    (hP : va_P D vwCl (wlX cI cC ad1 ad2 w v) H) (hD : va_D (fun q => s.heap.size ≤ q) (wlX cI cC ad1 ad2 w v)) (hS : va_S (fun q => s.heap.size ≤ q) s.heap H locs) (hl : lv_has ls 4 [(0, .ref b), (1, .ref (ad1 0)), (2, .ref (ad2 0)), (3, .int (nI q))])
    (kk : ∀ (w' v' : mvW) (H1 : Heap) (locs1 : List Loc), Rel w' v' → va_P D vwCl (wlX cI cC ad1 ad2 w' v') H1 → va_D (fun q => s.heap.size ≤ q) (wlX cI cC ad1 ad2 w' v') → va_S (fun q => s.heap.size ≤ q) s.heap H1 locs1 → W p l e room_1 s m #[Value.ref b] below meth c H1 locs1 22 1699 (lw_Z below #[Value.ref b] s) (F0 m 814 ls [])) :
    W p l e room_1 s m #[Value.ref b] below meth c H locs 22 1699 (lw_Z below #[Value.ref b] s) (F0 m 323 ls []) := by
  obtain ⟨hx, hb, hml, hown, hts, hK, hSt⟩ := id F
  have hbA : ¬ (fun q : Nat => s.heap.size ≤ q) b := Nat.not_le.mpr hbl
  have h1 : vp_in (nI q + 1) L := by rw [nI_1]; exact vp_in_nI (by omega) (by omega)
  have h2 : vp_in (nI q + 2) L := by rw [show nI q + 2 = nI (q + 2) from nI_add q 2]; exact vp_in_nI (by omega) (by omega)
  have h3 : vp_in (nI q + 3) L := by rw [show nI q + 3 = nI (q + 3) from nI_add q 3]; exact vp_in_nI (by omega) (by omega)
  refine lv_aload_n hx hb dL_law_323 rfl (lv_at hl 1 rfl) ?_
  refine lv_aload_n hx hb dL_law_324 rfl (lv_at hl 0 rfl) ?_
  refine lv_iload_n hx hb dL_law_325 rfl (lv_at hl 3 rfl) ?_
  refine lv_iconst (v := 1) hx hb dL_law_326 (by decide) ?_
  refine lv_iadd hx hb dL_law_327 ?_
  refine va_sld hx hb hX hbl hbA hS h1 dL_law_328 ?_
  refine lv_aload_n hx hb dL_law_329 rfl (lv_at hl 0 rfl) ?_
  refine lv_iload_n hx hb dL_law_330 rfl (lv_at hl 3 rfl) ?_
  refine lv_iconst (v := 2) hx hb dL_law_331 (by decide) ?_
  refine lv_iadd hx hb dL_law_332 ?_
  refine va_sld hx hb hX hbl hbA hS h2 dL_law_333 ?_
  refine lv_aload_n hx hb dL_law_334 rfl (lv_at hl 0 rfl) ?_
  refine lv_iload_n hx hb dL_law_335 rfl (lv_at hl 3 rfl) ?_
  refine lv_iconst (v := 3) hx hb dL_law_336 (by decide) ?_
  refine lv_iadd hx hb dL_law_337 ?_
  refine va_sld hx hb hX hbl hbA hS h3 dL_law_338 ?_
  obtain ⟨a, w', v', e1, e2, hR'⟩ := L_setHand hR (xs (nI q + 1).toNatClampNeg) (xs (nI q + 2).toNatClampNeg) (xs (nI q + 3).toNatClampNeg)
  refine lw_cX F (As := [(xs (nI q + 1).toNatClampNeg), (xs (nI q + 2).toNatClampNeg), (xs (nI q + 3).toNatClampNeg)]) (rest := []) (c_X4_setHand l D cI cC td (xs (nI q + 1).toNatClampNeg) (xs (nI q + 2).toNatClampNeg) (xs (nI q + 3).toNatClampNeg) w _ e1) (cwV 3 hts gL_law_X4_setHand rfl rfl rfl (by decide +kernel) ⟨Nat.le_of_ble_eq_true rfl, Nat.le_of_ble_eq_true rfl⟩) rfl hl.1 (Nat.le_of_ble_eq_true rfl) dL_law_339 hP hD hS (fun H locs hP hD hS => ?_)
  refine lv_aload_n hx hb dL_law_342 rfl (lv_at hl 2 rfl) ?_
  refine lv_aload_n hx hb dL_law_343 rfl (lv_at hl 0 rfl) ?_
  refine lv_iload_n hx hb dL_law_344 rfl (lv_at hl 3 rfl) ?_
  refine lv_iconst (v := 1) hx hb dL_law_345 (by decide) ?_
  refine lv_iadd hx hb dL_law_346 ?_
  refine va_sld hx hb hX hbl hbA hS h1 dL_law_347 ?_
  refine lv_aload_n hx hb dL_law_348 rfl (lv_at hl 0 rfl) ?_
  refine lv_iload_n hx hb dL_law_349 rfl (lv_at hl 3 rfl) ?_
  refine lv_iconst (v := 2) hx hb dL_law_350 (by decide) ?_
  refine lv_iadd hx hb dL_law_351 ?_
  refine va_sld hx hb hX hbl hbA hS h2 dL_law_352 ?_
  refine lv_aload_n hx hb dL_law_353 rfl (lv_at hl 0 rfl) ?_
  refine lv_iload_n hx hb dL_law_354 rfl (lv_at hl 3 rfl) ?_
  refine lv_iconst (v := 3) hx hb dL_law_355 (by decide) ?_
  refine lv_iadd hx hb dL_law_356 ?_
  refine va_sld hx hb hX hbl hbA hS h3 dL_law_357 ?_
  refine lw_cM F (As := [(xs (nI q + 1).toNatClampNeg), (xs (nI q + 2).toNatClampNeg), (xs (nI q + 3).toNatClampNeg)]) (rest := [.int a]) (c_X5_setHand l D cI cC td (xs (nI q + 1).toNatClampNeg) (xs (nI q + 2).toNatClampNeg) (xs (nI q + 3).toNatClampNeg) v _ e2) (cwV 3 hts gL_law_X5_setHand rfl rfl rfl (by decide +kernel) ⟨Nat.le_of_ble_eq_true rfl, Nat.le_of_ble_eq_true rfl⟩) rfl hl.1 (Nat.le_of_ble_eq_true rfl) dL_law_358 hP hD hS (fun H locs hP hD hS => ?_)
  exact lv_icmp_eq (tgt := 814) hx hb dL_law_361 (by decide) (fun _ => kk w' v' H locs hR' hP hD hS) (fun hc => absurd rfl hc)
theorem law_clearAll {p : Program} {l : Launch} {e : Env} {s : State} {m : MethodId} {below : List Frame} {meth : Method} {c : Code} {b L : Nat} {xs : Nat → Int32} {D : va_G} {cI cC : ClassId} {td : Nat → Option Nat} (F : lwX p s m c b D cI cC td) (hX : va_X b L xs s s.heap) (hbl : b < s.heap.size) (hL : L ≤ 2048) {ad1 ad2 : Nat → Nat} {w v : mvW} {H : Heap} {locs : List Loc} {ls : Array Slot} {q : Nat} (hq : q + 4 ≤ L) (hR : Rel w v)
    (hP : va_P D vwCl (wlX cI cC ad1 ad2 w v) H) (hD : va_D (fun q => s.heap.size ≤ q) (wlX cI cC ad1 ad2 w v)) (hS : va_S (fun q => s.heap.size ≤ q) s.heap H locs) (hl : lv_has ls 4 [(0, .ref b), (1, .ref (ad1 0)), (2, .ref (ad2 0)), (3, .int (nI q))])
    (kk : ∀ (w' v' : mvW) (H1 : Heap) (locs1 : List Loc), Rel w' v' → va_P D vwCl (wlX cI cC ad1 ad2 w' v') H1 → va_D (fun q => s.heap.size ≤ q) (wlX cI cC ad1 ad2 w' v') → va_S (fun q => s.heap.size ≤ q) s.heap H1 locs1 → W p l e room_1 s m #[Value.ref b] below meth c H1 locs1 22 1699 (lw_Z below #[Value.ref b] s) (F0 m 814 ls [])) :
    W p l e room_1 s m #[Value.ref b] below meth c H locs 22 1699 (lw_Z below #[Value.ref b] s) (F0 m 366 ls []) := by
  obtain ⟨hx, hb, hml, hown, hts, hK, hSt⟩ := id F
  have hbA : ¬ (fun q : Nat => s.heap.size ≤ q) b := Nat.not_le.mpr hbl
  have h1 : vp_in (nI q + 1) L := by rw [nI_1]; exact vp_in_nI (by omega) (by omega)
  have h2 : vp_in (nI q + 2) L := by rw [show nI q + 2 = nI (q + 2) from nI_add q 2]; exact vp_in_nI (by omega) (by omega)
  have h3 : vp_in (nI q + 3) L := by rw [show nI q + 3 = nI (q + 3) from nI_add q 3]; exact vp_in_nI (by omega) (by omega)
  refine lv_aload_n hx hb dL_law_366 rfl (lv_at hl 1 rfl) ?_
  obtain ⟨a, w', v', e1, e2, hR'⟩ := L_clearAll hR 
  refine lw_cX F (As := []) (rest := []) (c_X4_clearAll l D cI cC td  w _ e1) (cwV 0 hts gL_law_X4_clearAll rfl rfl rfl (by decide +kernel) ⟨Nat.le_of_ble_eq_true rfl, Nat.le_of_ble_eq_true rfl⟩) rfl hl.1 (Nat.le_of_ble_eq_true rfl) dL_law_367 hP hD hS (fun H locs hP hD hS => ?_)
  refine lv_aload_n hx hb dL_law_370 rfl (lv_at hl 2 rfl) ?_
  refine lw_cM F (As := []) (rest := [.int a]) (c_X5_clearAll l D cI cC td  v _ e2) (cwV 0 hts gL_law_X5_clearAll rfl rfl rfl (by decide +kernel) ⟨Nat.le_of_ble_eq_true rfl, Nat.le_of_ble_eq_true rfl⟩) rfl hl.1 (Nat.le_of_ble_eq_true rfl) dL_law_371 hP hD hS (fun H locs hP hD hS => ?_)
  exact lv_icmp_eq (tgt := 814) hx hb dL_law_374 (by decide) (fun _ => kk w' v' H locs hR' hP hD hS) (fun hc => absurd rfl hc)
theorem law_setSide {p : Program} {l : Launch} {e : Env} {s : State} {m : MethodId} {below : List Frame} {meth : Method} {c : Code} {b L : Nat} {xs : Nat → Int32} {D : va_G} {cI cC : ClassId} {td : Nat → Option Nat} (F : lwX p s m c b D cI cC td) (hX : va_X b L xs s s.heap) (hbl : b < s.heap.size) (hL : L ≤ 2048) {ad1 ad2 : Nat → Nat} {w v : mvW} {H : Heap} {locs : List Loc} {ls : Array Slot} {q : Nat} (hq : q + 4 ≤ L) (hR : Rel w v)
    (hP : va_P D vwCl (wlX cI cC ad1 ad2 w v) H) (hD : va_D (fun q => s.heap.size ≤ q) (wlX cI cC ad1 ad2 w v)) (hS : va_S (fun q => s.heap.size ≤ q) s.heap H locs) (hl : lv_has ls 4 [(0, .ref b), (1, .ref (ad1 0)), (2, .ref (ad2 0)), (3, .int (nI q))])
    (kk : ∀ (w' v' : mvW) (H1 : Heap) (locs1 : List Loc), Rel w' v' → va_P D vwCl (wlX cI cC ad1 ad2 w' v') H1 → va_D (fun q => s.heap.size ≤ q) (wlX cI cC ad1 ad2 w' v') → va_S (fun q => s.heap.size ≤ q) s.heap H1 locs1 → W p l e room_1 s m #[Value.ref b] below meth c H1 locs1 22 1699 (lw_Z below #[Value.ref b] s) (F0 m 814 ls [])) :
    W p l e room_1 s m #[Value.ref b] below meth c H locs 22 1699 (lw_Z below #[Value.ref b] s) (F0 m 379 ls []) := by
  obtain ⟨hx, hb, hml, hown, hts, hK, hSt⟩ := id F
  have hbA : ¬ (fun q : Nat => s.heap.size ≤ q) b := Nat.not_le.mpr hbl
  have h1 : vp_in (nI q + 1) L := by rw [nI_1]; exact vp_in_nI (by omega) (by omega)
  have h2 : vp_in (nI q + 2) L := by rw [show nI q + 2 = nI (q + 2) from nI_add q 2]; exact vp_in_nI (by omega) (by omega)
  have h3 : vp_in (nI q + 3) L := by rw [show nI q + 3 = nI (q + 3) from nI_add q 3]; exact vp_in_nI (by omega) (by omega)
  refine lv_aload_n hx hb dL_law_379 rfl (lv_at hl 1 rfl) ?_
  refine lv_aload_n hx hb dL_law_380 rfl (lv_at hl 0 rfl) ?_
  refine lv_iload_n hx hb dL_law_381 rfl (lv_at hl 3 rfl) ?_
  refine lv_iconst (v := 1) hx hb dL_law_382 (by decide) ?_
  refine lv_iadd hx hb dL_law_383 ?_
  refine va_sld hx hb hX hbl hbA hS h1 dL_law_384 ?_
  obtain ⟨a, w', v', e1, e2, hR'⟩ := L_setSide hR (xs (nI q + 1).toNatClampNeg)
  refine lw_cX F (As := [(xs (nI q + 1).toNatClampNeg)]) (rest := []) (c_X4_setSide l D cI cC td (xs (nI q + 1).toNatClampNeg) w _ e1) (cwV 1 hts gL_law_X4_setSide rfl rfl rfl (by decide +kernel) ⟨Nat.le_of_ble_eq_true rfl, Nat.le_of_ble_eq_true rfl⟩) rfl hl.1 (Nat.le_of_ble_eq_true rfl) dL_law_385 hP hD hS (fun H locs hP hD hS => ?_)
  refine lv_aload_n hx hb dL_law_388 rfl (lv_at hl 2 rfl) ?_
  refine lv_aload_n hx hb dL_law_389 rfl (lv_at hl 0 rfl) ?_
  refine lv_iload_n hx hb dL_law_390 rfl (lv_at hl 3 rfl) ?_
  refine lv_iconst (v := 1) hx hb dL_law_391 (by decide) ?_
  refine lv_iadd hx hb dL_law_392 ?_
  refine va_sld hx hb hX hbl hbA hS h1 dL_law_393 ?_
  refine lw_cM F (As := [(xs (nI q + 1).toNatClampNeg)]) (rest := [.int a]) (c_X5_setSide l D cI cC td (xs (nI q + 1).toNatClampNeg) v _ e2) (cwV 1 hts gL_law_X5_setSide rfl rfl rfl (by decide +kernel) ⟨Nat.le_of_ble_eq_true rfl, Nat.le_of_ble_eq_true rfl⟩) rfl hl.1 (Nat.le_of_ble_eq_true rfl) dL_law_394 hP hD hS (fun H locs hP hD hS => ?_)
  exact lv_icmp_eq (tgt := 814) hx hb dL_law_397 (by decide) (fun _ => kk w' v' H locs hR' hP hD hS) (fun hc => absurd rfl hc)
