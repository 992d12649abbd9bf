/-! the law's cases 3 (printed by wip/whole/lawgen.py) -/
theorem law_keep {p : Program} {l : Launch} {e : Env} {s : State} {m : MethodId} {below : List Frame} {meth : Method} {c : Code} {b L : Nat} {xs : Nat → Int32} {D : va_G} {cI cC : ClassId} {td : Nat → Option Nat} (F : lwX p s m c b D cI cC td) (hX : va_X b L xs s s.heap) (hbl : b < s.heap.size) (hL : L ≤ 2048) {ad1 ad2 : Nat → Nat} {w v : mvW} {H : Heap} {locs : List Loc} {ls : Array Slot} {q : Nat} (hq : q + 4 ≤ L) (hR : Rel w v)
    (hP : va_P D vwCl (wlX cI cC ad1 ad2 w v) H) (hD : va_D (fun q => s.heap.size ≤ q) (wlX cI cC ad1 ad2 w v)) (hS : va_S (fun q => s.heap.size ≤ q) s.heap H locs) (hl : lv_has ls 4 [(0, .ref b), (1, .ref (ad1 0)), (2, .ref (ad2 0)), (3, .int (nI q))])
    (kk : ∀ (w' v' : mvW) (H1 : Heap) (locs1 : List Loc), Rel w' v' → va_P D vwCl (wlX cI cC ad1 ad2 w' v') H1 → va_D (fun q => s.heap.size ≤ q) (wlX cI cC ad1 ad2 w' v') → va_S (fun q => s.heap.size ≤ q) s.heap H1 locs1 → W p l e room_1 s m #[Value.ref b] below meth c H1 locs1 22 1699 (lw_Z below #[Value.ref b] s) (F0 m 814 ls [])) :
    W p l e room_1 s m #[Value.ref b] below meth c H locs 22 1699 (lw_Z below #[Value.ref b] s) (F0 m 466 ls []) := by
  obtain ⟨hx, hb, hml, hown, hts, hK, hSt⟩ := id F
  have hbA : ¬ (fun q : Nat => s.heap.size ≤ q) b := Nat.not_le.mpr hbl
  have h1 : vp_in (nI q + 1) L := by rw [nI_1]; exact vp_in_nI (by omega) (by omega)
  have h2 : vp_in (nI q + 2) L := by rw [show nI q + 2 = nI (q + 2) from nI_add q 2]; exact vp_in_nI (by omega) (by omega)
  have h3 : vp_in (nI q + 3) L := by rw [show nI q + 3 = nI (q + 3) from nI_add q 3]; exact vp_in_nI (by omega) (by omega)
  refine lv_aload_n hx hb dL_law_466 rfl (lv_at hl 1 rfl) ?_
  obtain ⟨a, w', v', e1, e2, hR'⟩ := L_keep hR 
  refine lw_cX F (As := []) (rest := []) (c_X4_keep l D cI cC td  w _ e1) (cwV 0 hts gL_law_X4_keep rfl rfl rfl (by decide +kernel) ⟨Nat.le_of_ble_eq_true rfl, Nat.le_of_ble_eq_true rfl⟩) rfl hl.1 (Nat.le_of_ble_eq_true rfl) dL_law_467 hP hD hS (fun H locs hP hD hS => ?_)
  refine lv_aload_n hx hb dL_law_470 rfl (lv_at hl 2 rfl) ?_
  refine lw_cM F (As := []) (rest := [.int a]) (c_X5_keep l D cI cC td  v _ e2) (cwV 0 hts gL_law_X5_keep rfl rfl rfl (by decide +kernel) ⟨Nat.le_of_ble_eq_true rfl, Nat.le_of_ble_eq_true rfl⟩) rfl hl.1 (Nat.le_of_ble_eq_true rfl) dL_law_471 hP hD hS (fun H locs hP hD hS => ?_)
  exact lv_icmp_eq (tgt := 814) hx hb dL_law_474 (by decide) (fun _ => kk w' v' H locs hR' hP hD hS) (fun hc => absurd rfl hc)
theorem law_restore {p : Program} {l : Launch} {e : Env} {s : State} {m : MethodId} {below : List Frame} {meth : Method} {c : Code} {b L : Nat} {xs : Nat → Int32} {D : va_G} {cI cC : ClassId} {td : Nat → Option Nat} (F : lwX p s m c b D cI cC td) (hX : va_X b L xs s s.heap) (hbl : b < s.heap.size) (hL : L ≤ 2048) {ad1 ad2 : Nat → Nat} {w v : mvW} {H : Heap} {locs : List Loc} {ls : Array Slot} {q : Nat} (hq : q + 4 ≤ L) (hR : Rel w v)
    (hP : va_P D vwCl (wlX cI cC ad1 ad2 w v) H) (hD : va_D (fun q => s.heap.size ≤ q) (wlX cI cC ad1 ad2 w v)) (hS : va_S (fun q => s.heap.size ≤ q) s.heap H locs) (hl : lv_has ls 4 [(0, .ref b), (1, .ref (ad1 0)), (2, .ref (ad2 0)), (3, .int (nI q))])
    (kk : ∀ (w' v' : mvW) (H1 : Heap) (locs1 : List Loc), Rel w' v' → va_P D vwCl (wlX cI cC ad1 ad2 w' v') H1 → va_D (fun q => s.heap.size ≤ q) (wlX cI cC ad1 ad2 w' v') → va_S (fun q => s.heap.size ≤ q) s.heap H1 locs1 → W p l e room_1 s m #[Value.ref b] below meth c H1 locs1 22 1699 (lw_Z below #[Value.ref b] s) (F0 m 814 ls [])) :
    W p l e room_1 s m #[Value.ref b] below meth c H locs 22 1699 (lw_Z below #[Value.ref b] s) (F0 m 479 ls []) := by
  obtain ⟨hx, hb, hml, hown, hts, hK, hSt⟩ := id F
  have hbA : ¬ (fun q : Nat => s.heap.size ≤ q) b := Nat.not_le.mpr hbl
  have h1 : vp_in (nI q + 1) L := by rw [nI_1]; exact vp_in_nI (by omega) (by omega)
  have h2 : vp_in (nI q + 2) L := by rw [show nI q + 2 = nI (q + 2) from nI_add q 2]; exact vp_in_nI (by omega) (by omega)
  have h3 : vp_in (nI q + 3) L := by rw [show nI q + 3 = nI (q + 3) from nI_add q 3]; exact vp_in_nI (by omega) (by omega)
  refine lv_aload_n hx hb dL_law_479 rfl (lv_at hl 1 rfl) ?_
  obtain ⟨a, w', v', e1, e2, hR'⟩ := L_restore hR 
  refine lw_cX F (As := []) (rest := []) (c_X4_restore l D cI cC td  w _ e1) (cwV 0 hts gL_law_X4_restore rfl rfl rfl (by decide +kernel) ⟨Nat.le_of_ble_eq_true rfl, Nat.le_of_ble_eq_true rfl⟩) rfl hl.1 (Nat.le_of_ble_eq_true rfl) dL_law_480 hP hD hS (fun H locs hP hD hS => ?_)
  refine lv_aload_n hx hb dL_law_483 rfl (lv_at hl 2 rfl) ?_
  refine lw_cM F (As := []) (rest := [.int a]) (c_X5_restore l D cI cC td  v _ e2) (cwV 0 hts gL_law_X5_restore rfl rfl rfl (by decide +kernel) ⟨Nat.le_of_ble_eq_true rfl, Nat.le_of_ble_eq_true rfl⟩) rfl hl.1 (Nat.le_of_ble_eq_true rfl) dL_law_484 hP hD hS (fun H locs hP hD hS => ?_)
  exact lv_icmp_eq (tgt := 814) hx hb dL_law_487 (by decide) (fun _ => kk w' v' H locs hR' hP hD hS) (fun hc => absurd rfl hc)
theorem law_man {p : Program} {l : Launch} {e : Env} {s : State} {m : MethodId} {below : List Frame} {meth : Method} {c : Code} {b L : Nat} {xs : Nat → Int32} {D : va_G} {cI cC : ClassId} {td : Nat → Option Nat} (F : lwX p s m c b D cI cC td) (hX : va_X b L xs s s.heap) (hbl : b < s.heap.size) (hL : L ≤ 2048) {ad1 ad2 : Nat → Nat} {w v : mvW} {H : Heap} {locs : List Loc} {ls : Array Slot} {q : Nat} (hq : q + 4 ≤ L) (hR : Rel w v)
    (hP : va_P D vwCl (wlX cI cC ad1 ad2 w v) H) (hD : va_D (fun q => s.heap.size ≤ q) (wlX cI cC ad1 ad2 w v)) (hS : va_S (fun q => s.heap.size ≤ q) s.heap H locs) (hl : lv_has ls 4 [(0, .ref b), (1, .ref (ad1 0)), (2, .ref (ad2 0)), (3, .int (nI q))])
    (kk : ∀ (w' v' : mvW) (H1 : Heap) (locs1 : List Loc), Rel w' v' → va_P D vwCl (wlX cI cC ad1 ad2 w' v') H1 → va_D (fun q => s.heap.size ≤ q) (wlX cI cC ad1 ad2 w' v') → va_S (fun q => s.heap.size ≤ q) s.heap H1 locs1 → W p l e room_1 s m #[Value.ref b] below meth c H1 locs1 22 1699 (lw_Z below #[Value.ref b] s) (F0 m 814 ls [])) :
    W p l e room_1 s m #[Value.ref b] below meth c H locs 22 1699 (lw_Z below #[Value.ref b] s) (F0 m 492 ls []) := by
  obtain ⟨hx, hb, hml, hown, hts, hK, hSt⟩ := id F
  have hbA : ¬ (fun q : Nat => s.heap.size ≤ q) b := Nat.not_le.mpr hbl
  have h1 : vp_in (nI q + 1) L := by rw [nI_1]; exact vp_in_nI (by omega) (by omega)
  have h2 : vp_in (nI q + 2) L := by rw [show nI q + 2 = nI (q + 2) from nI_add q 2]; exact vp_in_nI (by omega) (by omega)
  have h3 : vp_in (nI q + 3) L := by rw [show nI q + 3 = nI (q + 3) from nI_add q 3]; exact vp_in_nI (by omega) (by omega)
  refine lv_aload_n hx hb dL_law_492 rfl (lv_at hl 1 rfl) ?_
  refine lv_aload_n hx hb dL_law_493 rfl (lv_at hl 0 rfl) ?_
  refine lv_iload_n hx hb dL_law_494 rfl (lv_at hl 3 rfl) ?_
  refine lv_iconst (v := 1) hx hb dL_law_495 (by decide) ?_
  refine lv_iadd hx hb dL_law_496 ?_
  refine va_sld hx hb hX hbl hbA hS h1 dL_law_497 ?_
  obtain ⟨a, w', v', e1, e2, hR'⟩ := L_man hR (xs (nI q + 1).toNatClampNeg)
  refine lw_cX F (As := [(xs (nI q + 1).toNatClampNeg)]) (rest := []) (c_X4_man l D cI cC td (xs (nI q + 1).toNatClampNeg) w _ e1) (cwV 1 hts gL_law_X4_man rfl rfl rfl (by decide +kernel) ⟨Nat.le_of_ble_eq_true rfl, Nat.le_of_ble_eq_true rfl⟩) rfl hl.1 (Nat.le_of_ble_eq_true rfl) dL_law_498 hP hD hS (fun H locs hP hD hS => ?_)
  refine lv_aload_n hx hb dL_law_501 rfl (lv_at hl 2 rfl) ?_
  refine lv_aload_n hx hb dL_law_502 rfl (lv_at hl 0 rfl) ?_
  refine lv_iload_n hx hb dL_law_503 rfl (lv_at hl 3 rfl) ?_
  refine lv_iconst (v := 1) hx hb dL_law_504 (by decide) ?_
  refine lv_iadd hx hb dL_law_505 ?_
  refine va_sld hx hb hX hbl hbA hS h1 dL_law_506 ?_
  refine lw_cM F (As := [(xs (nI q + 1).toNatClampNeg)]) (rest := [.int a]) (c_X5_man l D cI cC td (xs (nI q + 1).toNatClampNeg) v _ e2) (cwV 1 hts gL_law_X5_man rfl rfl rfl (by decide +kernel) ⟨Nat.le_of_ble_eq_true rfl, Nat.le_of_ble_eq_true rfl⟩) rfl hl.1 (Nat.le_of_ble_eq_true rfl) dL_law_507 hP hD hS (fun H locs hP hD hS => ?_)
  exact lv_icmp_eq (tgt := 814) hx hb dL_law_510 (by decide) (fun _ => kk w' v' H locs hR' hP hD hS) (fun hc => absurd rfl hc)
theorem law_hand {p : Program} {l : Launch} {e : Env} {s : State} {m : MethodId} {below : List Frame} {meth : Method} {c : Code} {b L : Nat} {xs : Nat → Int32} {D : va_G} {cI cC : ClassId} {td : Nat → Option Nat} (F : lwX p s m c b D cI cC td) (hX : va_X b L xs s s.heap) (hbl : b < s.heap.size) (hL : L ≤ 2048) {ad1 ad2 : Nat → Nat} {w v : mvW} {H : Heap} {locs : List Loc} {ls : Array Slot} {q : Nat} (hq : q + 4 ≤ L) (hR : Rel w v)
    (hP : va_P D vwCl (wlX cI cC ad1 ad2 w v) H) (hD : va_D (fun q => s.heap.size ≤ q) (wlX cI cC ad1 ad2 w v)) (hS : va_S (fun q => s.heap.size ≤ q) s.heap H locs) (hl : lv_has ls 4 [(0, .ref b), (1, .ref (ad1 0)), (2, .ref (ad2 0)), (3, .int (nI q))])
    (kk : ∀ (w' v' : mvW) (H1 : Heap) (locs1 : List Loc), Rel w' v' → va_P D vwCl (wlX cI cC ad1 ad2 w' v') H1 → va_D (fun q => s.heap.size ≤ q) (wlX cI cC ad1 ad2 w' v') → va_S (fun q => s.heap.size ≤ q) s.heap H1 locs1 → W p l e room_1 s m #[Value.ref b] below meth c H1 locs1 22 1699 (lw_Z below #[Value.ref b] s) (F0 m 814 ls [])) :
    W p l e room_1 s m #[Value.ref b] below meth c H locs 22 1699 (lw_Z below #[Value.ref b] s) (F0 m 515 ls []) := by
  obtain ⟨hx, hb, hml, hown, hts, hK, hSt⟩ := id F
  have hbA : ¬ (fun q : Nat => s.heap.size ≤ q) b := Nat.not_le.mpr hbl
  have h1 : vp_in (nI q + 1) L := by rw [nI_1]; exact vp_in_nI (by omega) (by omega)
  have h2 : vp_in (nI q + 2) L := by rw [show nI q + 2 = nI (q + 2) from nI_add q 2]; exact vp_in_nI (by omega) (by omega)
  have h3 : vp_in (nI q + 3) L := by rw [show nI q + 3 = nI (q + 3) from nI_add q 3]; exact vp_in_nI (by omega) (by omega)
  refine lv_aload_n hx hb dL_law_515 rfl (lv_at hl 1 rfl) ?_
  refine lv_aload_n hx hb dL_law_516 rfl (lv_at hl 0 rfl) ?_
  refine lv_iload_n hx hb dL_law_517 rfl (lv_at hl 3 rfl) ?_
  refine lv_iconst (v := 1) hx hb dL_law_518 (by decide) ?_
  refine lv_iadd hx hb dL_law_519 ?_
  refine va_sld hx hb hX hbl hbA hS h1 dL_law_520 ?_
  refine lv_aload_n hx hb dL_law_521 rfl (lv_at hl 0 rfl) ?_
  refine lv_iload_n hx hb dL_law_522 rfl (lv_at hl 3 rfl) ?_
  refine lv_iconst (v := 2) hx hb dL_law_523 (by decide) ?_
  refine lv_iadd hx hb dL_law_524 ?_
  refine va_sld hx hb hX hbl hbA hS h2 dL_law_525 ?_
  obtain ⟨a, w', v', e1, e2, hR'⟩ := L_hand hR (xs (nI q + 1).toNatClampNeg) (xs (nI q + 2).toNatClampNeg)
  refine lw_cX F (As := [(xs (nI q + 1).toNatClampNeg), (xs (nI q + 2).toNatClampNeg)]) (rest := []) (c_X4_hand l D cI cC td (xs (nI q + 1).toNatClampNeg) (xs (nI q + 2).toNatClampNeg) w _ e1) (cwV 2 hts gL_law_X4_hand rfl rfl rfl (by decide +kernel) ⟨Nat.le_of_ble_eq_true rfl, Nat.le_of_ble_eq_true rfl⟩) rfl hl.1 (Nat.le_of_ble_eq_true rfl) dL_law_526 hP hD hS (fun H locs hP hD hS => ?_)
  refine lv_aload_n hx hb dL_law_529 rfl (lv_at hl 2 rfl) ?_
  refine lv_aload_n hx hb dL_law_530 rfl (lv_at hl 0 rfl) ?_
  refine lv_iload_n hx hb dL_law_531 rfl (lv_at hl 3 rfl) ?_
  refine lv_iconst (v := 1) hx hb dL_law_532 (by decide) ?_
  refine lv_iadd hx hb dL_law_533 ?_
  refine va_sld hx hb hX hbl hbA hS h1 dL_law_534 ?_
  refine lv_aload_n hx hb dL_law_535 rfl (lv_at hl 0 rfl) ?_
  refine lv_iload_n hx hb dL_law_536 rfl (lv_at hl 3 rfl) ?_
  refine lv_iconst (v := 2) hx hb dL_law_537 (by decide) ?_
  refine lv_iadd hx hb dL_law_538 ?_
  refine va_sld hx hb hX hbl hbA hS h2 dL_law_539 ?_
  refine lw_cM F (As := [(xs (nI q + 1).toNatClampNeg), (xs (nI q + 2).toNatClampNeg)]) (rest := [.int a]) (c_X5_hand l D cI cC td (xs (nI q + 1).toNatClampNeg) (xs (nI q + 2).toNatClampNeg) v _ e2) (cwV 2 hts gL_law_X5_hand rfl rfl rfl (by decide +kernel) ⟨Nat.le_of_ble_eq_true rfl, Nat.le_of_ble_eq_true rfl⟩) rfl hl.1 (Nat.le_of_ble_eq_true rfl) dL_law_540 hP hD hS (fun H locs hP hD hS => ?_)
  exact lv_icmp_eq (tgt := 814) hx hb dL_law_543 (by decide) (fun _ => kk w' v' H locs hR' hP hD hS) (fun hc => absurd rfl hc)
