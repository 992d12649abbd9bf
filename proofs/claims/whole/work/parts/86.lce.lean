/-! the law's cases 4 (printed by wip/whole/lawgen.py) -/
theorem law_attackers {p : Program} {l : Launch} {e : Env} {s : State} {m : MethodId} {below : List Frame} {meth : Method} {c : Code} {b L : Nat} {xs : Nat → Int32} {D : va_G} {cI cC : ClassId} {td : Nat → Option Nat} (F : lwX p s m c b D cI cC td) (hX : va_X b L xs s s.heap) (hbl : b < s.heap.size) (hL : L ≤ 2048) {ad1 ad2 : Nat → Nat} {w v : mvW} {H : Heap} {locs : List Loc} {ls : Array Slot} {q : Nat} (hq : q + 4 ≤ L) (hR : Rel w v)
    (hP : va_P D vwCl (wlX cI cC ad1 ad2 w v) H) (hD : va_D (fun q => s.heap.size ≤ q) (wlX cI cC ad1 ad2 w v)) (hS : va_S (fun q => s.heap.size ≤ q) s.heap H locs) (hl : lv_has ls 4 [(0, .ref b), (1, .ref (ad1 0)), (2, .ref (ad2 0)), (3, .int (nI q))])
    (kk : ∀ (w' v' : mvW) (H1 : Heap) (locs1 : List Loc), Rel w' v' → va_P D vwCl (wlX cI cC ad1 ad2 w' v') H1 → va_D (fun q => s.heap.size ≤ q) (wlX cI cC ad1 ad2 w' v') → va_S (fun q => s.heap.size ≤ q) s.heap H1 locs1 → W p l e room_1 s m #[Value.ref b] below meth c H1 locs1 22 1699 (lw_Z below #[Value.ref b] s) (F0 m 814 ls [])) :
    W p l e room_1 s m #[Value.ref b] below meth c H locs 22 1699 (lw_Z below #[Value.ref b] s) (F0 m 548 ls []) := by
  obtain ⟨hx, hb, hml, hown, hts, hK, hSt⟩ := id F
  have hbA : ¬ (fun q : Nat => s.heap.size ≤ q) b := Nat.not_le.mpr hbl
  have h1 : vp_in (nI q + 1) L := by rw [nI_1]; exact vp_in_nI (by omega) (by omega)
  have h2 : vp_in (nI q + 2) L := by rw [show nI q + 2 = nI (q + 2) from nI_add q 2]; exact vp_in_nI (by omega) (by omega)
  have h3 : vp_in (nI q + 3) L := by rw [show nI q + 3 = nI (q + 3) from nI_add q 3]; exact vp_in_nI (by omega) (by omega)
  refine lv_aload_n hx hb dL_law_548 rfl (lv_at hl 1 rfl) ?_
  refine lv_aload_n hx hb dL_law_549 rfl (lv_at hl 0 rfl) ?_
  refine lv_iload_n hx hb dL_law_550 rfl (lv_at hl 3 rfl) ?_
  refine lv_iconst (v := 1) hx hb dL_law_551 (by decide) ?_
  refine lv_iadd hx hb dL_law_552 ?_
  refine va_sld hx hb hX hbl hbA hS h1 dL_law_553 ?_
  refine lv_aload_n hx hb dL_law_554 rfl (lv_at hl 0 rfl) ?_
  refine lv_iload_n hx hb dL_law_555 rfl (lv_at hl 3 rfl) ?_
  refine lv_iconst (v := 2) hx hb dL_law_556 (by decide) ?_
  refine lv_iadd hx hb dL_law_557 ?_
  refine va_sld hx hb hX hbl hbA hS h2 dL_law_558 ?_
  obtain ⟨a, w', v', e1, e2, hR'⟩ := L_attackers hR (xs (nI q + 1).toNatClampNeg) (xs (nI q + 2).toNatClampNeg)
  refine lw_cX F (As := [(xs (nI q + 1).toNatClampNeg), (xs (nI q + 2).toNatClampNeg)]) (rest := []) (c_X4_attackers l D cI cC td (xs (nI q + 1).toNatClampNeg) (xs (nI q + 2).toNatClampNeg) w _ e1) (cwV 2 hts gL_law_X4_attackers rfl rfl rfl (by decide +kernel) ⟨Nat.le_of_ble_eq_true rfl, Nat.le_of_ble_eq_true rfl⟩) rfl hl.1 (Nat.le_of_ble_eq_true rfl) dL_law_559 hP hD hS (fun H locs hP hD hS => ?_)
  refine lv_aload_n hx hb dL_law_562 rfl (lv_at hl 2 rfl) ?_
  refine lv_aload_n hx hb dL_law_563 rfl (lv_at hl 0 rfl) ?_
  refine lv_iload_n hx hb dL_law_564 rfl (lv_at hl 3 rfl) ?_
  refine lv_iconst (v := 1) hx hb dL_law_565 (by decide) ?_
  refine lv_iadd hx hb dL_law_566 ?_
  refine va_sld hx hb hX hbl hbA hS h1 dL_law_567 ?_
  refine lv_aload_n hx hb dL_law_568 rfl (lv_at hl 0 rfl) ?_
  refine lv_iload_n hx hb dL_law_569 rfl (lv_at hl 3 rfl) ?_
  refine lv_iconst (v := 2) hx hb dL_law_570 (by decide) ?_
  refine lv_iadd hx hb dL_law_571 ?_
  refine va_sld hx hb hX hbl hbA hS h2 dL_law_572 ?_
  refine lw_cM F (As := [(xs (nI q + 1).toNatClampNeg), (xs (nI q + 2).toNatClampNeg)]) (rest := [.int a]) (c_X5_attackers l D cI cC td (xs (nI q + 1).toNatClampNeg) (xs (nI q + 2).toNatClampNeg) v _ e2) (cwV 2 hts gL_law_X5_attackers rfl rfl rfl (by decide +kernel) ⟨Nat.le_of_ble_eq_true rfl, Nat.le_of_ble_eq_true rfl⟩) rfl hl.1 (Nat.le_of_ble_eq_true rfl) dL_law_573 hP hD hS (fun H locs hP hD hS => ?_)
  exact lv_icmp_eq (tgt := 814) hx hb dL_law_576 (by decide) (fun _ => kk w' v' H locs hR' hP hD hS) (fun hc => absurd rfl hc)
theorem law_attacked {p : Program} {l : Launch} {e : Env} {s : State} {m : MethodId} {below : List Frame} {meth : Method} {c : Code} {b L : Nat} {xs : Nat → Int32} {D : va_G} {cI cC : ClassId} {td : Nat → Option Nat} (F : lwX p s m c b D cI cC td) (hX : va_X b L xs s s.heap) (hbl : b < s.heap.size) (hL : L ≤ 2048) {ad1 ad2 : Nat → Nat} {w v : mvW} {H : Heap} {locs : List Loc} {ls : Array Slot} {q : Nat} (hq : q + 4 ≤ L) (hR : Rel w v)
    (hP : va_P D vwCl (wlX cI cC ad1 ad2 w v) H) (hD : va_D (fun q => s.heap.size ≤ q) (wlX cI cC ad1 ad2 w v)) (hS : va_S (fun q => s.heap.size ≤ q) s.heap H locs) (hl : lv_has ls 4 [(0, .ref b), (1, .ref (ad1 0)), (2, .ref (ad2 0)), (3, .int (nI q))])
    (kk : ∀ (w' v' : mvW) (H1 : Heap) (locs1 : List Loc), Rel w' v' → va_P D vwCl (wlX cI cC ad1 ad2 w' v') H1 → va_D (fun q => s.heap.size ≤ q) (wlX cI cC ad1 ad2 w' v') → va_S (fun q => s.heap.size ≤ q) s.heap H1 locs1 → W p l e room_1 s m #[Value.ref b] below meth c H1 locs1 22 1699 (lw_Z below #[Value.ref b] s) (F0 m 814 ls [])) :
    W p l e room_1 s m #[Value.ref b] below meth c H locs 22 1699 (lw_Z below #[Value.ref b] s) (F0 m 581 ls []) := by
  obtain ⟨hx, hb, hml, hown, hts, hK, hSt⟩ := id F
  have hbA : ¬ (fun q : Nat => s.heap.size ≤ q) b := Nat.not_le.mpr hbl
  have h1 : vp_in (nI q + 1) L := by rw [nI_1]; exact vp_in_nI (by omega) (by omega)
  have h2 : vp_in (nI q + 2) L := by rw [show nI q + 2 = nI (q + 2) from nI_add q 2]; exact vp_in_nI (by omega) (by omega)
  have h3 : vp_in (nI q + 3) L := by rw [show nI q + 3 = nI (q + 3) from nI_add q 3]; exact vp_in_nI (by omega) (by omega)
  refine lv_aload_n hx hb dL_law_581 rfl (lv_at hl 1 rfl) ?_
  refine lv_aload_n hx hb dL_law_582 rfl (lv_at hl 0 rfl) ?_
  refine lv_iload_n hx hb dL_law_583 rfl (lv_at hl 3 rfl) ?_
  refine lv_iconst (v := 1) hx hb dL_law_584 (by decide) ?_
  refine lv_iadd hx hb dL_law_585 ?_
  refine va_sld hx hb hX hbl hbA hS h1 dL_law_586 ?_
  obtain ⟨a, w', v', e1, e2, hR'⟩ := L_attacked hR (xs (nI q + 1).toNatClampNeg)
  refine lw_cX F (As := [(xs (nI q + 1).toNatClampNeg)]) (rest := []) (c_X4_attacked l D cI cC td (xs (nI q + 1).toNatClampNeg) w _ e1) (cwV 1 hts gL_law_X4_attacked rfl rfl rfl (by decide +kernel) ⟨Nat.le_of_ble_eq_true rfl, Nat.le_of_ble_eq_true rfl⟩) rfl hl.1 (Nat.le_of_ble_eq_true rfl) dL_law_587 hP hD hS (fun H locs hP hD hS => ?_)
  refine lv_aload_n hx hb dL_law_590 rfl (lv_at hl 2 rfl) ?_
  refine lv_aload_n hx hb dL_law_591 rfl (lv_at hl 0 rfl) ?_
  refine lv_iload_n hx hb dL_law_592 rfl (lv_at hl 3 rfl) ?_
  refine lv_iconst (v := 1) hx hb dL_law_593 (by decide) ?_
  refine lv_iadd hx hb dL_law_594 ?_
  refine va_sld hx hb hX hbl hbA hS h1 dL_law_595 ?_
  refine lw_cM F (As := [(xs (nI q + 1).toNatClampNeg)]) (rest := [.int a]) (c_X5_attacked l D cI cC td (xs (nI q + 1).toNatClampNeg) v _ e2) (cwV 1 hts gL_law_X5_attacked rfl rfl rfl (by decide +kernel) ⟨Nat.le_of_ble_eq_true rfl, Nat.le_of_ble_eq_true rfl⟩) rfl hl.1 (Nat.le_of_ble_eq_true rfl) dL_law_596 hP hD hS (fun H locs hP hD hS => ?_)
  exact lv_icmp_eq (tgt := 814) hx hb dL_law_599 (by decide) (fun _ => kk w' v' H locs hR' hP hD hS) (fun hc => absurd rfl hc)
theorem law_total {p : Program} {l : Launch} {e : Env} {s : State} {m : MethodId} {below : List Frame} {meth : Method} {c : Code} {b L : Nat} {xs : Nat → Int32} {D : va_G} {cI cC : ClassId} {td : Nat → Option Nat} (F : lwX p s m c b D cI cC td) (hX : va_X b L xs s s.heap) (hbl : b < s.heap.size) (hL : L ≤ 2048) {ad1 ad2 : Nat → Nat} {w v : mvW} {H : Heap} {locs : List Loc} {ls : Array Slot} {q : Nat} (hq : q + 4 ≤ L) (hR : Rel w v)
    (hP : va_P D vwCl (wlX cI cC ad1 ad2 w v) H) (hD : va_D (fun q => s.heap.size ≤ q) (wlX cI cC ad1 ad2 w v)) (hS : va_S (fun q => s.heap.size ≤ q) s.heap H locs) (hl : lv_has ls 4 [(0, .ref b), (1, .ref (ad1 0)), (2, .ref (ad2 0)), (3, .int (nI q))])
    (kk : ∀ (w' v' : mvW) (H1 : Heap) (locs1 : List Loc), Rel w' v' → va_P D vwCl (wlX cI cC ad1 ad2 w' v') H1 → va_D (fun q => s.heap.size ≤ q) (wlX cI cC ad1 ad2 w' v') → va_S (fun q => s.heap.size ≤ q) s.heap H1 locs1 → W p l e room_1 s m #[Value.ref b] below meth c H1 locs1 22 1699 (lw_Z below #[Value.ref b] s) (F0 m 814 ls [])) :
    W p l e room_1 s m #[Value.ref b] below meth c H locs 22 1699 (lw_Z below #[Value.ref b] s) (F0 m 604 ls []) := by
  obtain ⟨hx, hb, hml, hown, hts, hK, hSt⟩ := id F
  have hbA : ¬ (fun q : Nat => s.heap.size ≤ q) b := Nat.not_le.mpr hbl
  have h1 : vp_in (nI q + 1) L := by rw [nI_1]; exact vp_in_nI (by omega) (by omega)
  have h2 : vp_in (nI q + 2) L := by rw [show nI q + 2 = nI (q + 2) from nI_add q 2]; exact vp_in_nI (by omega) (by omega)
  have h3 : vp_in (nI q + 3) L := by rw [show nI q + 3 = nI (q + 3) from nI_add q 3]; exact vp_in_nI (by omega) (by omega)
  refine lv_aload_n hx hb dL_law_604 rfl (lv_at hl 1 rfl) ?_
  refine lv_aload_n hx hb dL_law_605 rfl (lv_at hl 0 rfl) ?_
  refine lv_iload_n hx hb dL_law_606 rfl (lv_at hl 3 rfl) ?_
  refine lv_iconst (v := 1) hx hb dL_law_607 (by decide) ?_
  refine lv_iadd hx hb dL_law_608 ?_
  refine va_sld hx hb hX hbl hbA hS h1 dL_law_609 ?_
  obtain ⟨a, w', v', e1, e2, hR'⟩ := L_total hR (xs (nI q + 1).toNatClampNeg)
  refine lw_cX F (As := [(xs (nI q + 1).toNatClampNeg)]) (rest := []) (c_X4_total l D cI cC td (xs (nI q + 1).toNatClampNeg) w _ e1) (cwV 1 hts gL_law_X4_total rfl rfl rfl (by decide +kernel) ⟨Nat.le_of_ble_eq_true rfl, Nat.le_of_ble_eq_true rfl⟩) rfl hl.1 (Nat.le_of_ble_eq_true rfl) dL_law_610 hP hD hS (fun H locs hP hD hS => ?_)
  refine lv_aload_n hx hb dL_law_613 rfl (lv_at hl 2 rfl) ?_
  refine lv_aload_n hx hb dL_law_614 rfl (lv_at hl 0 rfl) ?_
  refine lv_iload_n hx hb dL_law_615 rfl (lv_at hl 3 rfl) ?_
  refine lv_iconst (v := 1) hx hb dL_law_616 (by decide) ?_
  refine lv_iadd hx hb dL_law_617 ?_
  refine va_sld hx hb hX hbl hbA hS h1 dL_law_618 ?_
  refine lw_cM F (As := [(xs (nI q + 1).toNatClampNeg)]) (rest := [.int a]) (c_X5_total l D cI cC td (xs (nI q + 1).toNatClampNeg) v _ e2) (cwV 1 hts gL_law_X5_total rfl rfl rfl (by decide +kernel) ⟨Nat.le_of_ble_eq_true rfl, Nat.le_of_ble_eq_true rfl⟩) rfl hl.1 (Nat.le_of_ble_eq_true rfl) dL_law_619 hP hD hS (fun H locs hP hD hS => ?_)
  exact lv_icmp_eq (tgt := 814) hx hb dL_law_622 (by decide) (fun _ => kk w' v' H locs hR' hP hD hS) (fun hc => absurd rfl hc)
theorem law_worth {p : Program} {l : Launch} {e : Env} {s : State} {m : MethodId} {below : List Frame} {meth : Method} {c : Code} {b L : Nat} {xs : Nat → Int32} {D : va_G} {cI cC : ClassId} {td : Nat → Option Nat} (F : lwX p s m c b D cI cC td) (hX : va_X b L xs s s.heap) (hbl : b < s.heap.size) (hL : L ≤ 2048) {ad1 ad2 : Nat → Nat} {w v : mvW} {H : Heap} {locs : List Loc} {ls : Array Slot} {q : Nat} (hq : q + 4 ≤ L) (hR : Rel w v)
    (hP : va_P D vwCl (wlX cI cC ad1 ad2 w v) H) (hD : va_D (fun q => s.heap.size ≤ q) (wlX cI cC ad1 ad2 w v)) (hS : va_S (fun q => s.heap.size ≤ q) s.heap H locs) (hl : lv_has ls 4 [(0, .ref b), (1, .ref (ad1 0)), (2, .ref (ad2 0)), (3, .int (nI q))])
    (kk : ∀ (w' v' : mvW) (H1 : Heap) (locs1 : List Loc), Rel w' v' → va_P D vwCl (wlX cI cC ad1 ad2 w' v') H1 → va_D (fun q => s.heap.size ≤ q) (wlX cI cC ad1 ad2 w' v') → va_S (fun q => s.heap.size ≤ q) s.heap H1 locs1 → W p l e room_1 s m #[Value.ref b] below meth c H1 locs1 22 1699 (lw_Z below #[Value.ref b] s) (F0 m 814 ls [])) :
    W p l e room_1 s m #[Value.ref b] below meth c H locs 22 1699 (lw_Z below #[Value.ref b] s) (F0 m 627 ls []) := by
  obtain ⟨hx, hb, hml, hown, hts, hK, hSt⟩ := id F
  have hbA : ¬ (fun q : Nat => s.heap.size ≤ q) b := Nat.not_le.mpr hbl
  have h1 : vp_in (nI q + 1) L := by rw [nI_1]; exact vp_in_nI (by omega) (by omega)
  have h2 : vp_in (nI q + 2) L := by rw [show nI q + 2 = nI (q + 2) from nI_add q 2]; exact vp_in_nI (by omega) (by omega)
  have h3 : vp_in (nI q + 3) L := by rw [show nI q + 3 = nI (q + 3) from nI_add q 3]; exact vp_in_nI (by omega) (by omega)
  refine lv_aload_n hx hb dL_law_627 rfl (lv_at hl 1 rfl) ?_
  refine lv_aload_n hx hb dL_law_628 rfl (lv_at hl 0 rfl) ?_
  refine lv_iload_n hx hb dL_law_629 rfl (lv_at hl 3 rfl) ?_
  refine lv_iconst (v := 1) hx hb dL_law_630 (by decide) ?_
  refine lv_iadd hx hb dL_law_631 ?_
  refine va_sld hx hb hX hbl hbA hS h1 dL_law_632 ?_
  obtain ⟨a, w', v', e1, e2, hR'⟩ := L_worth hR (xs (nI q + 1).toNatClampNeg)
  refine lw_cX F (As := [(xs (nI q + 1).toNatClampNeg)]) (rest := []) (c_X4_worth l D cI cC td (xs (nI q + 1).toNatClampNeg) w _ e1) (cwV 1 hts gL_law_X4_worth rfl rfl rfl (by decide +kernel) ⟨Nat.le_of_ble_eq_true rfl, Nat.le_of_ble_eq_true rfl⟩) rfl hl.1 (Nat.le_of_ble_eq_true rfl) dL_law_633 hP hD hS (fun H locs hP hD hS => ?_)
  refine lv_aload_n hx hb dL_law_636 rfl (lv_at hl 2 rfl) ?_
  refine lv_aload_n hx hb dL_law_637 rfl (lv_at hl 0 rfl) ?_
  refine lv_iload_n hx hb dL_law_638 rfl (lv_at hl 3 rfl) ?_
  refine lv_iconst (v := 1) hx hb dL_law_639 (by decide) ?_
  refine lv_iadd hx hb dL_law_640 ?_
  refine va_sld hx hb hX hbl hbA hS h1 dL_law_641 ?_
  refine lw_cM F (As := [(xs (nI q + 1).toNatClampNeg)]) (rest := [.int a]) (c_X5_worth l D cI cC td (xs (nI q + 1).toNatClampNeg) v _ e2) (cwV 1 hts gL_law_X5_worth rfl rfl rfl (by decide +kernel) ⟨Nat.le_of_ble_eq_true rfl, Nat.le_of_ble_eq_true rfl⟩) rfl hl.1 (Nat.le_of_ble_eq_true rfl) dL_law_642 hP hD hS (fun H locs hP hD hS => ?_)
  exact lv_icmp_eq (tgt := 814) hx hb dL_law_645 (by decide) (fun _ => kk w' v' H locs hR' hP hD hS) (fun hc => absurd rfl hc)
