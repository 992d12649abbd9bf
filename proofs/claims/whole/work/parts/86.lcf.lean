/-! the law's cases 5 (printed by wip/whole/lawgen.py) -/
theorem law_moveReason {p : Program} {l : Launch} {e : Env} {s : State} {m : MethodId} {below : List Frame} {meth : Method} {c : Code} {b L : Nat} {xs : Nat → Int32} {D : va_G} {cI cC : ClassId} {td : Nat → Option Nat} (F : lwX p s m c b D cI cC td) (hX : va_X b L xs s s.heap) (hbl : b < s.heap.size) (hL : L ≤ 2048) {ad1 ad2 : Nat → Nat} {w v : mvW} {H : Heap} {locs : List Loc} {ls : Array Slot} {q : Nat} (hq : q + 4 ≤ L) (hR : Rel w v)
    (hP : va_P D vwCl (wlX cI cC ad1 ad2 w v) H) (hD : va_D (fun q => s.heap.size ≤ q) (wlX cI cC ad1 ad2 w v)) (hS : va_S (fun q => s.heap.size ≤ q) s.heap H locs) (hl : lv_has ls 4 [(0, .ref b), (1, .ref (ad1 0)), (2, .ref (ad2 0)), (3, .int (nI q))])
    (kk : ∀ (w' v' : mvW) (H1 : Heap) (locs1 : List Loc), Rel w' v' → va_P D vwCl (wlX cI cC ad1 ad2 w' v') H1 → va_D (fun q => s.heap.size ≤ q) (wlX cI cC ad1 ad2 w' v') → va_S (fun q => s.heap.size ≤ q) s.heap H1 locs1 → W p l e room_1 s m #[Value.ref b] below meth c H1 locs1 22 1699 (lw_Z below #[Value.ref b] s) (F0 m 814 ls [])) :
    W p l e room_1 s m #[Value.ref b] below meth c H locs 22 1699 (lw_Z below #[Value.ref b] s) (F0 m 650 ls []) := by
  obtain ⟨hx, hb, hml, hown, hts, hK, hSt⟩ := id F
  have hbA : ¬ (fun q : Nat => s.heap.size ≤ q) b := Nat.not_le.mpr hbl
  have h1 : vp_in (nI q + 1) L := by rw [nI_1]; exact vp_in_nI (by omega) (by omega)
  have h2 : vp_in (nI q + 2) L := by rw [show nI q + 2 = nI (q + 2) from nI_add q 2]; exact vp_in_nI (by omega) (by omega)
  have h3 : vp_in (nI q + 3) L := by rw [show nI q + 3 = nI (q + 3) from nI_add q 3]; exact vp_in_nI (by omega) (by omega)
  by_cases hz : (xs (nI q + 3).toNatClampNeg) = 0
  · refine lv_aload_n hx hb dL_law_650 rfl (lv_at hl 1 rfl) ?_
    refine lv_aload_n hx hb dL_law_651 rfl (lv_at hl 0 rfl) ?_
    refine lv_iload_n hx hb dL_law_652 rfl (lv_at hl 3 rfl) ?_
    refine lv_iconst (v := 1) hx hb dL_law_653 (by decide) ?_
    refine lv_iadd hx hb dL_law_654 ?_
    refine va_sld hx hb hX hbl hbA hS h1 dL_law_655 ?_
    refine lv_aload_n hx hb dL_law_656 rfl (lv_at hl 0 rfl) ?_
    refine lv_iload_n hx hb dL_law_657 rfl (lv_at hl 3 rfl) ?_
    refine lv_iconst (v := 2) hx hb dL_law_658 (by decide) ?_
    refine lv_iadd hx hb dL_law_659 ?_
    refine va_sld hx hb hX hbl hbA hS h2 dL_law_660 ?_
    refine lv_aload_n hx hb dL_law_661 rfl (lv_at hl 0 rfl) ?_
    refine lv_iload_n hx hb dL_law_662 rfl (lv_at hl 3 rfl) ?_
    refine lv_iconst (v := 3) hx hb dL_law_663 (by decide) ?_
    refine lv_iadd hx hb dL_law_664 ?_
    refine va_sld hx hb hX hbl hbA hS h3 dL_law_665 ?_
    refine lv_if_eq (tgt := 673) hx hb dL_law_666 (by decide) (fun _ => ?_) (fun hc => absurd hz hc)
    refine lv_iconst (v := 0) hx hb dL_law_673 (by decide) ?_
    obtain ⟨a, w', v', e1, e2, hR'⟩ := L_moveReason hR (xs (nI q + 1).toNatClampNeg) (xs (nI q + 2).toNatClampNeg) 0
    refine lw_cX F (As := [(xs (nI q + 1).toNatClampNeg), (xs (nI q + 2).toNatClampNeg), 0]) (rest := []) (c_X4_moveReason l D cI cC td (xs (nI q + 1).toNatClampNeg) (xs (nI q + 2).toNatClampNeg) 0 w _ e1) (cwV 3 hts gL_law_X4_moveReason rfl rfl rfl (by decide +kernel) ⟨Nat.le_of_ble_eq_true rfl, Nat.le_of_ble_eq_true rfl⟩) rfl hl.1 (Nat.le_of_ble_eq_true rfl) dL_law_674 hP hD hS (fun H locs hP hD hS => ?_)
    refine lv_aload_n hx hb dL_law_677 rfl (lv_at hl 2 rfl) ?_
    refine lv_aload_n hx hb dL_law_678 rfl (lv_at hl 0 rfl) ?_
    refine lv_iload_n hx hb dL_law_679 rfl (lv_at hl 3 rfl) ?_
    refine lv_iconst (v := 1) hx hb dL_law_680 (by decide) ?_
    refine lv_iadd hx hb dL_law_681 ?_
    refine va_sld hx hb hX hbl hbA hS h1 dL_law_682 ?_
    refine lv_aload_n hx hb dL_law_683 rfl (lv_at hl 0 rfl) ?_
    refine lv_iload_n hx hb dL_law_684 rfl (lv_at hl 3 rfl) ?_
    refine lv_iconst (v := 2) hx hb dL_law_685 (by decide) ?_
    refine lv_iadd hx hb dL_law_686 ?_
    refine va_sld hx hb hX hbl hbA hS h2 dL_law_687 ?_
    refine lv_aload_n hx hb dL_law_688 rfl (lv_at hl 0 rfl) ?_
    refine lv_iload_n hx hb dL_law_689 rfl (lv_at hl 3 rfl) ?_
    refine lv_iconst (v := 3) hx hb dL_law_690 (by decide) ?_
    refine lv_iadd hx hb dL_law_691 ?_
    refine va_sld hx hb hX hbl hbA hS h3 dL_law_692 ?_
    refine lv_if_eq (tgt := 700) hx hb dL_law_693 (by decide) (fun _ => ?_) (fun hc => absurd hz hc)
    refine lv_iconst (v := 0) hx hb dL_law_700 (by decide) ?_
    refine lw_cM F (As := [(xs (nI q + 1).toNatClampNeg), (xs (nI q + 2).toNatClampNeg), 0]) (rest := [.int a]) (c_X5_moveReason l D cI cC td (xs (nI q + 1).toNatClampNeg) (xs (nI q + 2).toNatClampNeg) 0 v _ e2) (cwV 3 hts gL_law_X5_moveReason rfl rfl rfl (by decide +kernel) ⟨Nat.le_of_ble_eq_true rfl, Nat.le_of_ble_eq_true rfl⟩) rfl hl.1 (Nat.le_of_ble_eq_true rfl) dL_law_701 hP hD hS (fun H locs hP hD hS => ?_)
    exact lv_icmp_eq (tgt := 814) hx hb dL_law_704 (by decide) (fun _ => kk w' v' H locs hR' hP hD hS) (fun hc => absurd rfl hc)
  · refine lv_aload_n hx hb dL_law_650 rfl (lv_at hl 1 rfl) ?_
    refine lv_aload_n hx hb dL_law_651 rfl (lv_at hl 0 rfl) ?_
    refine lv_iload_n hx hb dL_law_652 rfl (lv_at hl 3 rfl) ?_
    refine lv_iconst (v := 1) hx hb dL_law_653 (by decide) ?_
    refine lv_iadd hx hb dL_law_654 ?_
    refine va_sld hx hb hX hbl hbA hS h1 dL_law_655 ?_
    refine lv_aload_n hx hb dL_law_656 rfl (lv_at hl 0 rfl) ?_
    refine lv_iload_n hx hb dL_law_657 rfl (lv_at hl 3 rfl) ?_
    refine lv_iconst (v := 2) hx hb dL_law_658 (by decide) ?_
    refine lv_iadd hx hb dL_law_659 ?_
    refine va_sld hx hb hX hbl hbA hS h2 dL_law_660 ?_
    refine lv_aload_n hx hb dL_law_661 rfl (lv_at hl 0 rfl) ?_
    refine lv_iload_n hx hb dL_law_662 rfl (lv_at hl 3 rfl) ?_
    refine lv_iconst (v := 3) hx hb dL_law_663 (by decide) ?_
    refine lv_iadd hx hb dL_law_664 ?_
    refine va_sld hx hb hX hbl hbA hS h3 dL_law_665 ?_
    refine lv_if_eq (tgt := 673) hx hb dL_law_666 (by decide) (fun hc => absurd hc hz) (fun _ => ?_)
    refine lv_iconst (v := 1) hx hb dL_law_669 (by decide) ?_
    refine lv_goto (tgt := 674) hx hb dL_law_670 (by decide) ?_
    obtain ⟨a, w', v', e1, e2, hR'⟩ := L_moveReason hR (xs (nI q + 1).toNatClampNeg) (xs (nI q + 2).toNatClampNeg) 1
    refine lw_cX F (As := [(xs (nI q + 1).toNatClampNeg), (xs (nI q + 2).toNatClampNeg), 1]) (rest := []) (c_X4_moveReason l D cI cC td (xs (nI q + 1).toNatClampNeg) (xs (nI q + 2).toNatClampNeg) 1 w _ e1) (cwV 3 hts gL_law_X4_moveReason rfl rfl rfl (by decide +kernel) ⟨Nat.le_of_ble_eq_true rfl, Nat.le_of_ble_eq_true rfl⟩) rfl hl.1 (Nat.le_of_ble_eq_true rfl) dL_law_674 hP hD hS (fun H locs hP hD hS => ?_)
    refine lv_aload_n hx hb dL_law_677 rfl (lv_at hl 2 rfl) ?_
    refine lv_aload_n hx hb dL_law_678 rfl (lv_at hl 0 rfl) ?_
    refine lv_iload_n hx hb dL_law_679 rfl (lv_at hl 3 rfl) ?_
    refine lv_iconst (v := 1) hx hb dL_law_680 (by decide) ?_
    refine lv_iadd hx hb dL_law_681 ?_
    refine va_sld hx hb hX hbl hbA hS h1 dL_law_682 ?_
    refine lv_aload_n hx hb dL_law_683 rfl (lv_at hl 0 rfl) ?_
    refine lv_iload_n hx hb dL_law_684 rfl (lv_at hl 3 rfl) ?_
    refine lv_iconst (v := 2) hx hb dL_law_685 (by decide) ?_
    refine lv_iadd hx hb dL_law_686 ?_
    refine va_sld hx hb hX hbl hbA hS h2 dL_law_687 ?_
    refine lv_aload_n hx hb dL_law_688 rfl (lv_at hl 0 rfl) ?_
    refine lv_iload_n hx hb dL_law_689 rfl (lv_at hl 3 rfl) ?_
    refine lv_iconst (v := 3) hx hb dL_law_690 (by decide) ?_
    refine lv_iadd hx hb dL_law_691 ?_
    refine va_sld hx hb hX hbl hbA hS h3 dL_law_692 ?_
    refine lv_if_eq (tgt := 700) hx hb dL_law_693 (by decide) (fun hc => absurd hc hz) (fun _ => ?_)
    refine lv_iconst (v := 1) hx hb dL_law_696 (by decide) ?_
    refine lv_goto (tgt := 701) hx hb dL_law_697 (by decide) ?_
    refine lw_cM F (As := [(xs (nI q + 1).toNatClampNeg), (xs (nI q + 2).toNatClampNeg), 1]) (rest := [.int a]) (c_X5_moveReason l D cI cC td (xs (nI q + 1).toNatClampNeg) (xs (nI q + 2).toNatClampNeg) 1 v _ e2) (cwV 3 hts gL_law_X5_moveReason rfl rfl rfl (by decide +kernel) ⟨Nat.le_of_ble_eq_true rfl, Nat.le_of_ble_eq_true rfl⟩) rfl hl.1 (Nat.le_of_ble_eq_true rfl) dL_law_701 hP hD hS (fun H locs hP hD hS => ?_)
    exact lv_icmp_eq (tgt := 814) hx hb dL_law_704 (by decide) (fun _ => kk w' v' H locs hR' hP hD hS) (fun hc => absurd rfl hc)
theorem law_dropReason {p : Program} {l : Launch} {e : Env} {s : State} {m : MethodId} {below : List Frame} {meth : Method} {c : Code} {b L : Nat} {xs : Nat → Int32} {D : va_G} {cI cC : ClassId} {td : Nat → Option Nat} (F : lwX p s m c b D cI cC td) (hX : va_X b L xs s s.heap) (hbl : b < s.heap.size) (hL : L ≤ 2048) {ad1 ad2 : Nat → Nat} {w v : mvW} {H : Heap} {locs : List Loc} {ls : Array Slot} {q : Nat} (hq : q + 4 ≤ L) (hR : Rel w v)
    (hP : va_P D vwCl (wlX cI cC ad1 ad2 w v) H) (hD : va_D (fun q => s.heap.size ≤ q) (wlX cI cC ad1 ad2 w v)) (hS : va_S (fun q => s.heap.size ≤ q) s.heap H locs) (hl : lv_has ls 4 [(0, .ref b), (1, .ref (ad1 0)), (2, .ref (ad2 0)), (3, .int (nI q))])
    (kk : ∀ (w' v' : mvW) (H1 : Heap) (locs1 : List Loc), Rel w' v' → va_P D vwCl (wlX cI cC ad1 ad2 w' v') H1 → va_D (fun q => s.heap.size ≤ q) (wlX cI cC ad1 ad2 w' v') → va_S (fun q => s.heap.size ≤ q) s.heap H1 locs1 → W p l e room_1 s m #[Value.ref b] below meth c H1 locs1 22 1699 (lw_Z below #[Value.ref b] s) (F0 m 814 ls [])) :
    W p l e room_1 s m #[Value.ref b] below meth c H locs 22 1699 (lw_Z below #[Value.ref b] s) (F0 m 709 ls []) := by
  obtain ⟨hx, hb, hml, hown, hts, hK, hSt⟩ := id F
  have hbA : ¬ (fun q : Nat => s.heap.size ≤ q) b := Nat.not_le.mpr hbl
  have h1 : vp_in (nI q + 1) L := by rw [nI_1]; exact vp_in_nI (by omega) (by omega)
  have h2 : vp_in (nI q + 2) L := by rw [show nI q + 2 = nI (q + 2) from nI_add q 2]; exact vp_in_nI (by omega) (by omega)
  have h3 : vp_in (nI q + 3) L := by rw [show nI q + 3 = nI (q + 3) from nI_add q 3]; exact vp_in_nI (by omega) (by omega)
  refine lv_aload_n hx hb dL_law_709 rfl (lv_at hl 1 rfl) ?_
  refine lv_aload_n hx hb dL_law_710 rfl (lv_at hl 0 rfl) ?_
  refine lv_iload_n hx hb dL_law_711 rfl (lv_at hl 3 rfl) ?_
  refine lv_iconst (v := 1) hx hb dL_law_712 (by decide) ?_
  refine lv_iadd hx hb dL_law_713 ?_
  refine va_sld hx hb hX hbl hbA hS h1 dL_law_714 ?_
  refine lv_aload_n hx hb dL_law_715 rfl (lv_at hl 0 rfl) ?_
  refine lv_iload_n hx hb dL_law_716 rfl (lv_at hl 3 rfl) ?_
  refine lv_iconst (v := 2) hx hb dL_law_717 (by decide) ?_
  refine lv_iadd hx hb dL_law_718 ?_
  refine va_sld hx hb hX hbl hbA hS h2 dL_law_719 ?_
  obtain ⟨a, w', v', e1, e2, hR'⟩ := L_dropReason hR (xs (nI q + 1).toNatClampNeg) (xs (nI q + 2).toNatClampNeg)
  refine lw_cX F (As := [(xs (nI q + 1).toNatClampNeg), (xs (nI q + 2).toNatClampNeg)]) (rest := []) (c_X4_dropReason l D cI cC td (xs (nI q + 1).toNatClampNeg) (xs (nI q + 2).toNatClampNeg) w _ e1) (cwV 2 hts gL_law_X4_dropReason rfl rfl rfl (by decide +kernel) ⟨Nat.le_of_ble_eq_true rfl, Nat.le_of_ble_eq_true rfl⟩) rfl hl.1 (Nat.le_of_ble_eq_true rfl) dL_law_720 hP hD hS (fun H locs hP hD hS => ?_)
  refine lv_aload_n hx hb dL_law_723 rfl (lv_at hl 2 rfl) ?_
  refine lv_aload_n hx hb dL_law_724 rfl (lv_at hl 0 rfl) ?_
  refine lv_iload_n hx hb dL_law_725 rfl (lv_at hl 3 rfl) ?_
  refine lv_iconst (v := 1) hx hb dL_law_726 (by decide) ?_
  refine lv_iadd hx hb dL_law_727 ?_
  refine va_sld hx hb hX hbl hbA hS h1 dL_law_728 ?_
  refine lv_aload_n hx hb dL_law_729 rfl (lv_at hl 0 rfl) ?_
  refine lv_iload_n hx hb dL_law_730 rfl (lv_at hl 3 rfl) ?_
  refine lv_iconst (v := 2) hx hb dL_law_731 (by decide) ?_
  refine lv_iadd hx hb dL_law_732 ?_
  refine va_sld hx hb hX hbl hbA hS h2 dL_law_733 ?_
  refine lw_cM F (As := [(xs (nI q + 1).toNatClampNeg), (xs (nI q + 2).toNatClampNeg)]) (rest := [.int a]) (c_X5_dropReason l D cI cC td (xs (nI q + 1).toNatClampNeg) (xs (nI q + 2).toNatClampNeg) v _ e2) (cwV 2 hts gL_law_X5_dropReason rfl rfl rfl (by decide +kernel) ⟨Nat.le_of_ble_eq_true rfl, Nat.le_of_ble_eq_true rfl⟩) rfl hl.1 (Nat.le_of_ble_eq_true rfl) dL_law_734 hP hD hS (fun H locs hP hD hS => ?_)
  exact lv_icmp_eq (tgt := 814) hx hb dL_law_737 (by decide) (fun _ => kk w' v' H locs hR' hP hD hS) (fun hc => absurd rfl hc)
theorem law_playAt {p : Program} {l : Launch} {e : Env} {s : State} {m : MethodId} {below : List Frame} {meth : Method} {c : Code} {b L : Nat} {xs : Nat → Int32} {D : va_G} {cI cC : ClassId} {td : Nat → Option Nat} (F : lwX p s m c b D cI cC td) (hX : va_X b L xs s s.heap) (hbl : b < s.heap.size) (hL : L ≤ 2048) {ad1 ad2 : Nat → Nat} {w v : mvW} {H : Heap} {locs : List Loc} {ls : Array Slot} {q : Nat} (hq : q + 4 ≤ L) (hR : Rel w v)
    (hP : va_P D vwCl (wlX cI cC ad1 ad2 w v) H) (hD : va_D (fun q => s.heap.size ≤ q) (wlX cI cC ad1 ad2 w v)) (hS : va_S (fun q => s.heap.size ≤ q) s.heap H locs) (hl : lv_has ls 4 [(0, .ref b), (1, .ref (ad1 0)), (2, .ref (ad2 0)), (3, .int (nI q))])
    (kk : ∀ (w' v' : mvW) (H1 : Heap) (locs1 : List Loc), Rel w' v' → va_P D vwCl (wlX cI cC ad1 ad2 w' v') H1 → va_D (fun q => s.heap.size ≤ q) (wlX cI cC ad1 ad2 w' v') → va_S (fun q => s.heap.size ≤ q) s.heap H1 locs1 → W p l e room_1 s m #[Value.ref b] below meth c H1 locs1 22 1699 (lw_Z below #[Value.ref b] s) (F0 m 814 ls [])) :
    W p l e room_1 s m #[Value.ref b] below meth c H locs 22 1699 (lw_Z below #[Value.ref b] s) (F0 m 742 ls []) := by
  obtain ⟨hx, hb, hml, hown, hts, hK, hSt⟩ := id F
  have hbA : ¬ (fun q : Nat => s.heap.size ≤ q) b := Nat.not_le.mpr hbl
  have h1 : vp_in (nI q + 1) L := by rw [nI_1]; exact vp_in_nI (by omega) (by omega)
  have h2 : vp_in (nI q + 2) L := by rw [show nI q + 2 = nI (q + 2) from nI_add q 2]; exact vp_in_nI (by omega) (by omega)
  have h3 : vp_in (nI q + 3) L := by rw [show nI q + 3 = nI (q + 3) from nI_add q 3]; exact vp_in_nI (by omega) (by omega)
  refine lv_aload_n hx hb dL_law_742 rfl (lv_at hl 1 rfl) ?_
  refine lv_aload_n hx hb dL_law_743 rfl (lv_at hl 0 rfl) ?_
  refine lv_iload_n hx hb dL_law_744 rfl (lv_at hl 3 rfl) ?_
  refine lv_iconst (v := 1) hx hb dL_law_745 (by decide) ?_
  refine lv_iadd hx hb dL_law_746 ?_
  refine va_sld hx hb hX hbl hbA hS h1 dL_law_747 ?_
  obtain ⟨a, w', v', e1, e2, hR'⟩ := L_playAt hR (xs (nI q + 1).toNatClampNeg)
  refine lw_cX F (As := [(xs (nI q + 1).toNatClampNeg)]) (rest := []) (c_X4_playAt l D cI cC td (xs (nI q + 1).toNatClampNeg) w _ e1) (cwV 1 hts gL_law_X4_playAt rfl rfl rfl (by decide +kernel) ⟨Nat.le_of_ble_eq_true rfl, Nat.le_of_ble_eq_true rfl⟩) rfl hl.1 (Nat.le_of_ble_eq_true rfl) dL_law_748 hP hD hS (fun H locs hP hD hS => ?_)
  refine lv_aload_n hx hb dL_law_751 rfl (lv_at hl 2 rfl) ?_
  refine lv_aload_n hx hb dL_law_752 rfl (lv_at hl 0 rfl) ?_
  refine lv_iload_n hx hb dL_law_753 rfl (lv_at hl 3 rfl) ?_
  refine lv_iconst (v := 1) hx hb dL_law_754 (by decide) ?_
  refine lv_iadd hx hb dL_law_755 ?_
  refine va_sld hx hb hX hbl hbA hS h1 dL_law_756 ?_
  refine lw_cM F (As := [(xs (nI q + 1).toNatClampNeg)]) (rest := [.int a]) (c_X5_playAt l D cI cC td (xs (nI q + 1).toNatClampNeg) v _ e2) (cwV 1 hts gL_law_X5_playAt rfl rfl rfl (by decide +kernel) ⟨Nat.le_of_ble_eq_true rfl, Nat.le_of_ble_eq_true rfl⟩) rfl hl.1 (Nat.le_of_ble_eq_true rfl) dL_law_757 hP hD hS (fun H locs hP hD hS => ?_)
  exact lv_icmp_eq (tgt := 814) hx hb dL_law_760 (by decide) (fun _ => kk w' v' H locs hR' hP hD hS) (fun hc => absurd rfl hc)
theorem law_drops {p : Program} {l : Launch} {e : Env} {s : State} {m : MethodId} {below : List Frame} {meth : Method} {c : Code} {b L : Nat} {xs : Nat → Int32} {D : va_G} {cI cC : ClassId} {td : Nat → Option Nat} (F : lwX p s m c b D cI cC td) (hX : va_X b L xs s s.heap) (hbl : b < s.heap.size) (hL : L ≤ 2048) {ad1 ad2 : Nat → Nat} {w v : mvW} {H : Heap} {locs : List Loc} {ls : Array Slot} {q : Nat} (hq : q + 4 ≤ L) (hR : Rel w v)
    (hP : va_P D vwCl (wlX cI cC ad1 ad2 w v) H) (hD : va_D (fun q => s.heap.size ≤ q) (wlX cI cC ad1 ad2 w v)) (hS : va_S (fun q => s.heap.size ≤ q) s.heap H locs) (hl : lv_has ls 4 [(0, .ref b), (1, .ref (ad1 0)), (2, .ref (ad2 0)), (3, .int (nI q))])
    (kk : ∀ (w' v' : mvW) (H1 : Heap) (locs1 : List Loc), Rel w' v' → va_P D vwCl (wlX cI cC ad1 ad2 w' v') H1 → va_D (fun q => s.heap.size ≤ q) (wlX cI cC ad1 ad2 w' v') → va_S (fun q => s.heap.size ≤ q) s.heap H1 locs1 → W p l e room_1 s m #[Value.ref b] below meth c H1 locs1 22 1699 (lw_Z below #[Value.ref b] s) (F0 m 814 ls [])) :
    W p l e room_1 s m #[Value.ref b] below meth c H locs 22 1699 (lw_Z below #[Value.ref b] s) (F0 m 765 ls []) := by
  obtain ⟨hx, hb, hml, hown, hts, hK, hSt⟩ := id F
  have hbA : ¬ (fun q : Nat => s.heap.size ≤ q) b := Nat.not_le.mpr hbl
  have h1 : vp_in (nI q + 1) L := by rw [nI_1]; exact vp_in_nI (by omega) (by omega)
  have h2 : vp_in (nI q + 2) L := by rw [show nI q + 2 = nI (q + 2) from nI_add q 2]; exact vp_in_nI (by omega) (by omega)
  have h3 : vp_in (nI q + 3) L := by rw [show nI q + 3 = nI (q + 3) from nI_add q 3]; exact vp_in_nI (by omega) (by omega)
  refine lv_aload_n hx hb dL_law_765 rfl (lv_at hl 1 rfl) ?_
  refine lv_aload_n hx hb dL_law_766 rfl (lv_at hl 0 rfl) ?_
  refine lv_iload_n hx hb dL_law_767 rfl (lv_at hl 3 rfl) ?_
  refine lv_iconst (v := 1) hx hb dL_law_768 (by decide) ?_
  refine lv_iadd hx hb dL_law_769 ?_
  refine va_sld hx hb hX hbl hbA hS h1 dL_law_770 ?_
  obtain ⟨a, w', v', e1, e2, hR'⟩ := L_drops hR (xs (nI q + 1).toNatClampNeg)
  refine lw_cX F (As := [(xs (nI q + 1).toNatClampNeg)]) (rest := []) (c_X4_drops l D cI cC td (xs (nI q + 1).toNatClampNeg) w _ e1) (cwV 1 hts gL_law_X4_drops rfl rfl rfl (by decide +kernel) ⟨Nat.le_of_ble_eq_true rfl, Nat.le_of_ble_eq_true rfl⟩) rfl hl.1 (Nat.le_of_ble_eq_true rfl) dL_law_771 hP hD hS (fun H locs hP hD hS => ?_)
  refine lv_aload_n hx hb dL_law_774 rfl (lv_at hl 2 rfl) ?_
  refine lv_aload_n hx hb dL_law_775 rfl (lv_at hl 0 rfl) ?_
  refine lv_iload_n hx hb dL_law_776 rfl (lv_at hl 3 rfl) ?_
  refine lv_iconst (v := 1) hx hb dL_law_777 (by decide) ?_
  refine lv_iadd hx hb dL_law_778 ?_
  refine va_sld hx hb hX hbl hbA hS h1 dL_law_779 ?_
  refine lw_cM F (As := [(xs (nI q + 1).toNatClampNeg)]) (rest := [.int a]) (c_X5_drops l D cI cC td (xs (nI q + 1).toNatClampNeg) v _ e2) (cwV 1 hts gL_law_X5_drops rfl rfl rfl (by decide +kernel) ⟨Nat.le_of_ble_eq_true rfl, Nat.le_of_ble_eq_true rfl⟩) rfl hl.1 (Nat.le_of_ble_eq_true rfl) dL_law_780 hP hD hS (fun H locs hP hD hS => ?_)
  exact lv_icmp_eq (tgt := 814) hx hb dL_law_783 (by decide) (fun _ => kk w' v' H locs hR' hP hD hS) (fun hc => absurd rfl hc)
