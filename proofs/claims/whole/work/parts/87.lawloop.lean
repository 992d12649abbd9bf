/-! the law's loop -/
theorem lw_gt {q L : Nat} (hq : q ≤ 2 ^ 20) (hL : L ≤ 2048) : (nI L - 4 < nI q) = (L < q + 4) := by
  rw [Int32.lt_iff_toInt_lt, show nI L - 4 = nI L - nI 4 from rfl, pk_sub_toInt (by omega) (by omega), nI_toInt (by omega)]
  exact propext (by omega)
theorem law_loop {p : Program} {l : Launch} {e : Env} {s : State} {m : MethodId} {below : List Frame} {meth : Method} {c : Code} {b L : Nat} {xs : Nat → Int32} {D : va_G} {cI cC : ClassId} {td : Nat → Option Nat} (F : lwX p s m c b D cI cC td) (hret : meth.sig.returnType = ret) (hlocks : meth.locks = false) (hX : va_X b L xs s s.heap) (hbl : b < s.heap.size) (hL : L ≤ 2048) {ad1 ad2 : Nat → Nat} :
    ∀ (n q : Nat), q ≤ 4096 → L + 4 ≤ q + 4 * n → ∀ (w v : mvW) (H : Heap) (locs : List Loc) (ls : Array Slot), Rel w v → va_P D vwCl (wlX cI cC ad1 ad2 w v) H → va_D (fun q => s.heap.size ≤ q) (wlX cI cC ad1 ad2 w v) → va_S (fun q => s.heap.size ≤ q) s.heap H locs → lv_has ls 4 [(0, .ref b), (1, .ref (ad1 0)), (2, .ref (ad2 0)), (3, .int (nI q))] → W p l e room_1 s m #[Value.ref b] below meth c H locs 22 1699 (lw_Z below #[Value.ref b] s) (F0 m 18 ls []) := by
  obtain ⟨hx, hb, hml, hown, hts, hK, hSt⟩ := id F
  have hbA : ¬ (fun q : Nat => s.heap.size ≤ q) b := Nat.not_le.mpr hbl
  intro n
  induction n with
  | zero =>
    intro q hq4 hn w v H locs ls hR hP hD hS hl
    refine lv_iload_n hx hb dL_law_18 rfl (lv_at hl 3 rfl) ?_
    refine lv_aload_n hx hb dL_law_19 rfl (lv_at hl 0 rfl) ?_
    refine va_slen hx hb hX hbl hbA hS dL_law_20 ?_
    refine lv_iconst (v := 4) hx hb dL_law_21 (by decide) ?_
    refine lv_isub hx hb dL_law_22 ?_
    refine lv_icmp_gt (tgt := 820) hx hb dL_law_23 (by decide) (fun _ => ?_) (fun hc => absurd (show nI L - 4 < nI q by rw [lw_gt (by omega) hL]; omega) hc)
    refine lv_iconst (v := 1) hx hb dL_law_820 (by decide) ?_
    refine va_forget (fun q hq => hS.2.2 q hq) ?_
    exact lw_ret hx hb hret hlocks dL_law_821
  | succ n ih =>
    intro q hq4 hn w v H locs ls hR hP hD hS hl
    refine lv_iload_n hx hb dL_law_18 rfl (lv_at hl 3 rfl) ?_
    refine lv_aload_n hx hb dL_law_19 rfl (lv_at hl 0 rfl) ?_
    refine va_slen hx hb hX hbl hbA hS dL_law_20 ?_
    refine lv_iconst (v := 4) hx hb dL_law_21 (by decide) ?_
    refine lv_isub hx hb dL_law_22 ?_
    refine lv_icmp_gt (tgt := 820) hx hb dL_law_23 (by decide) (fun _ => ?_) (fun hc => ?_)
    · refine lv_iconst (v := 1) hx hb dL_law_820 (by decide) ?_
      refine va_forget (fun q hq => hS.2.2 q hq) ?_
      exact lw_ret hx hb hret hlocks dL_law_821
    · have hq : q + 4 ≤ L := by
        by_cases h : L < q + 4
        · exact absurd (show nI L - 4 < nI q by rw [lw_gt (by omega) hL]; exact h) hc
        · omega
      have back : ∀ (w' v' : mvW) (H1 : Heap) (locs1 : List Loc), Rel w' v' → va_P D vwCl (wlX cI cC ad1 ad2 w' v') H1 → va_D (fun q => s.heap.size ≤ q) (wlX cI cC ad1 ad2 w' v') → va_S (fun q => s.heap.size ≤ q) s.heap H1 locs1 → W p l e room_1 s m #[Value.ref b] below meth c H1 locs1 22 1699 (lw_Z below #[Value.ref b] s) (F0 m 814 ls []) := by
        intro w' v' H1 locs1 hR' hP' hD' hS'
        refine lv_iinc (v := nI (q + 4)) (lv' := [(3, .int (nI (q + 4))), (0, .ref b), (1, .ref (ad1 0)), (2, .ref (ad2 0))]) hx hb dL_law_814 hl (k := 3) rfl (nI_add q 4) (by decide) rfl (fun ls hl => ?_)
        refine lv_goto (tgt := 18) hx hb dL_law_817 (by decide) ?_
        exact ih (q + 4) (by omega) (by omega) w' v' H1 locs1 ls hR' hP' hD' hS' (lv_sub hl [1, 2, 3, 0] rfl)
      have h0 : vp_in (nI q) L := vp_in_nI (by omega) (by omega)
      refine lv_aload_n hx hb dL_law_26 rfl (lv_at hl 0 rfl) ?_
      refine lv_iload_n hx hb dL_law_27 rfl (lv_at hl 3 rfl) ?_
      refine va_sld hx hb hX hbl hbA hS h0 dL_law_28 ?_
      refine lv_bipush (v := 31) hx hb dL_law_29 (by decide) ?_
      refine lv_iand hx hb dL_law_31 ?_
      obtain ⟨j, hj, ej⟩ := pk_andE (xs (nI q).toNatClampNeg) (m := 31) 5 (by decide)
      rw [ej]
      have tj : (nI j).toInt = (j : Int) := nI_toInt (by omega)
      by_cases h26 : 26 ≤ j
      · refine lv_tableOut (tgt := 814) hx hb dL_law_32 (Or.inr (by rw [tj]; omega)) (by decide) ?_
        exact back w v H locs hR hP hD hS
      · have go : ∀ {off : Int} {tgt : Nat}, (#[120, 179, 212, 235, 268, 291, 334, 347, 370, 395, 408, 421, 434, 447, 460, 483, 516, 549, 572, 595, 618, 677, 710, 733, 756, 769] : Array Int)[j]? = some off → (32 : Int) + off = (tgt : Int) → W p l e room_1 s m #[Value.ref b] below meth c H locs 22 1699 (lw_Z below #[Value.ref b] s) (F0 m tgt ls []) → W p l e room_1 s m #[Value.ref b] below meth c H locs 22 1699 (lw_Z below #[Value.ref b] s) (F0 m 32 ls [.int (nI j)]) := fun h1 h2 k =>
          lv_tableIn hx hb dL_law_32 (by rw [tj]; omega) (by rw [tj]; omega) (by rw [tj, show ((j : Int) - 0).toNat = j by omega]; exact h1) h2 k
        have hjj : j = 0 ∨ j = 1 ∨ j = 2 ∨ j = 3 ∨ j = 4 ∨ j = 5 ∨ j = 6 ∨ j = 7 ∨ j = 8 ∨ j = 9 ∨ j = 10 ∨ j = 11 ∨ j = 12 ∨ j = 13 ∨ j = 14 ∨ j = 15 ∨ j = 16 ∨ j = 17 ∨ j = 18 ∨ j = 19 ∨ j = 20 ∨ j = 21 ∨ j = 22 ∨ j = 23 ∨ j = 24 ∨ j = 25 := by omega
        rcases hjj with rfl | rfl | rfl | rfl | rfl | rfl | rfl | rfl | rfl | rfl | rfl | rfl | rfl | rfl | rfl | rfl | rfl | rfl | rfl | rfl | rfl | rfl | rfl | rfl | rfl | rfl
        · exact go (tgt := 152) rfl (by decide) (law_move F hX hbl hL hq hR hP hD hS hl back)
        · exact go (tgt := 211) rfl (by decide) (law_drop F hX hbl hL hq hR hP hD hS hl back)
        · exact go (tgt := 244) rfl (by decide) (law_make F hX hbl hL hq hR hP hD hS hl back)
        · exact go (tgt := 267) rfl (by decide) (law_put F hX hbl hL hq hR hP hD hS hl back)
        · exact go (tgt := 300) rfl (by decide) (law_takeOff F hX hbl hL hq hR hP hD hS hl back)
        · exact go (tgt := 323) rfl (by decide) (law_setHand F hX hbl hL hq hR hP hD hS hl back)
        · exact go (tgt := 366) rfl (by decide) (law_clearAll F hX hbl hL hq hR hP hD hS hl back)
        · exact go (tgt := 379) rfl (by decide) (law_setSide F hX hbl hL hq hR hP hD hS hl back)
        · exact go (tgt := 402) rfl (by decide) (law_type F hX hbl hL hq hR hP hD hS hl back)
        · exact go (tgt := 427) rfl (by decide) (law_clearText F hX hbl hL hq hR hP hD hS hl back)
        · exact go (tgt := 440) rfl (by decide) (law_perform F hX hbl hL hq hR hP hD hS hl back)
        · exact go (tgt := 453) rfl (by decide) (law_undo F hX hbl hL hq hR hP hD hS hl back)
        · exact go (tgt := 466) rfl (by decide) (law_keep F hX hbl hL hq hR hP hD hS hl back)
        · exact go (tgt := 479) rfl (by decide) (law_restore F hX hbl hL hq hR hP hD hS hl back)
        · exact go (tgt := 492) rfl (by decide) (law_man F hX hbl hL hq hR hP hD hS hl back)
        · exact go (tgt := 515) rfl (by decide) (law_hand F hX hbl hL hq hR hP hD hS hl back)
        · exact go (tgt := 548) rfl (by decide) (law_attackers F hX hbl hL hq hR hP hD hS hl back)
        · exact go (tgt := 581) rfl (by decide) (law_attacked F hX hbl hL hq hR hP hD hS hl back)
        · exact go (tgt := 604) rfl (by decide) (law_total F hX hbl hL hq hR hP hD hS hl back)
        · exact go (tgt := 627) rfl (by decide) (law_worth F hX hbl hL hq hR hP hD hS hl back)
        · exact go (tgt := 650) rfl (by decide) (law_moveReason F hX hbl hL hq hR hP hD hS hl back)
        · exact go (tgt := 709) rfl (by decide) (law_dropReason F hX hbl hL hq hR hP hD hS hl back)
        · exact go (tgt := 742) rfl (by decide) (law_playAt F hX hbl hL hq hR hP hD hS hl back)
        · exact go (tgt := 765) rfl (by decide) (law_drops F hX hbl hL hq hR hP hD hS hl back)
        · exact go (tgt := 788) rfl (by decide) (law_mate F hX hbl hL hq hR hP hD hS hl back)
        · exact go (tgt := 801) rfl (by decide) (law_tightest F hX hbl hL hq hR hP hD hS hl back)
