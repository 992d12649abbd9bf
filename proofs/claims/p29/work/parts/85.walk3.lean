section
variable {p : Program} {l : Launch} {e : Env} {s : State} {m : MethodId} {args : Array Value} {below : List Frame} {meth : Method} {c : Code} {D : va_G} {cI cC : ClassId} {td : Nat → Option Nat} {A : Nat → Prop} {ad0 : Nat → Nat}
def rm_X4_drops : Room := { frames := 6, cells := 0, slots := 0, locals := 149 }
set_option maxRecDepth 20000 in
theorem in_X4_drops_X4 : ∀ w ∈ u_ws RX4 TX4 7, w ∈ wsX4_drops := by decide +kernel
set_option maxHeartbeats 4000000 in
set_option maxRecDepth 100000 in
theorem c_X4_drops (l : Launch) (D : va_G) (cI cC : ClassId) (td : Nat → Option Nat) (a1 : Int32) (w : mvW) : ∀ z, f_X4_drops a1 w = some z → mv_Ci l D vwCl cI cC tbX td yX4_drops wsX4_drops rm_X4_drops shX w [.inr (.inl 0), .inl a1] z := by
  refine mv_starti (own := RX4) rfl (by decide) rfl rfl (L0 := [some (.inr (.inl 0)), some (.inl a1)]) rfl (fun p e s m args below meth c A ad0 hX hr => ?_)
  rw [f_X4_drops]
  refine ev_iload_n hX dX4_drops_0 rfl ?_
  refine ev_callSi hX (As := [.inl a1]) (rm := rm_X4_isHandKind) (c_X4_isHandKind l D cI cC td a1 w) (cwS 1 hX.ts gX4_drops_X4_isHandKind rfl rfl rfl (by decide +kernel) ⟨Nat.le_of_ble_eq_true rfl, Nat.le_of_ble_eq_true rfl⟩) rfl rfl rfl ⟨Nat.le_of_ble_eq_true rfl, Nat.le_of_ble_eq_true rfl⟩ dX4_drops_1 rfl (fun z1 hz1 => ?_)
  refine ev_if_ne (tgt := 11) hX dX4_drops_4 (by decide) ?_ ?_
  · refine ev_aload_n hX dX4_drops_11 rfl ?_
    refine ev_getr (k := 1) hX (T := TX4) in_X4_drops_X4 rfl rfl rfl (show Cond.fieldLink RX4 21 "FiveShogi" "rules" "LFiveShogi$Rules;" ∈ _ by decide +kernel) rfl dX4_drops_12 ?_
    refine ev_callVi hX (k0 := 4) (As := []) (rm := rm_X3_findPlays) (c_X3_findPlays l D cI cC td z1.2) (cwV 0 hX.ts gX4_drops_X3_findPlays rfl rfl rfl (by decide +kernel) ⟨Nat.le_of_ble_eq_true rfl, Nat.le_of_ble_eq_true rfl⟩) rfl rfl rfl rfl rfl rfl ⟨Nat.le_of_ble_eq_true rfl, Nat.le_of_ble_eq_true rfl⟩ dX4_drops_15 rfl (fun z2 hz2 => ?_)
    refine ev_pop hX dX4_drops_18 ?_
    refine ev_aload_n hX dX4_drops_19 rfl ?_
    refine ev_getr (k := 1) hX (T := TX4) in_X4_drops_X4 rfl rfl rfl (show Cond.fieldLink RX4 21 "FiveShogi" "rules" "LFiveShogi$Rules;" ∈ _ by decide +kernel) rfl dX4_drops_20 ?_
    refine ev_iload_n hX dX4_drops_23 rfl ?_
    refine ev_callVi hX (k0 := 4) (As := [.inl a1]) (rm := rm_X3_dropSquares) (c_X3_dropSquares l D cI cC td a1 z2.2) (cwV 1 hX.ts gX4_drops_X3_dropSquares rfl rfl rfl (by decide +kernel) ⟨Nat.le_of_ble_eq_true rfl, Nat.le_of_ble_eq_true rfl⟩) rfl rfl rfl rfl rfl rfl ⟨Nat.le_of_ble_eq_true rfl, Nat.le_of_ble_eq_true rfl⟩ dX4_drops_24 rfl (fun z3 hz3 => ?_)
    exact ev_ireti hX hr dX4_drops_27
  · refine ev_sipush hX dX4_drops_7 (v := (-1001)) (by decide +kernel) ?_
    exact ev_ireti hX hr dX4_drops_10
def rm_X4_dropReason : Room := { frames := 6, cells := 0, slots := 0, locals := 147 }
set_option maxRecDepth 20000 in
theorem in_X4_dropReason_X4 : ∀ w ∈ u_ws RX4 TX4 7, w ∈ wsX4_dropReason := by decide +kernel
set_option maxHeartbeats 4000000 in
set_option maxRecDepth 100000 in
theorem c_X4_dropReason (l : Launch) (D : va_G) (cI cC : ClassId) (td : Nat → Option Nat) (a1 : Int32) (a2 : Int32) (w : mvW) : ∀ z, f_X4_dropReason a1 a2 w = some z → mv_Ci l D vwCl cI cC tbX td yX4_dropReason wsX4_dropReason rm_X4_dropReason shX w [.inr (.inl 0), .inl a1, .inl a2] z := by
  refine mv_starti (own := RX4) rfl (by decide) rfl rfl (L0 := [some (.inr (.inl 0)), some (.inl a1), some (.inl a2)]) rfl (fun p e s m args below meth c A ad0 hX hr => ?_)
  rw [f_X4_dropReason]
  refine ev_iload_n hX dX4_dropReason_0 rfl ?_
  refine ev_callSi hX (As := [.inl a1]) (rm := rm_X4_isHandKind) (c_X4_isHandKind l D cI cC td a1 w) (cwS 1 hX.ts gX4_dropReason_X4_isHandKind rfl rfl rfl (by decide +kernel) ⟨Nat.le_of_ble_eq_true rfl, Nat.le_of_ble_eq_true rfl⟩) rfl rfl rfl ⟨Nat.le_of_ble_eq_true rfl, Nat.le_of_ble_eq_true rfl⟩ dX4_dropReason_1 rfl (fun z1 hz1 => ?_)
  refine ev_if_eq (tgt := 14) hX dX4_dropReason_4 (by decide) ?_ ?_
  · refine ev_sipush hX dX4_dropReason_14 (v := (-1001)) (by decide +kernel) ?_
    exact ev_ireti hX hr dX4_dropReason_17
  · refine ev_iload_n hX dX4_dropReason_7 rfl ?_
    refine ev_callSi hX (As := [.inl a2]) (rm := rm_X4_isSquare) (c_X4_isSquare l D cI cC td a2 z1.2) (cwS 1 hX.ts gX4_dropReason_X4_isSquare rfl rfl rfl (by decide +kernel) ⟨Nat.le_of_ble_eq_true rfl, Nat.le_of_ble_eq_true rfl⟩) rfl rfl rfl ⟨Nat.le_of_ble_eq_true rfl, Nat.le_of_ble_eq_true rfl⟩ dX4_dropReason_8 rfl (fun z2 hz2 => ?_)
    refine ev_if_ne (tgt := 18) hX dX4_dropReason_11 (by decide) ?_ ?_
    · refine ev_aload_n hX dX4_dropReason_18 rfl ?_
      refine ev_getr (k := 1) hX (T := TX4) in_X4_dropReason_X4 rfl rfl rfl (show Cond.fieldLink RX4 21 "FiveShogi" "rules" "LFiveShogi$Rules;" ∈ _ by decide +kernel) rfl dX4_dropReason_19 ?_
      refine ev_iload_n hX dX4_dropReason_22 rfl ?_
      refine ev_iload_n hX dX4_dropReason_23 rfl ?_
      refine ev_callVi hX (k0 := 4) (As := [.inl a1, .inl a2]) (rm := rm_X3_whyNoDrop) (c_X3_whyNoDrop l D cI cC td a1 a2 z2.2) (cwV 2 hX.ts gX4_dropReason_X3_whyNoDrop rfl rfl rfl (by decide +kernel) ⟨Nat.le_of_ble_eq_true rfl, Nat.le_of_ble_eq_true rfl⟩) rfl rfl rfl rfl rfl rfl ⟨Nat.le_of_ble_eq_true rfl, Nat.le_of_ble_eq_true rfl⟩ dX4_dropReason_24 rfl (fun z3 hz3 => ?_)
      exact ev_ireti hX hr dX4_dropReason_27
    · refine ev_sipush hX dX4_dropReason_14 (v := (-1001)) (by decide +kernel) ?_
      exact ev_ireti hX hr dX4_dropReason_17
def rm_X4_playAt : Room := { frames := 6, cells := 0, slots := 0, locals := 149 }
set_option maxRecDepth 20000 in
theorem in_X4_playAt_X4 : ∀ w ∈ u_ws RX4 TX4 7, w ∈ wsX4_playAt := by decide +kernel
set_option maxHeartbeats 4000000 in
set_option maxRecDepth 100000 in
theorem c_X4_playAt (l : Launch) (D : va_G) (cI cC : ClassId) (td : Nat → Option Nat) (a1 : Int32) (w : mvW) : ∀ z, f_X4_playAt a1 w = some z → mv_Ci l D vwCl cI cC tbX td yX4_playAt wsX4_playAt rm_X4_playAt shX w [.inr (.inl 0), .inl a1] z := by
  refine mv_starti (own := RX4) rfl (by decide) rfl rfl (L0 := [some (.inr (.inl 0)), some (.inl a1)]) rfl (fun p e s m args below meth c A ad0 hX hr => ?_)
  rw [f_X4_playAt]
  refine ev_iload_n hX dX4_playAt_0 rfl ?_
  refine ev_if_ge (tgt := 8) hX dX4_playAt_1 (by decide) ?_ ?_
  · refine ev_aload_n hX dX4_playAt_8 rfl ?_
    refine ev_getr (k := 1) hX (T := TX4) in_X4_playAt_X4 rfl rfl rfl (show Cond.fieldLink RX4 21 "FiveShogi" "rules" "LFiveShogi$Rules;" ∈ _ by decide +kernel) rfl dX4_playAt_9 ?_
    refine ev_callVi hX (k0 := 4) (As := []) (rm := rm_X3_findPlays) (c_X3_findPlays l D cI cC td w) (cwV 0 hX.ts gX4_playAt_X3_findPlays rfl rfl rfl (by decide +kernel) ⟨Nat.le_of_ble_eq_true rfl, Nat.le_of_ble_eq_true rfl⟩) rfl rfl rfl rfl rfl rfl ⟨Nat.le_of_ble_eq_true rfl, Nat.le_of_ble_eq_true rfl⟩ dX4_playAt_12 rfl (fun z1 hz1 => ?_)
    refine ev_pop hX dX4_playAt_15 ?_
    refine ev_iload_n hX dX4_playAt_16 rfl ?_
    refine ev_aload_n hX dX4_playAt_17 rfl ?_
    refine ev_getr (k := 1) hX (T := TX4) in_X4_playAt_X4 rfl rfl rfl (show Cond.fieldLink RX4 21 "FiveShogi" "rules" "LFiveShogi$Rules;" ∈ _ by decide +kernel) rfl dX4_playAt_18 ?_
    refine ev_callVi hX (k0 := 4) (As := []) (rm := rm_X3_listPlays) (c_X3_listPlays l D cI cC td z1.2) (cwV 0 hX.ts gX4_playAt_X3_listPlays rfl rfl rfl (by decide +kernel) ⟨Nat.le_of_ble_eq_true rfl, Nat.le_of_ble_eq_true rfl⟩) rfl rfl rfl rfl rfl rfl ⟨Nat.le_of_ble_eq_true rfl, Nat.le_of_ble_eq_true rfl⟩ dX4_playAt_21 rfl (fun z2 hz2 => ?_)
    refine ev_icmp_ge (tgt := 38) hX dX4_playAt_24 (by decide) ?_ ?_
    · refine ev_sipush hX dX4_playAt_38 (v := (-1005)) (by decide +kernel) ?_
      exact ev_ireti hX hr dX4_playAt_41
    · refine ev_aload_n hX dX4_playAt_27 rfl ?_
      refine ev_getr (k := 1) hX (T := TX4) in_X4_playAt_X4 rfl rfl rfl (show Cond.fieldLink RX4 21 "FiveShogi" "rules" "LFiveShogi$Rules;" ∈ _ by decide +kernel) rfl dX4_playAt_28 ?_
      refine ev_iload_n hX dX4_playAt_31 rfl ?_
      refine ev_callVi hX (k0 := 4) (As := [.inl a1]) (rm := rm_X3_listed) (c_X3_listed l D cI cC td a1 z2.2) (cwV 1 hX.ts gX4_playAt_X3_listed rfl rfl rfl (by decide +kernel) ⟨Nat.le_of_ble_eq_true rfl, Nat.le_of_ble_eq_true rfl⟩) rfl rfl rfl rfl rfl rfl ⟨Nat.le_of_ble_eq_true rfl, Nat.le_of_ble_eq_true rfl⟩ dX4_playAt_32 rfl (fun z3 hz3 => ?_)
      refine ev_goto (tgt := 41) hX dX4_playAt_35 (by decide) ?_
      exact ev_ireti hX hr dX4_playAt_41
  · refine ev_sipush hX dX4_playAt_4 (v := (-1002)) (by decide +kernel) ?_
    exact ev_ireti hX hr dX4_playAt_7
def rm_X4_tightest : Room := { frames := 6, cells := 0, slots := 0, locals := 149 }
set_option maxRecDepth 20000 in
theorem in_X4_tightest_X4 : ∀ w ∈ u_ws RX4 TX4 7, w ∈ wsX4_tightest := by decide +kernel
set_option maxHeartbeats 4000000 in
set_option maxRecDepth 100000 in
theorem e_X4_tightest_123 (hX : mv_X p s m args meth c D vwCl cI cC tbX td A cX4_tightest 11 RX4 wsX4_tightest) (hr : meth.sig.returnType = (some .int)) (k37 : Int32 → Int32 → Int32 → Int32 → Int32 → Int32 → mvW → Option (Int32 × mvW)) (hk37 : ∀ (x1 : Int32) (x2 : Int32) (x3 : Int32) (x4 : Int32) (x5 : Int32) (x6 : Int32) (w : mvW), EV p l e (headSpec wsX4_tightest rm_X4_tightest).room s m args below meth c D vwCl cI cC td A (fun a => a = ad0) (mv_Qi below args s D vwCl cI cC shX ad0 A) 0 0 shX [some (.inr (.inl 0)), some (.inl x1), some (.inl x2), some (.inl x3), some (.inl x4), some (.inl x5), some (.inl x6), none, none, none, none] [] 37 w (k37 x1 x2 x3 x4 x5 x6 w)) (x1 : Int32) (x2 : Int32) (x6 : Int32) (x7 : Int32) (x9 : Int32) (x10 : Int32) (w : mvW) : EV p l e (headSpec wsX4_tightest rm_X4_tightest).room s m args below meth c D vwCl cI cC td A (fun a => a = ad0) (mv_Qi below args s D vwCl cI cC shX ad0 A) 0 0 shX [some (.inr (.inl 0)), some (.inl x1), some (.inl x2), none, none, none, some (.inl x6), some (.inl x7), none, some (.inl x9), some (.inl x10)] [] 123 w (f_X4_tightest_123 k37 x1 x2 x6 x7 x9 x10 w) := by
  rw [f_X4_tightest_123]
  refine ev_iload hX dX4_tightest_123 rfl ?_
  refine ev_istore_n hX dX4_tightest_125 rfl (L' := [some (.inr (.inl 0)), some (.inl x1), some (.inl x2), some (.inl x7), none, none, some (.inl x6), some (.inl x7), none, some (.inl x9), some (.inl x10)]) rfl ?_
  refine ev_iload hX dX4_tightest_126 rfl ?_
  refine ev_istore hX dX4_tightest_128 rfl (L' := [some (.inr (.inl 0)), some (.inl x1), some (.inl x2), some (.inl x7), some (.inl x9), none, some (.inl x6), some (.inl x7), none, some (.inl x9), some (.inl x10)]) rfl ?_
  refine ev_iload hX dX4_tightest_130 rfl ?_
  refine ev_istore hX dX4_tightest_132 rfl (L' := [some (.inr (.inl 0)), some (.inl x1), some (.inl x2), some (.inl x7), some (.inl x9), some (.inl x10), some (.inl x6), some (.inl x7), none, some (.inl x9), some (.inl x10)]) rfl ?_
  refine ev_iinc hX dX4_tightest_134 rfl (v := 1) (by decide +kernel) (L' := [some (.inr (.inl 0)), some (.inl x1), some (.inl x2), some (.inl x7), some (.inl x9), some (.inl x10), some (.inl (x6 + 1)), some (.inl x7), none, some (.inl x9), some (.inl x10)]) rfl ?_
  refine ev_goto (tgt := 37) hX dX4_tightest_137 (by decide) ?_
  refine ev_mask [true, true, true, true, true, true, true, false, false, false, false] (L' := [some (.inr (.inl 0)), some (.inl x1), some (.inl x2), some (.inl x7), some (.inl x9), some (.inl x10), some (.inl (x6 + 1)), none, none, none, none]) rfl rfl ?_
  exact hk37 x1 x2 x7 x9 x10 (x6 + 1) w
set_option maxHeartbeats 4000000 in
set_option maxRecDepth 100000 in
theorem e_X4_tightest_37 (hX : mv_X p s m args meth c D vwCl cI cC tbX td A cX4_tightest 11 RX4 wsX4_tightest) (hr : meth.sig.returnType = (some .int)) : ∀ (n : Nat) (x1 : Int32) (x2 : Int32) (x3 : Int32) (x4 : Int32) (x5 : Int32) (x6 : Int32) (w : mvW), EV p l e (headSpec wsX4_tightest rm_X4_tightest).room s m args below meth c D vwCl cI cC td A (fun a => a = ad0) (mv_Qi below args s D vwCl cI cC shX ad0 A) 0 0 shX [some (.inr (.inl 0)), some (.inl x1), some (.inl x2), some (.inl x3), some (.inl x4), some (.inl x5), some (.inl x6), none, none, none, none] [] 37 w (f_X4_tightest_37 n x1 x2 x3 x4 x5 x6 w) := by
  intro n
  induction n with
  | zero => intro x1 x2 x3 x4 x5 x6 w; exact ev_none
  | succ n ih =>
    intro x1 x2 x3 x4 x5 x6 w
    rw [f_X4_tightest_37]
    refine ev_iload hX dX4_tightest_37 rfl ?_
    refine ev_iload_n hX dX4_tightest_39 rfl ?_
    refine ev_icmp_ge (tgt := 140) hX dX4_tightest_40 (by decide) ?_ ?_
    · refine ev_iload_n hX dX4_tightest_140 rfl ?_
      exact ev_ireti hX hr dX4_tightest_141
    · refine ev_aload_n hX dX4_tightest_43 rfl ?_
      refine ev_getr (k := 1) hX (T := TX4) in_X4_tightest_X4 rfl rfl rfl (show Cond.fieldLink RX4 21 "FiveShogi" "rules" "LFiveShogi$Rules;" ∈ _ by decide +kernel) rfl dX4_tightest_44 ?_
      refine ev_iload hX dX4_tightest_47 rfl ?_
      refine ev_callVi hX (k0 := 4) (As := [.inl x6]) (rm := rm_X3_listed) (c_X3_listed l D cI cC td x6 w) (cwV 1 hX.ts gX4_tightest_X3_listed rfl rfl rfl (by decide +kernel) ⟨Nat.le_of_ble_eq_true rfl, Nat.le_of_ble_eq_true rfl⟩) rfl rfl rfl rfl rfl rfl ⟨Nat.le_of_ble_eq_true rfl, Nat.le_of_ble_eq_true rfl⟩ dX4_tightest_49 rfl (fun z4 hz4 => ?_)
      refine ev_istore hX dX4_tightest_52 rfl (L' := [some (.inr (.inl 0)), some (.inl x1), some (.inl x2), some (.inl x3), some (.inl x4), some (.inl x5), some (.inl x6), some (.inl z4.1), none, none, none]) rfl ?_
      refine ev_aload_n hX dX4_tightest_54 rfl ?_
      refine ev_getr (k := 0) hX (T := TX4) in_X4_tightest_X4 rfl rfl rfl (show Cond.fieldLink RX4 12 "FiveShogi" "position" "LFiveShogi$Position;" ∈ _ by decide +kernel) rfl dX4_tightest_55 ?_
      refine ev_iload hX dX4_tightest_58 rfl ?_
      refine ev_callVi hX (k0 := 1) (As := [.inl z4.1]) (rm := rm_X2_apply) (c_X2_apply l D cI cC td z4.1 z4.2) (cwV 1 hX.ts gX4_tightest_X2_apply rfl rfl rfl (by decide +kernel) ⟨Nat.le_of_ble_eq_true rfl, Nat.le_of_ble_eq_true rfl⟩) rfl rfl rfl rfl rfl rfl ⟨Nat.le_of_ble_eq_true rfl, Nat.le_of_ble_eq_true rfl⟩ dX4_tightest_60 rfl (fun z5 hz5 => ?_)
      refine ev_istore hX dX4_tightest_63 rfl (L' := [some (.inr (.inl 0)), some (.inl x1), some (.inl x2), some (.inl x3), some (.inl x4), some (.inl x5), some (.inl x6), some (.inl z4.1), some (.inl z5.1), none, none]) rfl ?_
      refine ev_aload_n hX dX4_tightest_65 rfl ?_
      refine ev_getr (k := 1) hX (T := TX4) in_X4_tightest_X4 rfl rfl rfl (show Cond.fieldLink RX4 21 "FiveShogi" "rules" "LFiveShogi$Rules;" ∈ _ by decide +kernel) rfl dX4_tightest_66 ?_
      refine ev_callVi hX (k0 := 4) (As := []) (rm := rm_X3_findPlays) (c_X3_findPlays l D cI cC td z5.2) (cwV 0 hX.ts gX4_tightest_X3_findPlays rfl rfl rfl (by decide +kernel) ⟨Nat.le_of_ble_eq_true rfl, Nat.le_of_ble_eq_true rfl⟩) rfl rfl rfl rfl rfl rfl ⟨Nat.le_of_ble_eq_true rfl, Nat.le_of_ble_eq_true rfl⟩ dX4_tightest_69 rfl (fun z6 hz6 => ?_)
      refine ev_istore hX dX4_tightest_72 rfl (L' := [some (.inr (.inl 0)), some (.inl x1), some (.inl x2), some (.inl x3), some (.inl x4), some (.inl x5), some (.inl x6), some (.inl z4.1), some (.inl z5.1), some (.inl z6.1), none]) rfl ?_
      refine ev_aload_n hX dX4_tightest_74 rfl ?_
      refine ev_getr (k := 0) hX (T := TX4) in_X4_tightest_X4 rfl rfl rfl (show Cond.fieldLink RX4 12 "FiveShogi" "position" "LFiveShogi$Position;" ∈ _ by decide +kernel) rfl dX4_tightest_75 ?_
      refine ev_iload_n hX dX4_tightest_78 rfl ?_
      refine ev_callVi hX (k0 := 1) (As := [.inl x2]) (rm := rm_X2_worthFor) (c_X2_worthFor l D cI cC td x2 z6.2) (cwV 1 hX.ts gX4_tightest_X2_worthFor rfl rfl rfl (by decide +kernel) ⟨Nat.le_of_ble_eq_true rfl, Nat.le_of_ble_eq_true rfl⟩) rfl rfl rfl rfl rfl rfl ⟨Nat.le_of_ble_eq_true rfl, Nat.le_of_ble_eq_true rfl⟩ dX4_tightest_79 rfl (fun z7 hz7 => ?_)
      refine ev_istore hX dX4_tightest_82 rfl (L' := [some (.inr (.inl 0)), some (.inl x1), some (.inl x2), some (.inl x3), some (.inl x4), some (.inl x5), some (.inl x6), some (.inl z4.1), some (.inl z5.1), some (.inl z6.1), some (.inl z7.1)]) rfl ?_
      refine ev_aload_n hX dX4_tightest_84 rfl ?_
      refine ev_getr (k := 0) hX (T := TX4) in_X4_tightest_X4 rfl rfl rfl (show Cond.fieldLink RX4 12 "FiveShogi" "position" "LFiveShogi$Position;" ∈ _ by decide +kernel) rfl dX4_tightest_85 ?_
      refine ev_iload hX dX4_tightest_88 rfl ?_
      refine ev_iload hX dX4_tightest_90 rfl ?_
      refine ev_callVv hX (k0 := 1) (As := [.inl z4.1, .inl z5.1]) (rm := rm_X2_takeBack) (c_X2_takeBack l D cI cC td z4.1 z5.1 z7.2) (cwV 2 hX.ts gX4_tightest_X2_takeBack rfl rfl rfl (by decide +kernel) ⟨Nat.le_of_ble_eq_true rfl, Nat.le_of_ble_eq_true rfl⟩) rfl rfl rfl rfl rfl rfl ⟨Nat.le_of_ble_eq_true rfl, Nat.le_of_ble_eq_true rfl⟩ dX4_tightest_92 rfl (fun z8 hz8 => ?_)
      refine ev_iload_n hX dX4_tightest_95 rfl ?_
      refine ev_sipush hX dX4_tightest_96 (v := (-1005)) (by decide +kernel) ?_
      refine ev_icmp_eq (tgt := 123) hX dX4_tightest_99 (by decide) ?_ ?_
      · refine ev_mask [true, true, true, false, false, false, true, true, false, true, true] (L' := [some (.inr (.inl 0)), some (.inl x1), some (.inl x2), none, none, none, some (.inl x6), some (.inl z4.1), none, some (.inl z6.1), some (.inl z7.1)]) rfl rfl ?_
        exact e_X4_tightest_123 hX hr (fun x1' x2' x3' x4' x5' x6' w' => f_X4_tightest_37 n x1' x2' x3' x4' x5' x6' w') (fun x1' x2' x3' x4' x5' x6' w' => ih x1' x2' x3' x4' x5' x6' w') x1 x2 x6 z4.1 z6.1 z7.1 z8
      · refine ev_iload hX dX4_tightest_102 rfl ?_
        refine ev_iload hX dX4_tightest_104 rfl ?_
        refine ev_icmp_lt (tgt := 123) hX dX4_tightest_106 (by decide) ?_ ?_
        · refine ev_mask [true, true, true, false, false, false, true, true, false, true, true] (L' := [some (.inr (.inl 0)), some (.inl x1), some (.inl x2), none, none, none, some (.inl x6), some (.inl z4.1), none, some (.inl z6.1), some (.inl z7.1)]) rfl rfl ?_
          exact e_X4_tightest_123 hX hr (fun x1' x2' x3' x4' x5' x6' w' => f_X4_tightest_37 n x1' x2' x3' x4' x5' x6' w') (fun x1' x2' x3' x4' x5' x6' w' => ih x1' x2' x3' x4' x5' x6' w') x1 x2 x6 z4.1 z6.1 z7.1 z8
        · refine ev_iload hX dX4_tightest_109 rfl ?_
          refine ev_iload hX dX4_tightest_111 rfl ?_
          refine ev_icmp_ne (tgt := 134) hX dX4_tightest_113 (by decide) ?_ ?_
          · refine ev_iinc hX dX4_tightest_134 rfl (v := 1) (by decide +kernel) (L' := [some (.inr (.inl 0)), some (.inl x1), some (.inl x2), some (.inl x3), some (.inl x4), some (.inl x5), some (.inl (x6 + 1)), some (.inl z4.1), some (.inl z5.1), some (.inl z6.1), some (.inl z7.1)]) rfl ?_
            refine ev_goto (tgt := 37) hX dX4_tightest_137 (by decide) ?_
            refine ev_mask [true, true, true, true, true, true, true, false, false, false, false] (L' := [some (.inr (.inl 0)), some (.inl x1), some (.inl x2), some (.inl x3), some (.inl x4), some (.inl x5), some (.inl (x6 + 1)), none, none, none, none]) rfl rfl ?_
            exact ih x1 x2 x3 x4 x5 (x6 + 1) z8
          · refine ev_iload hX dX4_tightest_116 rfl ?_
            refine ev_iload hX dX4_tightest_118 rfl ?_
            refine ev_icmp_le (tgt := 134) hX dX4_tightest_120 (by decide) ?_ ?_
            · refine ev_iinc hX dX4_tightest_134 rfl (v := 1) (by decide +kernel) (L' := [some (.inr (.inl 0)), some (.inl x1), some (.inl x2), some (.inl x3), some (.inl x4), some (.inl x5), some (.inl (x6 + 1)), some (.inl z4.1), some (.inl z5.1), some (.inl z6.1), some (.inl z7.1)]) rfl ?_
              refine ev_goto (tgt := 37) hX dX4_tightest_137 (by decide) ?_
              refine ev_mask [true, true, true, true, true, true, true, false, false, false, false] (L' := [some (.inr (.inl 0)), some (.inl x1), some (.inl x2), some (.inl x3), some (.inl x4), some (.inl x5), some (.inl (x6 + 1)), none, none, none, none]) rfl rfl ?_
              exact ih x1 x2 x3 x4 x5 (x6 + 1) z8
            · refine ev_mask [true, true, true, false, false, false, true, true, false, true, true] (L' := [some (.inr (.inl 0)), some (.inl x1), some (.inl x2), none, none, none, some (.inl x6), some (.inl z4.1), none, some (.inl z6.1), some (.inl z7.1)]) rfl rfl ?_
              exact e_X4_tightest_123 hX hr (fun x1' x2' x3' x4' x5' x6' w' => f_X4_tightest_37 n x1' x2' x3' x4' x5' x6' w') (fun x1' x2' x3' x4' x5' x6' w' => ih x1' x2' x3' x4' x5' x6' w') x1 x2 x6 z4.1 z6.1 z7.1 z8
set_option maxHeartbeats 4000000 in
set_option maxRecDepth 100000 in
theorem c_X4_tightest (l : Launch) (D : va_G) (cI cC : ClassId) (td : Nat → Option Nat) (w : mvW) : ∀ z, f_X4_tightest w = some z → mv_Ci l D vwCl cI cC tbX td yX4_tightest wsX4_tightest rm_X4_tightest shX w [.inr (.inl 0)] z := by
  refine mv_starti (own := RX4) rfl (by decide) rfl rfl (L0 := [some (.inr (.inl 0)), none, none, none, none, none, none, none, none, none, none]) rfl (fun p e s m args below meth c A ad0 hX hr => ?_)
  rw [f_X4_tightest]
  refine ev_aload_n hX dX4_tightest_0 rfl ?_
  refine ev_getr (k := 1) hX (T := TX4) in_X4_tightest_X4 rfl rfl rfl (show Cond.fieldLink RX4 21 "FiveShogi" "rules" "LFiveShogi$Rules;" ∈ _ by decide +kernel) rfl dX4_tightest_1 ?_
  refine ev_callVi hX (k0 := 4) (As := []) (rm := rm_X3_findPlays) (c_X3_findPlays l D cI cC td w) (cwV 0 hX.ts gX4_tightest_X3_findPlays rfl rfl rfl (by decide +kernel) ⟨Nat.le_of_ble_eq_true rfl, Nat.le_of_ble_eq_true rfl⟩) rfl rfl rfl rfl rfl rfl ⟨Nat.le_of_ble_eq_true rfl, Nat.le_of_ble_eq_true rfl⟩ dX4_tightest_4 rfl (fun z1 hz1 => ?_)
  refine ev_pop hX dX4_tightest_7 ?_
  refine ev_aload_n hX dX4_tightest_8 rfl ?_
  refine ev_getr (k := 1) hX (T := TX4) in_X4_tightest_X4 rfl rfl rfl (show Cond.fieldLink RX4 21 "FiveShogi" "rules" "LFiveShogi$Rules;" ∈ _ by decide +kernel) rfl dX4_tightest_9 ?_
  refine ev_callVi hX (k0 := 4) (As := []) (rm := rm_X3_listPlays) (c_X3_listPlays l D cI cC td z1.2) (cwV 0 hX.ts gX4_tightest_X3_listPlays rfl rfl rfl (by decide +kernel) ⟨Nat.le_of_ble_eq_true rfl, Nat.le_of_ble_eq_true rfl⟩) rfl rfl rfl rfl rfl rfl ⟨Nat.le_of_ble_eq_true rfl, Nat.le_of_ble_eq_true rfl⟩ dX4_tightest_12 rfl (fun z2 hz2 => ?_)
  refine ev_istore_n hX dX4_tightest_15 rfl (L' := [some (.inr (.inl 0)), some (.inl z2.1), none, none, none, none, none, none, none, none, none]) rfl ?_
  refine ev_aload_n hX dX4_tightest_16 rfl ?_
  refine ev_getr (k := 0) hX (T := TX4) in_X4_tightest_X4 rfl rfl rfl (show Cond.fieldLink RX4 12 "FiveShogi" "position" "LFiveShogi$Position;" ∈ _ by decide +kernel) rfl dX4_tightest_17 ?_
  refine ev_callVi hX (k0 := 1) (As := []) (rm := rm_X2_sideToPlay) (c_X2_sideToPlay l D cI cC td z2.2) (cwV 0 hX.ts gX4_tightest_X2_sideToPlay rfl rfl rfl (by decide +kernel) ⟨Nat.le_of_ble_eq_true rfl, Nat.le_of_ble_eq_true rfl⟩) rfl rfl rfl rfl rfl rfl ⟨Nat.le_of_ble_eq_true rfl, Nat.le_of_ble_eq_true rfl⟩ dX4_tightest_20 rfl (fun z3 hz3 => ?_)
  refine ev_istore_n hX dX4_tightest_23 rfl (L' := [some (.inr (.inl 0)), some (.inl z2.1), some (.inl z3.1), none, none, none, none, none, none, none, none]) rfl ?_
  refine ev_sipush hX dX4_tightest_24 (v := (-1005)) (by decide +kernel) ?_
  refine ev_istore_n hX dX4_tightest_27 rfl (L' := [some (.inr (.inl 0)), some (.inl z2.1), some (.inl z3.1), some (.inl (-1005)), none, none, none, none, none, none, none]) rfl ?_
  refine ev_iconst hX dX4_tightest_28 (v := 0) (by decide +kernel) ?_
  refine ev_istore hX dX4_tightest_29 rfl (L' := [some (.inr (.inl 0)), some (.inl z2.1), some (.inl z3.1), some (.inl (-1005)), some (.inl 0), none, none, none, none, none, none]) rfl ?_
  refine ev_iconst hX dX4_tightest_31 (v := 0) (by decide +kernel) ?_
  refine ev_istore hX dX4_tightest_32 rfl (L' := [some (.inr (.inl 0)), some (.inl z2.1), some (.inl z3.1), some (.inl (-1005)), some (.inl 0), some (.inl 0), none, none, none, none, none]) rfl ?_
  refine ev_iconst hX dX4_tightest_34 (v := 0) (by decide +kernel) ?_
  refine ev_istore hX dX4_tightest_35 rfl (L' := [some (.inr (.inl 0)), some (.inl z2.1), some (.inl z3.1), some (.inl (-1005)), some (.inl 0), some (.inl 0), some (.inl 0), none, none, none, none]) rfl ?_
  refine ev_mask [true, true, true, true, true, true, true, false, false, false, false] (L' := [some (.inr (.inl 0)), some (.inl z2.1), some (.inl z3.1), some (.inl (-1005)), some (.inl 0), some (.inl 0), some (.inl 0), none, none, none, none]) rfl rfl ?_
  exact e_X4_tightest_37 hX hr 4096 z2.1 z3.1 (-1005) 0 0 0 z3.2
def rm_X4_takeOff : Room := { frames := 3, cells := 0, slots := 0, locals := 82 }
set_option maxRecDepth 20000 in
theorem in_X4_takeOff_X4 : ∀ w ∈ u_ws RX4 TX4 7, w ∈ wsX4_takeOff := by decide +kernel
set_option maxHeartbeats 4000000 in
set_option maxRecDepth 100000 in
theorem c_X4_takeOff (l : Launch) (D : va_G) (cI cC : ClassId) (td : Nat → Option Nat) (a1 : Int32) (w : mvW) : ∀ z, f_X4_takeOff a1 w = some z → mv_Ci l D vwCl cI cC tbX td yX4_takeOff wsX4_takeOff rm_X4_takeOff shX w [.inr (.inl 0), .inl a1] z := by
  refine mv_starti (own := RX4) rfl (by decide) rfl rfl (L0 := [some (.inr (.inl 0)), some (.inl a1), none]) rfl (fun p e s m args below meth c A ad0 hX hr => ?_)
  rw [f_X4_takeOff]
  refine ev_iload_n hX dX4_takeOff_0 rfl ?_
  refine ev_callSi hX (As := [.inl a1]) (rm := rm_X4_isSquare) (c_X4_isSquare l D cI cC td a1 w) (cwS 1 hX.ts gX4_takeOff_X4_isSquare rfl rfl rfl (by decide +kernel) ⟨Nat.le_of_ble_eq_true rfl, Nat.le_of_ble_eq_true rfl⟩) rfl rfl rfl ⟨Nat.le_of_ble_eq_true rfl, Nat.le_of_ble_eq_true rfl⟩ dX4_takeOff_1 rfl (fun z1 hz1 => ?_)
  refine ev_if_ne (tgt := 11) hX dX4_takeOff_4 (by decide) ?_ ?_
  · refine ev_aload_n hX dX4_takeOff_11 rfl ?_
    refine ev_getr (k := 0) hX (T := TX4) in_X4_takeOff_X4 rfl rfl rfl (show Cond.fieldLink RX4 12 "FiveShogi" "position" "LFiveShogi$Position;" ∈ _ by decide +kernel) rfl dX4_takeOff_12 ?_
    refine ev_iload_n hX dX4_takeOff_15 rfl ?_
    refine ev_callVi hX (k0 := 1) (As := [.inl a1]) (rm := rm_X2_manOn) (c_X2_manOn l D cI cC td a1 z1.2) (cwV 1 hX.ts gX4_takeOff_X2_manOn rfl rfl rfl (by decide +kernel) ⟨Nat.le_of_ble_eq_true rfl, Nat.le_of_ble_eq_true rfl⟩) rfl rfl rfl rfl rfl rfl ⟨Nat.le_of_ble_eq_true rfl, Nat.le_of_ble_eq_true rfl⟩ dX4_takeOff_16 rfl (fun z2 hz2 => ?_)
    refine ev_istore_n hX dX4_takeOff_19 rfl (L' := [some (.inr (.inl 0)), some (.inl a1), some (.inl z2.1)]) rfl ?_
    refine ev_iload_n hX dX4_takeOff_20 rfl ?_
    refine ev_bipush hX dX4_takeOff_21 (v := 99) (by decide +kernel) ?_
    refine ev_icmp_ne (tgt := 30) hX dX4_takeOff_23 (by decide) ?_ ?_
    · refine ev_aload_n hX dX4_takeOff_30 rfl ?_
      refine ev_callVv hX (k0 := 0) (As := []) (rm := rm_X4_recordChange) (c_X4_recordChange l D cI cC td z2.2) (cwV 0 hX.ts gX4_takeOff_X4_recordChange rfl rfl rfl (by decide +kernel) ⟨Nat.le_of_ble_eq_true rfl, Nat.le_of_ble_eq_true rfl⟩) rfl rfl rfl rfl rfl rfl ⟨Nat.le_of_ble_eq_true rfl, Nat.le_of_ble_eq_true rfl⟩ dX4_takeOff_31 rfl (fun z3 hz3 => ?_)
      refine ev_aload_n hX dX4_takeOff_34 rfl ?_
      refine ev_getr (k := 0) hX (T := TX4) in_X4_takeOff_X4 rfl rfl rfl (show Cond.fieldLink RX4 12 "FiveShogi" "position" "LFiveShogi$Position;" ∈ _ by decide +kernel) rfl dX4_takeOff_35 ?_
      refine ev_iload_n hX dX4_takeOff_38 rfl ?_
      refine ev_bipush hX dX4_takeOff_39 (v := 99) (by decide +kernel) ?_
      refine ev_callVv hX (k0 := 1) (As := [.inl a1, .inl 99]) (rm := rm_X2_place) (c_X2_place l D cI cC td a1 99 z3) (cwV 2 hX.ts gX4_takeOff_X2_place rfl rfl rfl (by decide +kernel) ⟨Nat.le_of_ble_eq_true rfl, Nat.le_of_ble_eq_true rfl⟩) rfl rfl rfl rfl rfl rfl ⟨Nat.le_of_ble_eq_true rfl, Nat.le_of_ble_eq_true rfl⟩ dX4_takeOff_41 rfl (fun z4 hz4 => ?_)
      refine ev_iload_n hX dX4_takeOff_44 rfl ?_
      exact ev_ireti hX hr dX4_takeOff_45
    · refine ev_sipush hX dX4_takeOff_26 (v := (-1005)) (by decide +kernel) ?_
      exact ev_ireti hX hr dX4_takeOff_29
  · refine ev_sipush hX dX4_takeOff_7 (v := (-1001)) (by decide +kernel) ?_
    exact ev_ireti hX hr dX4_takeOff_10
def rm_X4_setSide : Room := { frames := 6, cells := 0, slots := 0, locals := 149 }
set_option maxRecDepth 20000 in
theorem in_X4_setSide_X4 : ∀ w ∈ u_ws RX4 TX4 7, w ∈ wsX4_setSide := by decide +kernel
set_option maxHeartbeats 4000000 in
set_option maxRecDepth 100000 in
theorem c_X4_setSide (l : Launch) (D : va_G) (cI cC : ClassId) (td : Nat → Option Nat) (a1 : Int32) (w : mvW) : ∀ z, f_X4_setSide a1 w = some z → mv_Ci l D vwCl cI cC tbX td yX4_setSide wsX4_setSide rm_X4_setSide shX w [.inr (.inl 0), .inl a1] z := by
  refine mv_starti (own := RX4) rfl (by decide) rfl rfl (L0 := [some (.inr (.inl 0)), some (.inl a1)]) rfl (fun p e s m args below meth c A ad0 hX hr => ?_)
  rw [f_X4_setSide]
  refine ev_iload_n hX dX4_setSide_0 rfl ?_
  refine ev_callSi hX (As := [.inl a1]) (rm := rm_X4_isSide) (c_X4_isSide l D cI cC td a1 w) (cwS 1 hX.ts gX4_setSide_X4_isSide rfl rfl rfl (by decide +kernel) ⟨Nat.le_of_ble_eq_true rfl, Nat.le_of_ble_eq_true rfl⟩) rfl rfl rfl ⟨Nat.le_of_ble_eq_true rfl, Nat.le_of_ble_eq_true rfl⟩ dX4_setSide_1 rfl (fun z1 hz1 => ?_)
  refine ev_if_ne (tgt := 11) hX dX4_setSide_4 (by decide) ?_ ?_
  · refine ev_aload_n hX dX4_setSide_11 rfl ?_
    refine ev_getr (k := 0) hX (T := TX4) in_X4_setSide_X4 rfl rfl rfl (show Cond.fieldLink RX4 12 "FiveShogi" "position" "LFiveShogi$Position;" ∈ _ by decide +kernel) rfl dX4_setSide_12 ?_
    refine ev_callVi hX (k0 := 1) (As := []) (rm := rm_X2_sideToPlay) (c_X2_sideToPlay l D cI cC td z1.2) (cwV 0 hX.ts gX4_setSide_X2_sideToPlay rfl rfl rfl (by decide +kernel) ⟨Nat.le_of_ble_eq_true rfl, Nat.le_of_ble_eq_true rfl⟩) rfl rfl rfl rfl rfl rfl ⟨Nat.le_of_ble_eq_true rfl, Nat.le_of_ble_eq_true rfl⟩ dX4_setSide_15 rfl (fun z2 hz2 => ?_)
    refine ev_iload_n hX dX4_setSide_18 rfl ?_
    refine ev_icmp_ne (tgt := 26) hX dX4_setSide_19 (by decide) ?_ ?_
    · refine ev_aload_n hX dX4_setSide_26 rfl ?_
      refine ev_callVv hX (k0 := 0) (As := []) (rm := rm_X4_recordChange) (c_X4_recordChange l D cI cC td z2.2) (cwV 0 hX.ts gX4_setSide_X4_recordChange rfl rfl rfl (by decide +kernel) ⟨Nat.le_of_ble_eq_true rfl, Nat.le_of_ble_eq_true rfl⟩) rfl rfl rfl rfl rfl rfl ⟨Nat.le_of_ble_eq_true rfl, Nat.le_of_ble_eq_true rfl⟩ dX4_setSide_27 rfl (fun z3 hz3 => ?_)
      refine ev_aload_n hX dX4_setSide_30 rfl ?_
      refine ev_getr (k := 0) hX (T := TX4) in_X4_setSide_X4 rfl rfl rfl (show Cond.fieldLink RX4 12 "FiveShogi" "position" "LFiveShogi$Position;" ∈ _ by decide +kernel) rfl dX4_setSide_31 ?_
      refine ev_iload_n hX dX4_setSide_34 rfl ?_
      refine ev_callVv hX (k0 := 1) (As := [.inl a1]) (rm := rm_X2_setSideToPlay) (c_X2_setSideToPlay l D cI cC td a1 z3) (cwV 1 hX.ts gX4_setSide_X2_setSideToPlay rfl rfl rfl (by decide +kernel) ⟨Nat.le_of_ble_eq_true rfl, Nat.le_of_ble_eq_true rfl⟩) rfl rfl rfl rfl rfl rfl ⟨Nat.le_of_ble_eq_true rfl, Nat.le_of_ble_eq_true rfl⟩ dX4_setSide_35 rfl (fun z4 hz4 => ?_)
      refine ev_aload_n hX dX4_setSide_38 rfl ?_
      refine ev_getr (k := 1) hX (T := TX4) in_X4_setSide_X4 rfl rfl rfl (show Cond.fieldLink RX4 21 "FiveShogi" "rules" "LFiveShogi$Rules;" ∈ _ by decide +kernel) rfl dX4_setSide_39 ?_
      refine ev_callVi hX (k0 := 4) (As := []) (rm := rm_X3_findPlays) (c_X3_findPlays l D cI cC td z4) (cwV 0 hX.ts gX4_setSide_X3_findPlays rfl rfl rfl (by decide +kernel) ⟨Nat.le_of_ble_eq_true rfl, Nat.le_of_ble_eq_true rfl⟩) rfl rfl rfl rfl rfl rfl ⟨Nat.le_of_ble_eq_true rfl, Nat.le_of_ble_eq_true rfl⟩ dX4_setSide_42 rfl (fun z5 hz5 => ?_)
      exact ev_ireti hX hr dX4_setSide_45
    · refine ev_sipush hX dX4_setSide_22 (v := (-1005)) (by decide +kernel) ?_
      exact ev_ireti hX hr dX4_setSide_25
  · refine ev_sipush hX dX4_setSide_7 (v := (-1001)) (by decide +kernel) ?_
    exact ev_ireti hX hr dX4_setSide_10
end
