section
variable {p : Program} {l : Launch} {e : Env} {s : State} {m : MethodId} {args : Array Value} {below : List Frame} {meth : Method} {c : Code} {D : va_G} {cI cC : ClassId} {td : Nat → Option Nat} {A : Nat → Prop} {ad0 : Nat → Nat}
def rm_X5_hasPlay : Room := { frames := 5, cells := 0, slots := 0, locals := 129 }
set_option maxRecDepth 20000 in
theorem in_X5_hasPlay_X5 : ∀ w ∈ u_ws RX5 TX5 8, w ∈ wsX5_hasPlay := by decide +kernel
set_option maxHeartbeats 4000000 in
set_option maxRecDepth 100000 in
theorem e_X5_hasPlay_2 (hX : mv_X p s m args meth c D vwCl cI cC tbX td A cX5_hasPlay 3 RX5 wsX5_hasPlay) (hr : meth.sig.returnType = (some .boolean)) : ∀ (n : Nat) (x1 : Int32) (x2 : Int32) (w : mvW), EV p l e (headSpec wsX5_hasPlay rm_X5_hasPlay).room s m args below meth c D vwCl cI cC td A (fun a => a = ad0) (mv_Qi below args s D vwCl cI cC shM ad0 A) 0 0 shM [some (.inr (.inl 0)), some (.inl x1), some (.inl x2)] [] 2 w (f_X5_hasPlay_2 n x1 x2 w) := by
  intro n
  induction n with
  | zero => intro x1 x2 w; exact ev_none
  | succ n ih =>
    intro x1 x2 w
    rw [f_X5_hasPlay_2]
    refine ev_iload_n hX dX5_hasPlay_2 rfl ?_
    refine ev_sipush hX dX5_hasPlay_3 (v := 1375) (by decide +kernel) ?_
    refine ev_icmp_ge (tgt := 52) hX dX5_hasPlay_6 (by decide) ?_ ?_
    · refine ev_iconst hX dX5_hasPlay_52 (v := 0) (by decide +kernel) ?_
      exact ev_iretz0 hX hr dX5_hasPlay_53
    · refine ev_aload_n hX dX5_hasPlay_9 rfl ?_
      refine ev_iload_n hX dX5_hasPlay_10 rfl ?_
      refine ev_iload_n hX dX5_hasPlay_11 rfl ?_
      refine ev_callVi hX (k0 := 0) (As := [.inl x1, .inl x2]) (rm := rm_X5_whyNot) (c_X5_whyNot l D cI cC td x1 x2 w) (cwV 2 hX.ts gX5_hasPlay_X5_whyNot rfl rfl rfl (by decide +kernel) ⟨Nat.le_of_ble_eq_true rfl, Nat.le_of_ble_eq_true rfl⟩) rfl rfl rfl rfl rfl rfl ⟨Nat.le_of_ble_eq_true rfl, Nat.le_of_ble_eq_true rfl⟩ dX5_hasPlay_12 rfl (fun z1 hz1 => ?_)
      refine ev_if_ne (tgt := 46) hX dX5_hasPlay_15 (by decide) ?_ ?_
      · refine ev_iinc hX dX5_hasPlay_46 rfl (v := 1) (by decide +kernel) (L' := [some (.inr (.inl 0)), some (.inl x1), some (.inl (x2 + 1))]) rfl ?_
        refine ev_goto (tgt := 2) hX dX5_hasPlay_49 (by decide) ?_
        refine ev_mask [true, true, true] (L' := [some (.inr (.inl 0)), some (.inl x1), some (.inl (x2 + 1))]) rfl rfl ?_
        exact ih x1 (x2 + 1) z1.2
      · refine ev_aload_n hX dX5_hasPlay_18 rfl ?_
        refine ev_iload_n hX dX5_hasPlay_19 rfl ?_
        refine ev_iload_n hX dX5_hasPlay_20 rfl ?_
        refine ev_callVv hX (k0 := 0) (As := [.inl x1, .inl x2]) (rm := rm_X5_tries) (c_X5_tries l D cI cC td x1 x2 z1.2) (cwV 2 hX.ts gX5_hasPlay_X5_tries rfl rfl rfl (by decide +kernel) ⟨Nat.le_of_ble_eq_true rfl, Nat.le_of_ble_eq_true rfl⟩) rfl rfl rfl rfl rfl rfl ⟨Nat.le_of_ble_eq_true rfl, Nat.le_of_ble_eq_true rfl⟩ dX5_hasPlay_21 rfl (fun z2 hz2 => ?_)
        refine ev_aload_n hX dX5_hasPlay_24 rfl ?_
        refine ev_iload_n hX dX5_hasPlay_25 rfl ?_
        refine ev_bipush hX dX5_hasPlay_26 (v := 40) (by decide +kernel) ?_
        refine ev_iadd hX dX5_hasPlay_28 ?_
        refine ev_aload_n hX dX5_hasPlay_29 rfl ?_
        refine ev_getr (k := 0) hX (T := TX5) in_X5_hasPlay_X5 rfl rfl rfl (show Cond.fieldLink RX5 7 "FiveShogiModel" "s" "[I" ∈ _ by decide +kernel) rfl dX5_hasPlay_30 ?_
        refine ev_iload_n hX dX5_hasPlay_33 rfl ?_
        refine ev_bipush hX dX5_hasPlay_34 (v := 35) (by decide +kernel) ?_
        refine ev_iadd hX dX5_hasPlay_36 ?_
        refine ev_iald hX rfl dX5_hasPlay_37 (fun j3 => ?_)
        refine ev_callVi hX (k0 := 0) (As := [.inl (x1 + 40), .inl (z2 1 j3)]) (rm := rm_X5_isInCheck) (c_X5_isInCheck l D cI cC td (x1 + 40) (z2 1 j3) z2) (cwV 2 hX.ts gX5_hasPlay_X5_isInCheck rfl rfl rfl (by decide +kernel) ⟨Nat.le_of_ble_eq_true rfl, Nat.le_of_ble_eq_true rfl⟩) rfl rfl rfl rfl rfl rfl ⟨Nat.le_of_ble_eq_true rfl, Nat.le_of_ble_eq_true rfl⟩ dX5_hasPlay_38 rfl (fun z4 hz4 => ?_)
        refine ev_if_ne (tgt := 46) hX dX5_hasPlay_41 (by decide) ?_ ?_
        · refine ev_iinc hX dX5_hasPlay_46 rfl (v := 1) (by decide +kernel) (L' := [some (.inr (.inl 0)), some (.inl x1), some (.inl (x2 + 1))]) rfl ?_
          refine ev_goto (tgt := 2) hX dX5_hasPlay_49 (by decide) ?_
          refine ev_mask [true, true, true] (L' := [some (.inr (.inl 0)), some (.inl x1), some (.inl (x2 + 1))]) rfl rfl ?_
          exact ih x1 (x2 + 1) z4.2
        · refine ev_iconst hX dX5_hasPlay_44 (v := 1) (by decide +kernel) ?_
          exact ev_iretz1 hX hr dX5_hasPlay_45
set_option maxHeartbeats 4000000 in
set_option maxRecDepth 100000 in
theorem c_X5_hasPlay (l : Launch) (D : va_G) (cI cC : ClassId) (td : Nat → Option Nat) (a1 : Int32) (w : mvW) : ∀ z, f_X5_hasPlay a1 w = some z → mv_Ci l D vwCl cI cC tbX td yX5_hasPlay wsX5_hasPlay rm_X5_hasPlay shM w [.inr (.inl 0), .inl a1] z := by
  refine mv_starti (own := RX5) rfl (by decide) rfl rfl (L0 := [some (.inr (.inl 0)), some (.inl a1), none]) rfl (fun p e s m args below meth c A ad0 hX hr => ?_)
  rw [f_X5_hasPlay]
  refine ev_iconst hX dX5_hasPlay_0 (v := 0) (by decide +kernel) ?_
  refine ev_istore_n hX dX5_hasPlay_1 rfl (L' := [some (.inr (.inl 0)), some (.inl a1), some (.inl 0)]) rfl ?_
  refine ev_mask [true, true, true] (L' := [some (.inr (.inl 0)), some (.inl a1), some (.inl 0)]) rfl rfl ?_
  exact e_X5_hasPlay_2 hX hr 4096 a1 0 w
def rm_X5_reason : Room := { frames := 6, cells := 0, slots := 0, locals := 151 }
set_option maxRecDepth 20000 in
theorem in_X5_reason_X5 : ∀ w ∈ u_ws RX5 TX5 8, w ∈ wsX5_reason := by decide +kernel
set_option maxHeartbeats 4000000 in
set_option maxRecDepth 100000 in
theorem e_X5_reason_73 (hX : mv_X p s m args meth c D vwCl cI cC tbX td A cX5_reason 5 RX5 wsX5_reason) (hr : meth.sig.returnType = (some .int)) (x1 : Int32) (s0 : Int32) (w : mvW) : EV p l e (headSpec wsX5_reason rm_X5_reason).room s m args below meth c D vwCl cI cC td A (fun a => a = ad0) (mv_Qi below args s D vwCl cI cC shM ad0 A) 0 0 shM [some (.inr (.inl 0)), some (.inl x1), none, none, none] [.inl s0] 73 w (f_X5_reason_73 x1 s0 w) := by
  rw [f_X5_reason_73]
  refine ev_istore hX dX5_reason_73 rfl (L' := [some (.inr (.inl 0)), some (.inl x1), none, none, some (.inl s0)]) rfl ?_
  refine ev_iload hX dX5_reason_75 rfl ?_
  refine ev_if_eq (tgt := 118) hX dX5_reason_77 (by decide) ?_ ?_
  · refine ev_iconst hX dX5_reason_118 (v := 0) (by decide +kernel) ?_
    exact ev_ireti hX hr dX5_reason_119
  · refine ev_aload_n hX dX5_reason_80 rfl ?_
    refine ev_iload_n hX dX5_reason_81 rfl ?_
    refine ev_bipush hX dX5_reason_82 (v := 40) (by decide +kernel) ?_
    refine ev_iadd hX dX5_reason_84 ?_
    refine ev_iconst hX dX5_reason_85 (v := 1) (by decide +kernel) ?_
    refine ev_aload_n hX dX5_reason_86 rfl ?_
    refine ev_getr (k := 0) hX (T := TX5) in_X5_reason_X5 rfl rfl rfl (show Cond.fieldLink RX5 7 "FiveShogiModel" "s" "[I" ∈ _ by decide +kernel) rfl dX5_reason_87 ?_
    refine ev_iload_n hX dX5_reason_90 rfl ?_
    refine ev_bipush hX dX5_reason_91 (v := 35) (by decide +kernel) ?_
    refine ev_iadd hX dX5_reason_93 ?_
    refine ev_iald hX rfl dX5_reason_94 (fun j6 => ?_)
    refine ev_isub hX dX5_reason_95 ?_
    refine ev_callVi hX (k0 := 0) (As := [.inl (x1 + 40), .inl (1 - (w 1 j6))]) (rm := rm_X5_isInCheck) (c_X5_isInCheck l D cI cC td (x1 + 40) (1 - (w 1 j6)) w) (cwV 2 hX.ts gX5_reason_X5_isInCheck rfl rfl rfl (by decide +kernel) ⟨Nat.le_of_ble_eq_true rfl, Nat.le_of_ble_eq_true rfl⟩) rfl rfl rfl rfl rfl rfl ⟨Nat.le_of_ble_eq_true rfl, Nat.le_of_ble_eq_true rfl⟩ dX5_reason_96 rfl (fun z7 hz7 => ?_)
    refine ev_if_eq (tgt := 118) hX dX5_reason_99 (by decide) ?_ ?_
    · refine ev_iconst hX dX5_reason_118 (v := 0) (by decide +kernel) ?_
      exact ev_ireti hX hr dX5_reason_119
    · refine ev_aload_n hX dX5_reason_102 rfl ?_
      refine ev_iload_n hX dX5_reason_103 rfl ?_
      refine ev_bipush hX dX5_reason_104 (v := 40) (by decide +kernel) ?_
      refine ev_iadd hX dX5_reason_106 ?_
      refine ev_callVi hX (k0 := 0) (As := [.inl (x1 + 40)]) (rm := rm_X5_hasPlay) (c_X5_hasPlay l D cI cC td (x1 + 40) z7.2) (cwV 1 hX.ts gX5_reason_X5_hasPlay rfl rfl rfl (by decide +kernel) ⟨Nat.le_of_ble_eq_true rfl, Nat.le_of_ble_eq_true rfl⟩) rfl rfl rfl rfl rfl rfl ⟨Nat.le_of_ble_eq_true rfl, Nat.le_of_ble_eq_true rfl⟩ dX5_reason_107 rfl (fun z8 hz8 => ?_)
      refine ev_if_ne (tgt := 118) hX dX5_reason_110 (by decide) ?_ ?_
      · refine ev_iconst hX dX5_reason_118 (v := 0) (by decide +kernel) ?_
        exact ev_ireti hX hr dX5_reason_119
      · refine ev_bipush hX dX5_reason_113 (v := 6) (by decide +kernel) ?_
        refine ev_goto (tgt := 119) hX dX5_reason_115 (by decide) ?_
        exact ev_ireti hX hr dX5_reason_119
set_option maxHeartbeats 4000000 in
set_option maxRecDepth 100000 in
theorem c_X5_reason (l : Launch) (D : va_G) (cI cC : ClassId) (td : Nat → Option Nat) (a1 : Int32) (a2 : Int32) (w : mvW) : ∀ z, f_X5_reason a1 a2 w = some z → mv_Ci l D vwCl cI cC tbX td yX5_reason wsX5_reason rm_X5_reason shM w [.inr (.inl 0), .inl a1, .inl a2] z := by
  refine mv_starti (own := RX5) rfl (by decide) rfl rfl (L0 := [some (.inr (.inl 0)), some (.inl a1), some (.inl a2), none, none]) rfl (fun p e s m args below meth c A ad0 hX hr => ?_)
  rw [f_X5_reason]
  refine ev_aload_n hX dX5_reason_0 rfl ?_
  refine ev_iload_n hX dX5_reason_1 rfl ?_
  refine ev_iload_n hX dX5_reason_2 rfl ?_
  refine ev_callVi hX (k0 := 0) (As := [.inl a1, .inl a2]) (rm := rm_X5_whyNot) (c_X5_whyNot l D cI cC td a1 a2 w) (cwV 2 hX.ts gX5_reason_X5_whyNot rfl rfl rfl (by decide +kernel) ⟨Nat.le_of_ble_eq_true rfl, Nat.le_of_ble_eq_true rfl⟩) rfl rfl rfl rfl rfl rfl ⟨Nat.le_of_ble_eq_true rfl, Nat.le_of_ble_eq_true rfl⟩ dX5_reason_3 rfl (fun z1 hz1 => ?_)
  refine ev_istore_n hX dX5_reason_6 rfl (L' := [some (.inr (.inl 0)), some (.inl a1), some (.inl a2), some (.inl z1.1), none]) rfl ?_
  refine ev_iload_n hX dX5_reason_7 rfl ?_
  refine ev_if_le (tgt := 13) hX dX5_reason_8 (by decide) ?_ ?_
  · refine ev_aload_n hX dX5_reason_13 rfl ?_
    refine ev_iload_n hX dX5_reason_14 rfl ?_
    refine ev_iload_n hX dX5_reason_15 rfl ?_
    refine ev_callVv hX (k0 := 0) (As := [.inl a1, .inl a2]) (rm := rm_X5_tries) (c_X5_tries l D cI cC td a1 a2 z1.2) (cwV 2 hX.ts gX5_reason_X5_tries rfl rfl rfl (by decide +kernel) ⟨Nat.le_of_ble_eq_true rfl, Nat.le_of_ble_eq_true rfl⟩) rfl rfl rfl rfl rfl rfl ⟨Nat.le_of_ble_eq_true rfl, Nat.le_of_ble_eq_true rfl⟩ dX5_reason_16 rfl (fun z2 hz2 => ?_)
    refine ev_aload_n hX dX5_reason_19 rfl ?_
    refine ev_iload_n hX dX5_reason_20 rfl ?_
    refine ev_bipush hX dX5_reason_21 (v := 40) (by decide +kernel) ?_
    refine ev_iadd hX dX5_reason_23 ?_
    refine ev_aload_n hX dX5_reason_24 rfl ?_
    refine ev_getr (k := 0) hX (T := TX5) in_X5_reason_X5 rfl rfl rfl (show Cond.fieldLink RX5 7 "FiveShogiModel" "s" "[I" ∈ _ by decide +kernel) rfl dX5_reason_25 ?_
    refine ev_iload_n hX dX5_reason_28 rfl ?_
    refine ev_bipush hX dX5_reason_29 (v := 35) (by decide +kernel) ?_
    refine ev_iadd hX dX5_reason_31 ?_
    refine ev_iald hX rfl dX5_reason_32 (fun j3 => ?_)
    refine ev_callVi hX (k0 := 0) (As := [.inl (a1 + 40), .inl (z2 1 j3)]) (rm := rm_X5_isInCheck) (c_X5_isInCheck l D cI cC td (a1 + 40) (z2 1 j3) z2) (cwV 2 hX.ts gX5_reason_X5_isInCheck rfl rfl rfl (by decide +kernel) ⟨Nat.le_of_ble_eq_true rfl, Nat.le_of_ble_eq_true rfl⟩) rfl rfl rfl rfl rfl rfl ⟨Nat.le_of_ble_eq_true rfl, Nat.le_of_ble_eq_true rfl⟩ dX5_reason_33 rfl (fun z4 hz4 => ?_)
    refine ev_if_eq (tgt := 53) hX dX5_reason_36 (by decide) ?_ ?_
    · refine ev_iload_n hX dX5_reason_53 rfl ?_
      refine ev_sipush hX dX5_reason_54 (v := 1250) (by decide +kernel) ?_
      refine ev_icmp_lt (tgt := 72) hX dX5_reason_57 (by decide) ?_ ?_
      · refine ev_iconst hX dX5_reason_72 (v := 0) (by decide +kernel) ?_
        refine ev_mask [true, true, false, false, false] (L' := [some (.inr (.inl 0)), some (.inl a1), none, none, none]) rfl rfl ?_
        exact e_X5_reason_73 hX hr a1 0 z4.2
      · refine ev_iload_n hX dX5_reason_60 rfl ?_
        refine ev_callSi hX (As := [.inl a2]) (rm := rm_X5_kindOf) (c_X5_kindOf l D cI cC td a2 z4.2) (cwS 1 hX.ts gX5_reason_X5_kindOf rfl rfl rfl (by decide +kernel) ⟨Nat.le_of_ble_eq_true rfl, Nat.le_of_ble_eq_true rfl⟩) rfl rfl rfl ⟨Nat.le_of_ble_eq_true rfl, Nat.le_of_ble_eq_true rfl⟩ dX5_reason_61 rfl (fun z5 hz5 => ?_)
        refine ev_iconst hX dX5_reason_64 (v := 5) (by decide +kernel) ?_
        refine ev_icmp_ne (tgt := 72) hX dX5_reason_65 (by decide) ?_ ?_
        · refine ev_iconst hX dX5_reason_72 (v := 0) (by decide +kernel) ?_
          refine ev_mask [true, true, false, false, false] (L' := [some (.inr (.inl 0)), some (.inl a1), none, none, none]) rfl rfl ?_
          exact e_X5_reason_73 hX hr a1 0 z5.2
        · refine ev_iconst hX dX5_reason_68 (v := 1) (by decide +kernel) ?_
          refine ev_goto (tgt := 73) hX dX5_reason_69 (by decide) ?_
          refine ev_mask [true, true, false, false, false] (L' := [some (.inr (.inl 0)), some (.inl a1), none, none, none]) rfl rfl ?_
          exact e_X5_reason_73 hX hr a1 1 z5.2
    · refine ev_iload_n hX dX5_reason_39 rfl ?_
      refine ev_sipush hX dX5_reason_40 (v := 1250) (by decide +kernel) ?_
      refine ev_icmp_ge (tgt := 51) hX dX5_reason_43 (by decide) ?_ ?_
      · refine ev_iconst hX dX5_reason_51 (v := 5) (by decide +kernel) ?_
        exact ev_ireti hX hr dX5_reason_52
      · refine ev_bipush hX dX5_reason_46 (v := 6) (by decide +kernel) ?_
        refine ev_goto (tgt := 52) hX dX5_reason_48 (by decide) ?_
        exact ev_ireti hX hr dX5_reason_52
  · refine ev_iload_n hX dX5_reason_11 rfl ?_
    exact ev_ireti hX hr dX5_reason_12
def rm_X5_moveReason : Room := { frames := 7, cells := 0, slots := 0, locals := 175 }
set_option maxHeartbeats 4000000 in
set_option maxRecDepth 100000 in
theorem e_X5_moveReason_39 (hX : mv_X p s m args meth c D vwCl cI cC tbX td A cX5_moveReason 5 RX5 wsX5_moveReason) (hr : meth.sig.returnType = (some .int)) (x1 : Int32) (x2 : Int32) (s0 : Int32) (s1 : Int32) (w : mvW) : EV p l e (headSpec wsX5_moveReason rm_X5_moveReason).room s m args below meth c D vwCl cI cC td A (fun a => a = ad0) (mv_Qi below args s D vwCl cI cC shM ad0 A) 0 0 shM [none, some (.inl x1), some (.inl x2), none, none] [.inl s0, .inl s1, .inr (.inl 0)] 39 w (f_X5_moveReason_39 x1 x2 s0 s1 w) := by
  rw [f_X5_moveReason_39]
  refine ev_bipush hX dX5_moveReason_39 (v := 25) (by decide +kernel) ?_
  refine ev_iload_n hX dX5_moveReason_41 rfl ?_
  refine ev_imul hX dX5_moveReason_42 ?_
  refine ev_iadd hX dX5_moveReason_43 ?_
  refine ev_iload_n hX dX5_moveReason_44 rfl ?_
  refine ev_iadd hX dX5_moveReason_45 ?_
  refine ev_callVi hX (k0 := 0) (As := [.inl s1, .inl ((s0 + (25 * x1)) + x2)]) (rm := rm_X5_reason) (c_X5_reason l D cI cC td s1 ((s0 + (25 * x1)) + x2) w) (cwV 2 hX.ts gX5_moveReason_X5_reason rfl rfl rfl (by decide +kernel) ⟨Nat.le_of_ble_eq_true rfl, Nat.le_of_ble_eq_true rfl⟩) rfl rfl rfl rfl rfl rfl ⟨Nat.le_of_ble_eq_true rfl, Nat.le_of_ble_eq_true rfl⟩ dX5_moveReason_46 rfl (fun z3 hz3 => ?_)
  refine ev_goto (tgt := 55) hX dX5_moveReason_49 (by decide) ?_
  exact ev_ireti hX hr dX5_moveReason_55
set_option maxHeartbeats 4000000 in
set_option maxRecDepth 100000 in
theorem e_X5_moveReason_19 (hX : mv_X p s m args meth c D vwCl cI cC tbX td A cX5_moveReason 5 RX5 wsX5_moveReason) (hr : meth.sig.returnType = (some .int)) (x1 : Int32) (x2 : Int32) (x3 : Int32) (s0 : Int32) (w : mvW) : EV p l e (headSpec wsX5_moveReason rm_X5_moveReason).room s m args below meth c D vwCl cI cC td A (fun a => a = ad0) (mv_Qi below args s D vwCl cI cC shM ad0 A) 0 0 shM [some (.inr (.inl 0)), some (.inl x1), some (.inl x2), some (.inl x3), none] [.inl s0] 19 w (f_X5_moveReason_19 x1 x2 x3 s0 w) := by
  rw [f_X5_moveReason_19]
  refine ev_istore hX dX5_moveReason_19 rfl (L' := [some (.inr (.inl 0)), some (.inl x1), some (.inl x2), some (.inl x3), some (.inl s0)]) rfl ?_
  refine ev_iload hX dX5_moveReason_21 rfl ?_
  refine ev_if_eq (tgt := 52) hX dX5_moveReason_23 (by decide) ?_ ?_
  · refine ev_sipush hX dX5_moveReason_52 (v := (-1001)) (by decide +kernel) ?_
    exact ev_ireti hX hr dX5_moveReason_55
  · refine ev_aload_n hX dX5_moveReason_26 rfl ?_
    refine ev_iconst hX dX5_moveReason_27 (v := 0) (by decide +kernel) ?_
    refine ev_iload_n hX dX5_moveReason_28 rfl ?_
    refine ev_if_eq (tgt := 38) hX dX5_moveReason_29 (by decide) ?_ ?_
    · refine ev_iconst hX dX5_moveReason_38 (v := 0) (by decide +kernel) ?_
      refine ev_mask [false, true, true, false, false] (L' := [none, some (.inl x1), some (.inl x2), none, none]) rfl rfl ?_
      exact e_X5_moveReason_39 hX hr x1 x2 0 0 w
    · refine ev_sipush hX dX5_moveReason_32 (v := 625) (by decide +kernel) ?_
      refine ev_goto (tgt := 39) hX dX5_moveReason_35 (by decide) ?_
      refine ev_mask [false, true, true, false, false] (L' := [none, some (.inl x1), some (.inl x2), none, none]) rfl rfl ?_
      exact e_X5_moveReason_39 hX hr x1 x2 625 0 w
set_option maxHeartbeats 4000000 in
set_option maxRecDepth 100000 in
theorem c_X5_moveReason (l : Launch) (D : va_G) (cI cC : ClassId) (td : Nat → Option Nat) (a1 : Int32) (a2 : Int32) (a3 : Int32) (w : mvW) : ∀ z, f_X5_moveReason a1 a2 a3 w = some z → mv_Ci l D vwCl cI cC tbX td yX5_moveReason wsX5_moveReason rm_X5_moveReason shM w [.inr (.inl 0), .inl a1, .inl a2, .inl a3] z := by
  refine mv_starti (own := RX5) rfl (by decide) rfl rfl (L0 := [some (.inr (.inl 0)), some (.inl a1), some (.inl a2), some (.inl a3), none]) rfl (fun p e s m args below meth c A ad0 hX hr => ?_)
  rw [f_X5_moveReason]
  refine ev_iload_n hX dX5_moveReason_0 rfl ?_
  refine ev_callSi hX (As := [.inl a1]) (rm := rm_X5_isSquare) (c_X5_isSquare l D cI cC td a1 w) (cwS 1 hX.ts gX5_moveReason_X5_isSquare rfl rfl rfl (by decide +kernel) ⟨Nat.le_of_ble_eq_true rfl, Nat.le_of_ble_eq_true rfl⟩) rfl rfl rfl ⟨Nat.le_of_ble_eq_true rfl, Nat.le_of_ble_eq_true rfl⟩ dX5_moveReason_1 rfl (fun z1 hz1 => ?_)
  refine ev_if_eq (tgt := 18) hX dX5_moveReason_4 (by decide) ?_ ?_
  · refine ev_iconst hX dX5_moveReason_18 (v := 0) (by decide +kernel) ?_
    refine ev_mask [true, true, true, true, false] (L' := [some (.inr (.inl 0)), some (.inl a1), some (.inl a2), some (.inl a3), none]) rfl rfl ?_
    exact e_X5_moveReason_19 hX hr a1 a2 a3 0 z1.2
  · refine ev_iload_n hX dX5_moveReason_7 rfl ?_
    refine ev_callSi hX (As := [.inl a2]) (rm := rm_X5_isSquare) (c_X5_isSquare l D cI cC td a2 z1.2) (cwS 1 hX.ts gX5_moveReason_X5_isSquare rfl rfl rfl (by decide +kernel) ⟨Nat.le_of_ble_eq_true rfl, Nat.le_of_ble_eq_true rfl⟩) rfl rfl rfl ⟨Nat.le_of_ble_eq_true rfl, Nat.le_of_ble_eq_true rfl⟩ dX5_moveReason_8 rfl (fun z2 hz2 => ?_)
    refine ev_if_eq (tgt := 18) hX dX5_moveReason_11 (by decide) ?_ ?_
    · refine ev_iconst hX dX5_moveReason_18 (v := 0) (by decide +kernel) ?_
      refine ev_mask [true, true, true, true, false] (L' := [some (.inr (.inl 0)), some (.inl a1), some (.inl a2), some (.inl a3), none]) rfl rfl ?_
      exact e_X5_moveReason_19 hX hr a1 a2 a3 0 z2.2
    · refine ev_iconst hX dX5_moveReason_14 (v := 1) (by decide +kernel) ?_
      refine ev_goto (tgt := 19) hX dX5_moveReason_15 (by decide) ?_
      refine ev_mask [true, true, true, true, false] (L' := [some (.inr (.inl 0)), some (.inl a1), some (.inl a2), some (.inl a3), none]) rfl rfl ?_
      exact e_X5_moveReason_19 hX hr a1 a2 a3 1 z2.2
def rm_X5_remembers : Room := { frames := 0, cells := 0, slots := 0, locals := 0 }
set_option maxRecDepth 20000 in
theorem in_X5_remembers_X5 : ∀ w ∈ u_ws RX5 TX5 8, w ∈ wsX5_remembers := by decide +kernel
set_option maxHeartbeats 4000000 in
set_option maxRecDepth 100000 in
theorem e_X5_remembers_49 (hX : mv_X p s m args meth c D vwCl cI cC tbX td A cX5_remembers 2 RX5 wsX5_remembers) (hr : meth.sig.returnType = none) : ∀ (n : Nat) (x1 : Int32) (w : mvW), EV p l e (headSpec wsX5_remembers rm_X5_remembers).room s m args below meth c D vwCl cI cC td A (fun a => a = ad0) (mv_Qv below args s D vwCl cI cC shM ad0 A) 0 0 shM [some (.inr (.inl 0)), some (.inl x1)] [] 49 w (f_X5_remembers_49 n x1 w) := by
  intro n
  induction n with
  | zero => intro x1 w; exact ev_none
  | succ n ih =>
    intro x1 w
    rw [f_X5_remembers_49]
    refine ev_iload_n hX dX5_remembers_49 rfl ?_
    refine ev_bipush hX dX5_remembers_50 (v := 40) (by decide +kernel) ?_
    refine ev_icmp_ge (tgt := 81) hX dX5_remembers_52 (by decide) ?_ ?_
    · refine ev_aload_n hX dX5_remembers_81 rfl ?_
      refine ev_dup hX dX5_remembers_82 ?_
      refine ev_get (k := 3) hX (T := TX5) in_X5_remembers_X5 rfl rfl rfl (show Cond.fieldLink RX5 29 "FiveShogiModel" "known" "I" ∈ _ by decide +kernel) rfl dX5_remembers_83 ?_
      refine ev_iconst hX dX5_remembers_86 (v := 1) (by decide +kernel) ?_
      refine ev_iadd hX dX5_remembers_87 ?_
      refine ev_put (k := 3) hX (T := TX5) (ty := .int) in_X5_remembers_X5 tyX5 tyX5_ok nmX5 rfl rfl rfl (show Cond.fieldLink RX5 29 "FiveShogiModel" "known" "I" ∈ _ by decide +kernel) rfl (by decide +kernel) rfl rfl rfl dX5_remembers_88 ?_
      exact ev_vret hX hr dX5_remembers_91
    · refine ev_aload_n hX dX5_remembers_55 rfl ?_
      refine ev_getr (k := 2) hX (T := TX5) in_X5_remembers_X5 rfl rfl rfl (show Cond.fieldLink RX5 16 "FiveShogiModel" "before" "[I" ∈ _ by decide +kernel) rfl dX5_remembers_56 ?_
      refine ev_bipush hX dX5_remembers_59 (v := 40) (by decide +kernel) ?_
      refine ev_aload_n hX dX5_remembers_61 rfl ?_
      refine ev_get (k := 3) hX (T := TX5) in_X5_remembers_X5 rfl rfl rfl (show Cond.fieldLink RX5 29 "FiveShogiModel" "known" "I" ∈ _ by decide +kernel) rfl dX5_remembers_62 ?_
      refine ev_imul hX dX5_remembers_65 ?_
      refine ev_iload_n hX dX5_remembers_66 rfl ?_
      refine ev_iadd hX dX5_remembers_67 ?_
      refine ev_aload_n hX dX5_remembers_68 rfl ?_
      refine ev_getr (k := 0) hX (T := TX5) in_X5_remembers_X5 rfl rfl rfl (show Cond.fieldLink RX5 7 "FiveShogiModel" "s" "[I" ∈ _ by decide +kernel) rfl dX5_remembers_69 ?_
      refine ev_iload_n hX dX5_remembers_72 rfl ?_
      refine ev_iald hX rfl dX5_remembers_73 (fun j1 => ?_)
      refine ev_iast hX rfl dX5_remembers_74 (fun j2 => ?_)
      refine ev_iinc hX dX5_remembers_75 rfl (v := 1) (by decide +kernel) (L' := [some (.inr (.inl 0)), some (.inl (x1 + 1))]) rfl ?_
      refine ev_goto (tgt := 49) hX dX5_remembers_78 (by decide) ?_
      refine ev_mask [true, true] (L' := [some (.inr (.inl 0)), some (.inl (x1 + 1))]) rfl rfl ?_
      exact ih (x1 + 1) (mv_up w 3 j2 (w 1 j1))
set_option maxHeartbeats 4000000 in
set_option maxRecDepth 100000 in
theorem e_X5_remembers_10 (hX : mv_X p s m args meth c D vwCl cI cC tbX td A cX5_remembers 2 RX5 wsX5_remembers) (hr : meth.sig.returnType = none) (k49 : Int32 → mvW → Option (mvW)) (hk49 : ∀ (x1 : Int32) (w : mvW), EV p l e (headSpec wsX5_remembers rm_X5_remembers).room s m args below meth c D vwCl cI cC td A (fun a => a = ad0) (mv_Qv below args s D vwCl cI cC shM ad0 A) 0 0 shM [some (.inr (.inl 0)), some (.inl x1)] [] 49 w (k49 x1 w)) : ∀ (n : Nat) (x1 : Int32) (w : mvW), EV p l e (headSpec wsX5_remembers rm_X5_remembers).room s m args below meth c D vwCl cI cC td A (fun a => a = ad0) (mv_Qv below args s D vwCl cI cC shM ad0 A) 0 0 shM [some (.inr (.inl 0)), some (.inl x1)] [] 10 w (f_X5_remembers_10 k49 n x1 w) := by
  intro n
  induction n with
  | zero => intro x1 w; exact ev_none
  | succ n ih =>
    intro x1 w
    rw [f_X5_remembers_10]
    refine ev_iload_n hX dX5_remembers_10 rfl ?_
    refine ev_bipush hX dX5_remembers_11 (v := 120) (by decide +kernel) ?_
    refine ev_icmp_ge (tgt := 37) hX dX5_remembers_13 (by decide) ?_ ?_
    · refine ev_aload_n hX dX5_remembers_37 rfl ?_
      refine ev_dup hX dX5_remembers_38 ?_
      refine ev_get (k := 3) hX (T := TX5) in_X5_remembers_X5 rfl rfl rfl (show Cond.fieldLink RX5 29 "FiveShogiModel" "known" "I" ∈ _ by decide +kernel) rfl dX5_remembers_39 ?_
      refine ev_iconst hX dX5_remembers_42 (v := 1) (by decide +kernel) ?_
      refine ev_isub hX dX5_remembers_43 ?_
      refine ev_put (k := 3) hX (T := TX5) (ty := .int) in_X5_remembers_X5 tyX5 tyX5_ok nmX5 rfl rfl rfl (show Cond.fieldLink RX5 29 "FiveShogiModel" "known" "I" ∈ _ by decide +kernel) rfl (by decide +kernel) rfl rfl rfl dX5_remembers_44 ?_
      refine ev_iconst hX dX5_remembers_47 (v := 0) (by decide +kernel) ?_
      refine ev_istore_n hX dX5_remembers_48 rfl (L' := [some (.inr (.inl 0)), some (.inl 0)]) rfl ?_
      refine ev_mask [true, true] (L' := [some (.inr (.inl 0)), some (.inl 0)]) rfl rfl ?_
      exact hk49 0 (mv_up w 0 3 ((w 0 3) - 1))
    · refine ev_aload_n hX dX5_remembers_16 rfl ?_
      refine ev_getr (k := 2) hX (T := TX5) in_X5_remembers_X5 rfl rfl rfl (show Cond.fieldLink RX5 16 "FiveShogiModel" "before" "[I" ∈ _ by decide +kernel) rfl dX5_remembers_17 ?_
      refine ev_iload_n hX dX5_remembers_20 rfl ?_
      refine ev_aload_n hX dX5_remembers_21 rfl ?_
      refine ev_getr (k := 2) hX (T := TX5) in_X5_remembers_X5 rfl rfl rfl (show Cond.fieldLink RX5 16 "FiveShogiModel" "before" "[I" ∈ _ by decide +kernel) rfl dX5_remembers_22 ?_
      refine ev_bipush hX dX5_remembers_25 (v := 40) (by decide +kernel) ?_
      refine ev_iload_n hX dX5_remembers_27 rfl ?_
      refine ev_iadd hX dX5_remembers_28 ?_
      refine ev_iald hX rfl dX5_remembers_29 (fun j3 => ?_)
      refine ev_iast hX rfl dX5_remembers_30 (fun j4 => ?_)
      refine ev_iinc hX dX5_remembers_31 rfl (v := 1) (by decide +kernel) (L' := [some (.inr (.inl 0)), some (.inl (x1 + 1))]) rfl ?_
      refine ev_goto (tgt := 10) hX dX5_remembers_34 (by decide) ?_
      refine ev_mask [true, true] (L' := [some (.inr (.inl 0)), some (.inl (x1 + 1))]) rfl rfl ?_
      exact ih (x1 + 1) (mv_up w 3 j4 (w 3 j3))
set_option maxHeartbeats 4000000 in
set_option maxRecDepth 100000 in
theorem c_X5_remembers (l : Launch) (D : va_G) (cI cC : ClassId) (td : Nat → Option Nat) (w : mvW) : ∀ z, f_X5_remembers w = some z → mv_Cv l D vwCl cI cC tbX td yX5_remembers wsX5_remembers rm_X5_remembers shM w [.inr (.inl 0)] z := by
  refine mv_startv (own := RX5) rfl (by decide) rfl rfl (L0 := [some (.inr (.inl 0)), none]) rfl (fun p e s m args below meth c A ad0 hX hr => ?_)
  rw [f_X5_remembers]
  refine ev_aload_n hX dX5_remembers_0 rfl ?_
  refine ev_get (k := 3) hX (T := TX5) in_X5_remembers_X5 rfl rfl rfl (show Cond.fieldLink RX5 29 "FiveShogiModel" "known" "I" ∈ _ by decide +kernel) rfl dX5_remembers_1 ?_
  refine ev_iconst hX dX5_remembers_4 (v := 4) (by decide +kernel) ?_
  refine ev_icmp_ne (tgt := 47) hX dX5_remembers_5 (by decide) ?_ ?_
  · refine ev_iconst hX dX5_remembers_47 (v := 0) (by decide +kernel) ?_
    refine ev_istore_n hX dX5_remembers_48 rfl (L' := [some (.inr (.inl 0)), some (.inl 0)]) rfl ?_
    refine ev_mask [true, true] (L' := [some (.inr (.inl 0)), some (.inl 0)]) rfl rfl ?_
    exact e_X5_remembers_49 hX hr 4096 0 w
  · refine ev_iconst hX dX5_remembers_8 (v := 0) (by decide +kernel) ?_
    refine ev_istore_n hX dX5_remembers_9 rfl (L' := [some (.inr (.inl 0)), some (.inl 0)]) rfl ?_
    refine ev_mask [true, true] (L' := [some (.inr (.inl 0)), some (.inl 0)]) rfl rfl ?_
    exact e_X5_remembers_10 hX hr (fun x1' w' => f_X5_remembers_49 4096 x1' w') (fun x1' w' => e_X5_remembers_49 hX hr 4096 x1' w') 4096 0 w
def rm_X5_move : Room := { frames := 8, cells := 0, slots := 0, locals := 199 }
set_option maxHeartbeats 4000000 in
set_option maxRecDepth 100000 in
theorem e_X5_move_49 (hX : mv_X p s m args meth c D vwCl cI cC tbX td A cX5_move 6 RX5 wsX5_move) (hr : meth.sig.returnType = (some .int)) (x1 : Int32) (x2 : Int32) (s0 : Int32) (s1 : Int32) (w : mvW) : EV p l e (headSpec wsX5_move rm_X5_move).room s m args below meth c D vwCl cI cC td A (fun a => a = ad0) (mv_Qi below args s D vwCl cI cC shM ad0 A) 0 0 shM [none, some (.inl x1), some (.inl x2), none, none, none] [.inl s0, .inl s1, .inr (.inl 0)] 49 w (f_X5_move_49 x1 x2 s0 s1 w) := by
  rw [f_X5_move_49]
  refine ev_bipush hX dX5_move_49 (v := 25) (by decide +kernel) ?_
  refine ev_iload_n hX dX5_move_51 rfl ?_
  refine ev_imul hX dX5_move_52 ?_
  refine ev_iadd hX dX5_move_53 ?_
  refine ev_iload_n hX dX5_move_54 rfl ?_
  refine ev_iadd hX dX5_move_55 ?_
  refine ev_callVi hX (k0 := 0) (As := [.inl s1, .inl ((s0 + (25 * x1)) + x2)]) (rm := rm_X5_makes) (c_X5_makes l D cI cC td s1 ((s0 + (25 * x1)) + x2) w) (cwV 2 hX.ts gX5_move_X5_makes rfl rfl rfl (by decide +kernel) ⟨Nat.le_of_ble_eq_true rfl, Nat.le_of_ble_eq_true rfl⟩) rfl rfl rfl rfl rfl rfl ⟨Nat.le_of_ble_eq_true rfl, Nat.le_of_ble_eq_true rfl⟩ dX5_move_56 rfl (fun z3 hz3 => ?_)
  refine ev_istore hX dX5_move_59 rfl (L' := [none, some (.inl x1), some (.inl x2), none, none, some (.inl z3.1)]) rfl ?_
  refine ev_iload hX dX5_move_61 rfl ?_
  refine ev_if_ge (tgt := 71) hX dX5_move_63 (by decide) ?_ ?_
  · refine ev_iload hX dX5_move_71 rfl ?_
    exact ev_ireti hX hr dX5_move_73
  · refine ev_bipush hX dX5_move_66 (v := 99) (by decide +kernel) ?_
    refine ev_goto (tgt := 73) hX dX5_move_68 (by decide) ?_
    exact ev_ireti hX hr dX5_move_73
set_option maxHeartbeats 4000000 in
set_option maxRecDepth 100000 in
theorem c_X5_move (l : Launch) (D : va_G) (cI cC : ClassId) (td : Nat → Option Nat) (a1 : Int32) (a2 : Int32) (a3 : Int32) (w : mvW) : ∀ z, f_X5_move a1 a2 a3 w = some z → mv_Ci l D vwCl cI cC tbX td yX5_move wsX5_move rm_X5_move shM w [.inr (.inl 0), .inl a1, .inl a2, .inl a3] z := by
  refine mv_starti (own := RX5) rfl (by decide) rfl rfl (L0 := [some (.inr (.inl 0)), some (.inl a1), some (.inl a2), some (.inl a3), none, none]) rfl (fun p e s m args below meth c A ad0 hX hr => ?_)
  rw [f_X5_move]
  refine ev_aload_n hX dX5_move_0 rfl ?_
  refine ev_iload_n hX dX5_move_1 rfl ?_
  refine ev_iload_n hX dX5_move_2 rfl ?_
  refine ev_iload_n hX dX5_move_3 rfl ?_
  refine ev_callVi hX (k0 := 0) (As := [.inl a1, .inl a2, .inl a3]) (rm := rm_X5_moveReason) (c_X5_moveReason l D cI cC td a1 a2 a3 w) (cwV 3 hX.ts gX5_move_X5_moveReason rfl rfl rfl (by decide +kernel) ⟨Nat.le_of_ble_eq_true rfl, Nat.le_of_ble_eq_true rfl⟩) rfl rfl rfl rfl rfl rfl ⟨Nat.le_of_ble_eq_true rfl, Nat.le_of_ble_eq_true rfl⟩ dX5_move_4 rfl (fun z1 hz1 => ?_)
  refine ev_istore hX dX5_move_7 rfl (L' := [some (.inr (.inl 0)), some (.inl a1), some (.inl a2), some (.inl a3), some (.inl z1.1), none]) rfl ?_
  refine ev_iload hX dX5_move_9 rfl ?_
  refine ev_if_eq (tgt := 32) hX dX5_move_11 (by decide) ?_ ?_
  · refine ev_aload_n hX dX5_move_32 rfl ?_
    refine ev_callVv hX (k0 := 0) (As := []) (rm := rm_X5_remembers) (c_X5_remembers l D cI cC td z1.2) (cwV 0 hX.ts gX5_move_X5_remembers rfl rfl rfl (by decide +kernel) ⟨Nat.le_of_ble_eq_true rfl, Nat.le_of_ble_eq_true rfl⟩) rfl rfl rfl rfl rfl rfl ⟨Nat.le_of_ble_eq_true rfl, Nat.le_of_ble_eq_true rfl⟩ dX5_move_33 rfl (fun z2 hz2 => ?_)
    refine ev_aload_n hX dX5_move_36 rfl ?_
    refine ev_iconst hX dX5_move_37 (v := 0) (by decide +kernel) ?_
    refine ev_iload_n hX dX5_move_38 rfl ?_
    refine ev_if_eq (tgt := 48) hX dX5_move_39 (by decide) ?_ ?_
    · refine ev_iconst hX dX5_move_48 (v := 0) (by decide +kernel) ?_
      refine ev_mask [false, true, true, false, false, false] (L' := [none, some (.inl a1), some (.inl a2), none, none, none]) rfl rfl ?_
      exact e_X5_move_49 hX hr a1 a2 0 0 z2
    · refine ev_sipush hX dX5_move_42 (v := 625) (by decide +kernel) ?_
      refine ev_goto (tgt := 49) hX dX5_move_45 (by decide) ?_
      refine ev_mask [false, true, true, false, false, false] (L' := [none, some (.inl a1), some (.inl a2), none, none, none]) rfl rfl ?_
      exact e_X5_move_49 hX hr a1 a2 625 0 z2
  · refine ev_iload hX dX5_move_14 rfl ?_
    refine ev_sipush hX dX5_move_16 (v := (-1001)) (by decide +kernel) ?_
    refine ev_icmp_ne (tgt := 28) hX dX5_move_19 (by decide) ?_ ?_
    · refine ev_sipush hX dX5_move_28 (v := (-1004)) (by decide +kernel) ?_
      exact ev_ireti hX hr dX5_move_31
    · refine ev_sipush hX dX5_move_22 (v := (-1001)) (by decide +kernel) ?_
      refine ev_goto (tgt := 31) hX dX5_move_25 (by decide) ?_
      exact ev_ireti hX hr dX5_move_31
def rm_X3_pawnColumns : Room := { frames := 1, cells := 0, slots := 0, locals := 21 }
set_option maxRecDepth 20000 in
theorem in_X3_pawnColumns_X3 : ∀ w ∈ u_ws RX3 TX3 6, w ∈ wsX3_pawnColumns := by decide +kernel
set_option maxHeartbeats 4000000 in
set_option maxRecDepth 100000 in
theorem e_X3_pawnColumns_4 (hX : mv_X p s m args meth c D vwCl cI cC tbX td A cX3_pawnColumns 4 RX3 wsX3_pawnColumns) (hr : meth.sig.returnType = (some .int)) : ∀ (n : Nat) (x1 : Int32) (x2 : Int32) (x3 : Int32) (w : mvW), EV p l e (headSpec wsX3_pawnColumns rm_X3_pawnColumns).room s m args below meth c D vwCl cI cC td A (fun a => a = ad0) (mv_Qi below args s D vwCl cI cC shX ad0 A) 0 0 shX [some (.inr (.inl 4)), some (.inl x1), some (.inl x2), some (.inl x3)] [] 4 w (f_X3_pawnColumns_4 n x1 x2 x3 w) := by
  intro n
  induction n with
  | zero => intro x1 x2 x3 w; exact ev_none
  | succ n ih =>
    intro x1 x2 x3 w
    rw [f_X3_pawnColumns_4]
    refine ev_iload_n hX dX3_pawnColumns_4 rfl ?_
    refine ev_bipush hX dX3_pawnColumns_5 (v := 25) (by decide +kernel) ?_
    refine ev_icmp_ge (tgt := 41) hX dX3_pawnColumns_7 (by decide) ?_ ?_
    · refine ev_iload_n hX dX3_pawnColumns_41 rfl ?_
      exact ev_ireti hX hr dX3_pawnColumns_42
    · refine ev_aload_n hX dX3_pawnColumns_10 rfl ?_
      refine ev_getr (k := 0) hX (T := TX3) in_X3_pawnColumns_X3 rfl rfl rfl (show Cond.fieldLink RX3 28 "FiveShogi$Rules" "position" "LFiveShogi$Position;" ∈ _ by decide +kernel) rfl dX3_pawnColumns_11 ?_
      refine ev_iload_n hX dX3_pawnColumns_14 rfl ?_
      refine ev_callVi hX (k0 := 1) (As := [.inl x3]) (rm := rm_X2_manOn) (c_X2_manOn l D cI cC td x3 w) (cwV 1 hX.ts gX3_pawnColumns_X2_manOn rfl rfl rfl (by decide +kernel) ⟨Nat.le_of_ble_eq_true rfl, Nat.le_of_ble_eq_true rfl⟩) rfl rfl rfl rfl rfl rfl ⟨Nat.le_of_ble_eq_true rfl, Nat.le_of_ble_eq_true rfl⟩ dX3_pawnColumns_15 rfl (fun z1 hz1 => ?_)
      refine ev_iload_n hX dX3_pawnColumns_18 rfl ?_
      refine ev_iconst hX dX3_pawnColumns_19 (v := 5) (by decide +kernel) ?_
      refine ev_callNi hX (As := [.inl x1, .inl 5]) (rm := rm_X4_manOf) (c_X4_manOf l D cI cC td x1 5 z1.2) ⟨va_cnB (host := "FiveShogi") 2 hX.ts gX3_pawnColumns_X4_manOf_n135 rfl rfl rfl (hX.sta.2.1 (_, 135, _, _) (List.mem_of_getElem? (i := 15) rfl)) (hX.ts _ (show Cond.initialized RX4 ∈ _ by decide +kernel)) (by decide +kernel) ⟨Nat.le_of_ble_eq_true rfl, Nat.le_of_ble_eq_true rfl⟩, hX.ts _ (show Cond.static yX4_manOf ∈ _ by decide +kernel), trivial⟩ rfl rfl rfl ⟨Nat.le_of_ble_eq_true rfl, Nat.le_of_ble_eq_true rfl⟩ dX3_pawnColumns_20 rfl (fun z2 hz2 => ?_)
      refine ev_icmp_ne (tgt := 35) hX dX3_pawnColumns_23 (by decide) ?_ ?_
      · refine ev_iinc hX dX3_pawnColumns_35 rfl (v := 1) (by decide +kernel) (L' := [some (.inr (.inl 4)), some (.inl x1), some (.inl x2), some (.inl (x3 + 1))]) rfl ?_
        refine ev_goto (tgt := 4) hX dX3_pawnColumns_38 (by decide) ?_
        refine ev_mask [true, true, true, true] (L' := [some (.inr (.inl 4)), some (.inl x1), some (.inl x2), some (.inl (x3 + 1))]) rfl rfl ?_
        exact ih x1 x2 (x3 + 1) z2.2
      · refine ev_iload_n hX dX3_pawnColumns_26 rfl ?_
        refine ev_ldc hX (v := 1082401) dX3_pawnColumns_27 (by decide +kernel) ?_
        refine ev_iload_n hX dX3_pawnColumns_29 rfl ?_
        refine ev_iconst hX dX3_pawnColumns_30 (v := 5) (by decide +kernel) ?_
        refine ev_irem hX dX3_pawnColumns_31 (by decide) ?_
        refine ev_ishl hX dX3_pawnColumns_32 ?_
        refine ev_ior hX dX3_pawnColumns_33 ?_
        refine ev_istore_n hX dX3_pawnColumns_34 rfl (L' := [some (.inr (.inl 4)), some (.inl x1), some (.inl (x2 ||| (1082401 <<< ((x3 - x3 / 5 * 5) &&& 31)))), some (.inl x3)]) rfl ?_
        refine ev_iinc hX dX3_pawnColumns_35 rfl (v := 1) (by decide +kernel) (L' := [some (.inr (.inl 4)), some (.inl x1), some (.inl (x2 ||| (1082401 <<< ((x3 - x3 / 5 * 5) &&& 31)))), some (.inl (x3 + 1))]) rfl ?_
        refine ev_goto (tgt := 4) hX dX3_pawnColumns_38 (by decide) ?_
        refine ev_mask [true, true, true, true] (L' := [some (.inr (.inl 4)), some (.inl x1), some (.inl (x2 ||| (1082401 <<< ((x3 - x3 / 5 * 5) &&& 31)))), some (.inl (x3 + 1))]) rfl rfl ?_
        exact ih x1 (x2 ||| (1082401 <<< ((x3 - x3 / 5 * 5) &&& 31))) (x3 + 1) z2.2
set_option maxHeartbeats 4000000 in
set_option maxRecDepth 100000 in
theorem c_X3_pawnColumns (l : Launch) (D : va_G) (cI cC : ClassId) (td : Nat → Option Nat) (a1 : Int32) (w : mvW) : ∀ z, f_X3_pawnColumns a1 w = some z → mv_Ci l D vwCl cI cC tbX td yX3_pawnColumns wsX3_pawnColumns rm_X3_pawnColumns shX w [.inr (.inl 4), .inl a1] z := by
  refine mv_starti (own := RX3) rfl (by decide) rfl rfl (L0 := [some (.inr (.inl 4)), some (.inl a1), none, none]) rfl (fun p e s m args below meth c A ad0 hX hr => ?_)
  rw [f_X3_pawnColumns]
  refine ev_iconst hX dX3_pawnColumns_0 (v := 0) (by decide +kernel) ?_
  refine ev_istore_n hX dX3_pawnColumns_1 rfl (L' := [some (.inr (.inl 4)), some (.inl a1), some (.inl 0), none]) rfl ?_
  refine ev_iconst hX dX3_pawnColumns_2 (v := 0) (by decide +kernel) ?_
  refine ev_istore_n hX dX3_pawnColumns_3 rfl (L' := [some (.inr (.inl 4)), some (.inl a1), some (.inl 0), some (.inl 0)]) rfl ?_
  refine ev_mask [true, true, true, true] (L' := [some (.inr (.inl 4)), some (.inl a1), some (.inl 0), some (.inl 0)]) rfl rfl ?_
  exact e_X3_pawnColumns_4 hX hr 4096 a1 0 0 w
def rm_X3_safeDrops : Room := { frames := 2, cells := 0, slots := 0, locals := 43 }
set_option maxRecDepth 20000 in
theorem in_X3_safeDrops_X3 : ∀ w ∈ u_ws RX3 TX3 6, w ∈ wsX3_safeDrops := by decide +kernel
set_option maxHeartbeats 4000000 in
set_option maxRecDepth 100000 in
theorem e_X3_safeDrops_99 (hX : mv_X p s m args meth c D vwCl cI cC tbX td A cX3_safeDrops 6 RX3 wsX3_safeDrops) (hr : meth.sig.returnType = (some .int)) (k43 : Int32 → Int32 → Int32 → Int32 → Int32 → mvW → Option (Int32 × mvW)) (hk43 : ∀ (x1 : Int32) (x2 : Int32) (x3 : Int32) (x4 : Int32) (x5 : Int32) (w : mvW), EV p l e (headSpec wsX3_safeDrops rm_X3_safeDrops).room s m args below meth c D vwCl cI cC td A (fun a => a = ad0) (mv_Qi below args s D vwCl cI cC shX ad0 A) 0 0 shX [some (.inr (.inl 4)), some (.inl x1), some (.inl x2), some (.inl x3), some (.inl x4), some (.inl x5)] [] 43 w (k43 x1 x2 x3 x4 x5 w)) (x1 : Int32) (x2 : Int32) (x3 : Int32) (x4 : Int32) (x5 : Int32) (w : mvW) : EV p l e (headSpec wsX3_safeDrops rm_X3_safeDrops).room s m args below meth c D vwCl cI cC td A (fun a => a = ad0) (mv_Qi below args s D vwCl cI cC shX ad0 A) 0 0 shX [some (.inr (.inl 4)), some (.inl x1), some (.inl x2), some (.inl x3), some (.inl x4), some (.inl x5)] [] 99 w (f_X3_safeDrops_99 k43 x1 x2 x3 x4 x5 w) := by
  rw [f_X3_safeDrops_99]
  refine ev_iload hX dX3_safeDrops_99 rfl ?_
  refine ev_iload hX dX3_safeDrops_101 rfl ?_
  refine ev_callNi hX (As := [.inl x5]) (rm := rm_X4_bit) (c_X4_bit l D cI cC td x5 w) ⟨va_cnB (host := "FiveShogi") 1 hX.ts gX3_safeDrops_X4_bit_n104 rfl rfl rfl (hX.sta.2.1 (_, 104, _, _) (List.mem_of_getElem? (i := 12) rfl)) (hX.ts _ (show Cond.initialized RX4 ∈ _ by decide +kernel)) (by decide +kernel) ⟨Nat.le_of_ble_eq_true rfl, Nat.le_of_ble_eq_true rfl⟩, hX.ts _ (show Cond.static yX4_bit ∈ _ by decide +kernel), trivial⟩ rfl rfl rfl ⟨Nat.le_of_ble_eq_true rfl, Nat.le_of_ble_eq_true rfl⟩ dX3_safeDrops_103 rfl (fun z9 hz9 => ?_)
  refine ev_ior hX dX3_safeDrops_106 ?_
  refine ev_istore hX dX3_safeDrops_107 rfl (L' := [some (.inr (.inl 4)), some (.inl x1), some (.inl x2), some (.inl x3), some (.inl (x4 ||| z9.1)), some (.inl x5)]) rfl ?_
  refine ev_aload_n hX dX3_safeDrops_109 rfl ?_
  refine ev_getr (k := 0) hX (T := TX3) in_X3_safeDrops_X3 rfl rfl rfl (show Cond.fieldLink RX3 28 "FiveShogi$Rules" "position" "LFiveShogi$Position;" ∈ _ by decide +kernel) rfl dX3_safeDrops_110 ?_
  refine ev_iload hX dX3_safeDrops_113 rfl ?_
  refine ev_bipush hX dX3_safeDrops_115 (v := 99) (by decide +kernel) ?_
  refine ev_callVv hX (k0 := 1) (As := [.inl x5, .inl 99]) (rm := rm_X2_place) (c_X2_place l D cI cC td x5 99 z9.2) (cwV 2 hX.ts gX3_safeDrops_X2_place rfl rfl rfl (by decide +kernel) ⟨Nat.le_of_ble_eq_true rfl, Nat.le_of_ble_eq_true rfl⟩) rfl rfl rfl rfl rfl rfl ⟨Nat.le_of_ble_eq_true rfl, Nat.le_of_ble_eq_true rfl⟩ dX3_safeDrops_117 rfl (fun z10 hz10 => ?_)
  refine ev_iinc hX dX3_safeDrops_120 rfl (v := 1) (by decide +kernel) (L' := [some (.inr (.inl 4)), some (.inl x1), some (.inl x2), some (.inl x3), some (.inl (x4 ||| z9.1)), some (.inl (x5 + 1))]) rfl ?_
  refine ev_goto (tgt := 43) hX dX3_safeDrops_123 (by decide) ?_
  refine ev_mask [true, true, true, true, true, true] (L' := [some (.inr (.inl 4)), some (.inl x1), some (.inl x2), some (.inl x3), some (.inl (x4 ||| z9.1)), some (.inl (x5 + 1))]) rfl rfl ?_
  exact hk43 x1 x2 x3 (x4 ||| z9.1) (x5 + 1) z10
set_option maxHeartbeats 4000000 in
set_option maxRecDepth 100000 in
theorem e_X3_safeDrops_43 (hX : mv_X p s m args meth c D vwCl cI cC tbX td A cX3_safeDrops 6 RX3 wsX3_safeDrops) (hr : meth.sig.returnType = (some .int)) : ∀ (n : Nat) (x1 : Int32) (x2 : Int32) (x3 : Int32) (x4 : Int32) (x5 : Int32) (w : mvW), EV p l e (headSpec wsX3_safeDrops rm_X3_safeDrops).room s m args below meth c D vwCl cI cC td A (fun a => a = ad0) (mv_Qi below args s D vwCl cI cC shX ad0 A) 0 0 shX [some (.inr (.inl 4)), some (.inl x1), some (.inl x2), some (.inl x3), some (.inl x4), some (.inl x5)] [] 43 w (f_X3_safeDrops_43 n x1 x2 x3 x4 x5 w) := by
  intro n
  induction n with
  | zero => intro x1 x2 x3 x4 x5 w; exact ev_none
  | succ n ih =>
    intro x1 x2 x3 x4 x5 w
    rw [f_X3_safeDrops_43]
    refine ev_iload hX dX3_safeDrops_43 rfl ?_
    refine ev_bipush hX dX3_safeDrops_45 (v := 25) (by decide +kernel) ?_
    refine ev_icmp_ge (tgt := 126) hX dX3_safeDrops_47 (by decide) ?_ ?_
    · refine ev_iload hX dX3_safeDrops_126 rfl ?_
      exact ev_ireti hX hr dX3_safeDrops_128
    · refine ev_aload_n hX dX3_safeDrops_50 rfl ?_
      refine ev_getr (k := 0) hX (T := TX3) in_X3_safeDrops_X3 rfl rfl rfl (show Cond.fieldLink RX3 28 "FiveShogi$Rules" "position" "LFiveShogi$Position;" ∈ _ by decide +kernel) rfl dX3_safeDrops_51 ?_
      refine ev_iload hX dX3_safeDrops_54 rfl ?_
      refine ev_callVi hX (k0 := 1) (As := [.inl x5]) (rm := rm_X2_manOn) (c_X2_manOn l D cI cC td x5 w) (cwV 1 hX.ts gX3_safeDrops_X2_manOn rfl rfl rfl (by decide +kernel) ⟨Nat.le_of_ble_eq_true rfl, Nat.le_of_ble_eq_true rfl⟩) rfl rfl rfl rfl rfl rfl ⟨Nat.le_of_ble_eq_true rfl, Nat.le_of_ble_eq_true rfl⟩ dX3_safeDrops_56 rfl (fun z4 hz4 => ?_)
      refine ev_bipush hX dX3_safeDrops_59 (v := 99) (by decide +kernel) ?_
      refine ev_icmp_eq (tgt := 67) hX dX3_safeDrops_61 (by decide) ?_ ?_
      · refine ev_aload_n hX dX3_safeDrops_67 rfl ?_
        refine ev_getr (k := 0) hX (T := TX3) in_X3_safeDrops_X3 rfl rfl rfl (show Cond.fieldLink RX3 28 "FiveShogi$Rules" "position" "LFiveShogi$Position;" ∈ _ by decide +kernel) rfl dX3_safeDrops_68 ?_
        refine ev_iload hX dX3_safeDrops_71 rfl ?_
        refine ev_iload_n hX dX3_safeDrops_73 rfl ?_
        refine ev_iconst hX dX3_safeDrops_74 (v := 1) (by decide +kernel) ?_
        refine ev_callNi hX (As := [.inl x1, .inl 1]) (rm := rm_X4_manOf) (c_X4_manOf l D cI cC td x1 1 z4.2) ⟨va_cnB (host := "FiveShogi") 2 hX.ts gX3_safeDrops_X4_manOf_n135 rfl rfl rfl (hX.sta.2.1 (_, 135, _, _) (List.mem_of_getElem? (i := 15) rfl)) (hX.ts _ (show Cond.initialized RX4 ∈ _ by decide +kernel)) (by decide +kernel) ⟨Nat.le_of_ble_eq_true rfl, Nat.le_of_ble_eq_true rfl⟩, hX.ts _ (show Cond.static yX4_manOf ∈ _ by decide +kernel), trivial⟩ rfl rfl rfl ⟨Nat.le_of_ble_eq_true rfl, Nat.le_of_ble_eq_true rfl⟩ dX3_safeDrops_75 rfl (fun z5 hz5 => ?_)
        refine ev_callVv hX (k0 := 1) (As := [.inl x5, .inl z5.1]) (rm := rm_X2_place) (c_X2_place l D cI cC td x5 z5.1 z5.2) (cwV 2 hX.ts gX3_safeDrops_X2_place rfl rfl rfl (by decide +kernel) ⟨Nat.le_of_ble_eq_true rfl, Nat.le_of_ble_eq_true rfl⟩) rfl rfl rfl rfl rfl rfl ⟨Nat.le_of_ble_eq_true rfl, Nat.le_of_ble_eq_true rfl⟩ dX3_safeDrops_78 rfl (fun z6 hz6 => ?_)
        refine ev_iload_n hX dX3_safeDrops_81 rfl ?_
        refine ev_if_ne (tgt := 99) hX dX3_safeDrops_82 (by decide) ?_ ?_
        · refine ev_mask [true, true, true, true, true, true] (L' := [some (.inr (.inl 4)), some (.inl x1), some (.inl x2), some (.inl x3), some (.inl x4), some (.inl x5)]) rfl rfl ?_
          exact e_X3_safeDrops_99 hX hr (fun x1' x2' x3' x4' x5' w' => f_X3_safeDrops_43 n x1' x2' x3' x4' x5' w') (fun x1' x2' x3' x4' x5' w' => ih x1' x2' x3' x4' x5' w') x1 x2 x3 x4 x5 z6
        · refine ev_aload_n hX dX3_safeDrops_85 rfl ?_
          refine ev_getr (k := 0) hX (T := TX3) in_X3_safeDrops_X3 rfl rfl rfl (show Cond.fieldLink RX3 28 "FiveShogi$Rules" "position" "LFiveShogi$Position;" ∈ _ by decide +kernel) rfl dX3_safeDrops_86 ?_
          refine ev_iconst hX dX3_safeDrops_89 (v := 1) (by decide +kernel) ?_
          refine ev_iload_n hX dX3_safeDrops_90 rfl ?_
          refine ev_isub hX dX3_safeDrops_91 ?_
          refine ev_iload_n hX dX3_safeDrops_92 rfl ?_
          refine ev_callVi hX (k0 := 1) (As := [.inl (1 - x1), .inl x2]) (rm := rm_X2_countAttackers) (c_X2_countAttackers l D cI cC td (1 - x1) x2 z6) (cwV 2 hX.ts gX3_safeDrops_X2_countAttackers rfl rfl rfl (by decide +kernel) ⟨Nat.le_of_ble_eq_true rfl, Nat.le_of_ble_eq_true rfl⟩) rfl rfl rfl rfl rfl rfl ⟨Nat.le_of_ble_eq_true rfl, Nat.le_of_ble_eq_true rfl⟩ dX3_safeDrops_93 rfl (fun z7 hz7 => ?_)
          refine ev_if_ne (tgt := 109) hX dX3_safeDrops_96 (by decide) ?_ ?_
          · refine ev_aload_n hX dX3_safeDrops_109 rfl ?_
            refine ev_getr (k := 0) hX (T := TX3) in_X3_safeDrops_X3 rfl rfl rfl (show Cond.fieldLink RX3 28 "FiveShogi$Rules" "position" "LFiveShogi$Position;" ∈ _ by decide +kernel) rfl dX3_safeDrops_110 ?_
            refine ev_iload hX dX3_safeDrops_113 rfl ?_
            refine ev_bipush hX dX3_safeDrops_115 (v := 99) (by decide +kernel) ?_
            refine ev_callVv hX (k0 := 1) (As := [.inl x5, .inl 99]) (rm := rm_X2_place) (c_X2_place l D cI cC td x5 99 z7.2) (cwV 2 hX.ts gX3_safeDrops_X2_place rfl rfl rfl (by decide +kernel) ⟨Nat.le_of_ble_eq_true rfl, Nat.le_of_ble_eq_true rfl⟩) rfl rfl rfl rfl rfl rfl ⟨Nat.le_of_ble_eq_true rfl, Nat.le_of_ble_eq_true rfl⟩ dX3_safeDrops_117 rfl (fun z8 hz8 => ?_)
            refine ev_iinc hX dX3_safeDrops_120 rfl (v := 1) (by decide +kernel) (L' := [some (.inr (.inl 4)), some (.inl x1), some (.inl x2), some (.inl x3), some (.inl x4), some (.inl (x5 + 1))]) rfl ?_
            refine ev_goto (tgt := 43) hX dX3_safeDrops_123 (by decide) ?_
            refine ev_mask [true, true, true, true, true, true] (L' := [some (.inr (.inl 4)), some (.inl x1), some (.inl x2), some (.inl x3), some (.inl x4), some (.inl (x5 + 1))]) rfl rfl ?_
            exact ih x1 x2 x3 x4 (x5 + 1) z8
          · refine ev_mask [true, true, true, true, true, true] (L' := [some (.inr (.inl 4)), some (.inl x1), some (.inl x2), some (.inl x3), some (.inl x4), some (.inl x5)]) rfl rfl ?_
            exact e_X3_safeDrops_99 hX hr (fun x1' x2' x3' x4' x5' w' => f_X3_safeDrops_43 n x1' x2' x3' x4' x5' w') (fun x1' x2' x3' x4' x5' w' => ih x1' x2' x3' x4' x5' w') x1 x2 x3 x4 x5 z7.2
      · refine ev_goto (tgt := 120) hX dX3_safeDrops_64 (by decide) ?_
        refine ev_iinc hX dX3_safeDrops_120 rfl (v := 1) (by decide +kernel) (L' := [some (.inr (.inl 4)), some (.inl x1), some (.inl x2), some (.inl x3), some (.inl x4), some (.inl (x5 + 1))]) rfl ?_
        refine ev_goto (tgt := 43) hX dX3_safeDrops_123 (by decide) ?_
        refine ev_mask [true, true, true, true, true, true] (L' := [some (.inr (.inl 4)), some (.inl x1), some (.inl x2), some (.inl x3), some (.inl x4), some (.inl (x5 + 1))]) rfl rfl ?_
        exact ih x1 x2 x3 x4 (x5 + 1) z4.2
set_option maxHeartbeats 4000000 in
set_option maxRecDepth 100000 in
theorem c_X3_safeDrops (l : Launch) (D : va_G) (cI cC : ClassId) (td : Nat → Option Nat) (w : mvW) : ∀ z, f_X3_safeDrops w = some z → mv_Ci l D vwCl cI cC tbX td yX3_safeDrops wsX3_safeDrops rm_X3_safeDrops shX w [.inr (.inl 4)] z := by
  refine mv_starti (own := RX3) rfl (by decide) rfl rfl (L0 := [some (.inr (.inl 4)), none, none, none, none, none]) rfl (fun p e s m args below meth c A ad0 hX hr => ?_)
  rw [f_X3_safeDrops]
  refine ev_aload_n hX dX3_safeDrops_0 rfl ?_
  refine ev_getr (k := 0) hX (T := TX3) in_X3_safeDrops_X3 rfl rfl rfl (show Cond.fieldLink RX3 28 "FiveShogi$Rules" "position" "LFiveShogi$Position;" ∈ _ by decide +kernel) rfl dX3_safeDrops_1 ?_
  refine ev_callVi hX (k0 := 1) (As := []) (rm := rm_X2_sideToPlay) (c_X2_sideToPlay l D cI cC td w) (cwV 0 hX.ts gX3_safeDrops_X2_sideToPlay rfl rfl rfl (by decide +kernel) ⟨Nat.le_of_ble_eq_true rfl, Nat.le_of_ble_eq_true rfl⟩) rfl rfl rfl rfl rfl rfl ⟨Nat.le_of_ble_eq_true rfl, Nat.le_of_ble_eq_true rfl⟩ dX3_safeDrops_4 rfl (fun z1 hz1 => ?_)
  refine ev_istore_n hX dX3_safeDrops_7 rfl (L' := [some (.inr (.inl 4)), some (.inl z1.1), none, none, none, none]) rfl ?_
  refine ev_aload_n hX dX3_safeDrops_8 rfl ?_
  refine ev_getr (k := 0) hX (T := TX3) in_X3_safeDrops_X3 rfl rfl rfl (show Cond.fieldLink RX3 28 "FiveShogi$Rules" "position" "LFiveShogi$Position;" ∈ _ by decide +kernel) rfl dX3_safeDrops_9 ?_
  refine ev_iload_n hX dX3_safeDrops_12 rfl ?_
  refine ev_callVi hX (k0 := 1) (As := [.inl z1.1]) (rm := rm_X2_kingOf) (c_X2_kingOf l D cI cC td z1.1 z1.2) (cwV 1 hX.ts gX3_safeDrops_X2_kingOf rfl rfl rfl (by decide +kernel) ⟨Nat.le_of_ble_eq_true rfl, Nat.le_of_ble_eq_true rfl⟩) rfl rfl rfl rfl rfl rfl ⟨Nat.le_of_ble_eq_true rfl, Nat.le_of_ble_eq_true rfl⟩ dX3_safeDrops_13 rfl (fun z2 hz2 => ?_)
  refine ev_istore_n hX dX3_safeDrops_16 rfl (L' := [some (.inr (.inl 4)), some (.inl z1.1), some (.inl z2.1), none, none, none]) rfl ?_
  refine ev_aload_n hX dX3_safeDrops_17 rfl ?_
  refine ev_getr (k := 0) hX (T := TX3) in_X3_safeDrops_X3 rfl rfl rfl (show Cond.fieldLink RX3 28 "FiveShogi$Rules" "position" "LFiveShogi$Position;" ∈ _ by decide +kernel) rfl dX3_safeDrops_18 ?_
  refine ev_iconst hX dX3_safeDrops_21 (v := 1) (by decide +kernel) ?_
  refine ev_iload_n hX dX3_safeDrops_22 rfl ?_
  refine ev_isub hX dX3_safeDrops_23 ?_
  refine ev_iload_n hX dX3_safeDrops_24 rfl ?_
  refine ev_callVi hX (k0 := 1) (As := [.inl (1 - z1.1), .inl z2.1]) (rm := rm_X2_countAttackers) (c_X2_countAttackers l D cI cC td (1 - z1.1) z2.1 z2.2) (cwV 2 hX.ts gX3_safeDrops_X2_countAttackers rfl rfl rfl (by decide +kernel) ⟨Nat.le_of_ble_eq_true rfl, Nat.le_of_ble_eq_true rfl⟩) rfl rfl rfl rfl rfl rfl ⟨Nat.le_of_ble_eq_true rfl, Nat.le_of_ble_eq_true rfl⟩ dX3_safeDrops_25 rfl (fun z3 hz3 => ?_)
  refine ev_if_ne (tgt := 35) hX dX3_safeDrops_28 (by decide) ?_ ?_
  · refine ev_iconst hX dX3_safeDrops_35 (v := 0) (by decide +kernel) ?_
    refine ev_istore_n hX dX3_safeDrops_36 rfl (L' := [some (.inr (.inl 4)), some (.inl z1.1), some (.inl z2.1), some (.inl 0), none, none]) rfl ?_
    refine ev_iconst hX dX3_safeDrops_37 (v := 0) (by decide +kernel) ?_
    refine ev_istore hX dX3_safeDrops_38 rfl (L' := [some (.inr (.inl 4)), some (.inl z1.1), some (.inl z2.1), some (.inl 0), some (.inl 0), none]) rfl ?_
    refine ev_iconst hX dX3_safeDrops_40 (v := 0) (by decide +kernel) ?_
    refine ev_istore hX dX3_safeDrops_41 rfl (L' := [some (.inr (.inl 4)), some (.inl z1.1), some (.inl z2.1), some (.inl 0), some (.inl 0), some (.inl 0)]) rfl ?_
    refine ev_mask [true, true, true, true, true, true] (L' := [some (.inr (.inl 4)), some (.inl z1.1), some (.inl z2.1), some (.inl 0), some (.inl 0), some (.inl 0)]) rfl rfl ?_
    exact e_X3_safeDrops_43 hX hr 4096 z1.1 z2.1 0 0 0 z3.2
  · refine ev_iconst hX dX3_safeDrops_31 (v := 1) (by decide +kernel) ?_
    refine ev_goto (tgt := 36) hX dX3_safeDrops_32 (by decide) ?_
    refine ev_istore_n hX dX3_safeDrops_36 rfl (L' := [some (.inr (.inl 4)), some (.inl z1.1), some (.inl z2.1), some (.inl 1), none, none]) rfl ?_
    refine ev_iconst hX dX3_safeDrops_37 (v := 0) (by decide +kernel) ?_
    refine ev_istore hX dX3_safeDrops_38 rfl (L' := [some (.inr (.inl 4)), some (.inl z1.1), some (.inl z2.1), some (.inl 1), some (.inl 0), none]) rfl ?_
    refine ev_iconst hX dX3_safeDrops_40 (v := 0) (by decide +kernel) ?_
    refine ev_istore hX dX3_safeDrops_41 rfl (L' := [some (.inr (.inl 4)), some (.inl z1.1), some (.inl z2.1), some (.inl 1), some (.inl 0), some (.inl 0)]) rfl ?_
    refine ev_mask [true, true, true, true, true, true] (L' := [some (.inr (.inl 4)), some (.inl z1.1), some (.inl z2.1), some (.inl 1), some (.inl 0), some (.inl 0)]) rfl rfl ?_
    exact e_X3_safeDrops_43 hX hr 4096 z1.1 z2.1 1 0 0 z3.2
def rm_X4_dropNumber : Room := { frames := 0, cells := 0, slots := 0, locals := 0 }
set_option maxHeartbeats 4000000 in
set_option maxRecDepth 100000 in
theorem c_X4_dropNumber (l : Launch) (D : va_G) (cI cC : ClassId) (td : Nat → Option Nat) (a0 : Int32) (a1 : Int32) (w : mvW) : ∀ z, f_X4_dropNumber a0 a1 w = some z → mv_Ci l D vwCl cI cC tbX td yX4_dropNumber wsX4_dropNumber rm_X4_dropNumber shX w [.inl a0, .inl a1] z := by
  refine mv_starti (own := RX4) rfl (by decide) rfl rfl (L0 := [some (.inl a0), some (.inl a1)]) rfl (fun p e s m args below meth c A ad0 hX hr => ?_)
  rw [f_X4_dropNumber]
  refine ev_sipush hX dX4_dropNumber_0 (v := 20000) (by decide +kernel) ?_
  refine ev_bipush hX dX4_dropNumber_3 (v := 100) (by decide +kernel) ?_
  refine ev_iload_n hX dX4_dropNumber_5 rfl ?_
  refine ev_imul hX dX4_dropNumber_6 ?_
  refine ev_iadd hX dX4_dropNumber_7 ?_
  refine ev_iload_n hX dX4_dropNumber_8 rfl ?_
  refine ev_iadd hX dX4_dropNumber_9 ?_
  exact ev_ireti hX hr dX4_dropNumber_10
def rm_X3_isInCheck : Room := { frames := 2, cells := 0, slots := 0, locals := 41 }
set_option maxRecDepth 20000 in
theorem in_X3_isInCheck_X3 : ∀ w ∈ u_ws RX3 TX3 6, w ∈ wsX3_isInCheck := by decide +kernel
set_option maxHeartbeats 4000000 in
set_option maxRecDepth 100000 in
theorem c_X3_isInCheck (l : Launch) (D : va_G) (cI cC : ClassId) (td : Nat → Option Nat) (w : mvW) : ∀ z, f_X3_isInCheck w = some z → mv_Ci l D vwCl cI cC tbX td yX3_isInCheck wsX3_isInCheck rm_X3_isInCheck shX w [.inr (.inl 4)] z := by
  refine mv_starti (own := RX3) rfl (by decide) rfl rfl (L0 := [some (.inr (.inl 4)), none]) rfl (fun p e s m args below meth c A ad0 hX hr => ?_)
  rw [f_X3_isInCheck]
  refine ev_aload_n hX dX3_isInCheck_0 rfl ?_
  refine ev_getr (k := 0) hX (T := TX3) in_X3_isInCheck_X3 rfl rfl rfl (show Cond.fieldLink RX3 28 "FiveShogi$Rules" "position" "LFiveShogi$Position;" ∈ _ by decide +kernel) rfl dX3_isInCheck_1 ?_
  refine ev_callVi hX (k0 := 1) (As := []) (rm := rm_X2_sideToPlay) (c_X2_sideToPlay l D cI cC td w) (cwV 0 hX.ts gX3_isInCheck_X2_sideToPlay rfl rfl rfl (by decide +kernel) ⟨Nat.le_of_ble_eq_true rfl, Nat.le_of_ble_eq_true rfl⟩) rfl rfl rfl rfl rfl rfl ⟨Nat.le_of_ble_eq_true rfl, Nat.le_of_ble_eq_true rfl⟩ dX3_isInCheck_4 rfl (fun z1 hz1 => ?_)
  refine ev_istore_n hX dX3_isInCheck_7 rfl (L' := [some (.inr (.inl 4)), some (.inl z1.1)]) rfl ?_
  refine ev_aload_n hX dX3_isInCheck_8 rfl ?_
  refine ev_getr (k := 0) hX (T := TX3) in_X3_isInCheck_X3 rfl rfl rfl (show Cond.fieldLink RX3 28 "FiveShogi$Rules" "position" "LFiveShogi$Position;" ∈ _ by decide +kernel) rfl dX3_isInCheck_9 ?_
  refine ev_iconst hX dX3_isInCheck_12 (v := 1) (by decide +kernel) ?_
  refine ev_iload_n hX dX3_isInCheck_13 rfl ?_
  refine ev_isub hX dX3_isInCheck_14 ?_
  refine ev_aload_n hX dX3_isInCheck_15 rfl ?_
  refine ev_getr (k := 0) hX (T := TX3) in_X3_isInCheck_X3 rfl rfl rfl (show Cond.fieldLink RX3 28 "FiveShogi$Rules" "position" "LFiveShogi$Position;" ∈ _ by decide +kernel) rfl dX3_isInCheck_16 ?_
  refine ev_iload_n hX dX3_isInCheck_19 rfl ?_
  refine ev_callVi hX (k0 := 1) (As := [.inl z1.1]) (rm := rm_X2_kingOf) (c_X2_kingOf l D cI cC td z1.1 z1.2) (cwV 1 hX.ts gX3_isInCheck_X2_kingOf rfl rfl rfl (by decide +kernel) ⟨Nat.le_of_ble_eq_true rfl, Nat.le_of_ble_eq_true rfl⟩) rfl rfl rfl rfl rfl rfl ⟨Nat.le_of_ble_eq_true rfl, Nat.le_of_ble_eq_true rfl⟩ dX3_isInCheck_20 rfl (fun z2 hz2 => ?_)
  refine ev_callVi hX (k0 := 1) (As := [.inl (1 - z1.1), .inl z2.1]) (rm := rm_X2_countAttackers) (c_X2_countAttackers l D cI cC td (1 - z1.1) z2.1 z2.2) (cwV 2 hX.ts gX3_isInCheck_X2_countAttackers rfl rfl rfl (by decide +kernel) ⟨Nat.le_of_ble_eq_true rfl, Nat.le_of_ble_eq_true rfl⟩) rfl rfl rfl rfl rfl rfl ⟨Nat.le_of_ble_eq_true rfl, Nat.le_of_ble_eq_true rfl⟩ dX3_isInCheck_23 rfl (fun z3 hz3 => ?_)
  refine ev_if_le (tgt := 33) hX dX3_isInCheck_26 (by decide) ?_ ?_
  · refine ev_iconst hX dX3_isInCheck_33 (v := 0) (by decide +kernel) ?_
    exact ev_iretz0 hX hr dX3_isInCheck_34
  · refine ev_iconst hX dX3_isInCheck_29 (v := 1) (by decide +kernel) ?_
    refine ev_goto (tgt := 34) hX dX3_isInCheck_30 (by decide) ?_
    exact ev_iretz1 hX hr dX3_isInCheck_34
def rm_X2_takeBack : Room := { frames := 3, cells := 0, slots := 0, locals := 68 }
set_option maxHeartbeats 4000000 in
set_option maxRecDepth 100000 in
theorem c_X2_takeBack (l : Launch) (D : va_G) (cI cC : ClassId) (td : Nat → Option Nat) (a1 : Int32) (a2 : Int32) (w : mvW) : ∀ z, f_X2_takeBack a1 a2 w = some z → mv_Cv l D vwCl cI cC tbX td yX2_takeBack wsX2_takeBack rm_X2_takeBack shX w [.inr (.inl 1), .inl a1, .inl a2] z := by
  refine mv_startv (own := RX2) rfl (by decide) rfl rfl (L0 := [some (.inr (.inl 1)), some (.inl a1), some (.inl a2), none, none, none]) rfl (fun p e s m args below meth c A ad0 hX hr => ?_)
  rw [f_X2_takeBack]
  refine ev_iconst hX dX2_takeBack_0 (v := 1) (by decide +kernel) ?_
  refine ev_aload_n hX dX2_takeBack_1 rfl ?_
  refine ev_callVi hX (k0 := 1) (As := []) (rm := rm_X2_sideToPlay) (c_X2_sideToPlay l D cI cC td w) (cwV 0 hX.ts gX2_takeBack_X2_sideToPlay rfl rfl rfl (by decide +kernel) ⟨Nat.le_of_ble_eq_true rfl, Nat.le_of_ble_eq_true rfl⟩) rfl rfl rfl rfl rfl rfl ⟨Nat.le_of_ble_eq_true rfl, Nat.le_of_ble_eq_true rfl⟩ dX2_takeBack_2 rfl (fun z1 hz1 => ?_)
  refine ev_isub hX dX2_takeBack_5 ?_
  refine ev_istore_n hX dX2_takeBack_6 rfl (L' := [some (.inr (.inl 1)), some (.inl a1), some (.inl a2), some (.inl (1 - z1.1)), none, none]) rfl ?_
  refine ev_iload_n hX dX2_takeBack_7 rfl ?_
  refine ev_bipush hX dX2_takeBack_8 (v := 100) (by decide +kernel) ?_
  refine ev_irem hX dX2_takeBack_10 (by decide) ?_
  refine ev_istore hX dX2_takeBack_11 rfl (L' := [some (.inr (.inl 1)), some (.inl a1), some (.inl a2), some (.inl (1 - z1.1)), some (.inl (a1 - a1 / 100 * 100)), none]) rfl ?_
  refine ev_aload_n hX dX2_takeBack_13 rfl ?_
  refine ev_iload_n hX dX2_takeBack_14 rfl ?_
  refine ev_callVv hX (k0 := 1) (As := [.inl (1 - z1.1)]) (rm := rm_X2_setSideToPlay) (c_X2_setSideToPlay l D cI cC td (1 - z1.1) z1.2) (cwV 1 hX.ts gX2_takeBack_X2_setSideToPlay rfl rfl rfl (by decide +kernel) ⟨Nat.le_of_ble_eq_true rfl, Nat.le_of_ble_eq_true rfl⟩) rfl rfl rfl rfl rfl rfl ⟨Nat.le_of_ble_eq_true rfl, Nat.le_of_ble_eq_true rfl⟩ dX2_takeBack_15 rfl (fun z2 hz2 => ?_)
  refine ev_iload_n hX dX2_takeBack_18 rfl ?_
  refine ev_sipush hX dX2_takeBack_19 (v := 20000) (by decide +kernel) ?_
  refine ev_icmp_lt (tgt := 60) hX dX2_takeBack_22 (by decide) ?_ ?_
  · refine ev_aload_n hX dX2_takeBack_60 rfl ?_
    refine ev_iload hX dX2_takeBack_61 rfl ?_
    refine ev_callVi hX (k0 := 1) (As := [.inl (a1 - a1 / 100 * 100)]) (rm := rm_X2_manOn) (c_X2_manOn l D cI cC td (a1 - a1 / 100 * 100) z2) (cwV 1 hX.ts gX2_takeBack_X2_manOn rfl rfl rfl (by decide +kernel) ⟨Nat.le_of_ble_eq_true rfl, Nat.le_of_ble_eq_true rfl⟩) rfl rfl rfl rfl rfl rfl ⟨Nat.le_of_ble_eq_true rfl, Nat.le_of_ble_eq_true rfl⟩ dX2_takeBack_63 rfl (fun z3 hz3 => ?_)
    refine ev_istore hX dX2_takeBack_66 rfl (L' := [some (.inr (.inl 1)), some (.inl a1), some (.inl a2), some (.inl (1 - z1.1)), some (.inl (a1 - a1 / 100 * 100)), some (.inl z3.1)]) rfl ?_
    refine ev_aload_n hX dX2_takeBack_68 rfl ?_
    refine ev_iload hX dX2_takeBack_69 rfl ?_
    refine ev_iload_n hX dX2_takeBack_71 rfl ?_
    refine ev_callVv hX (k0 := 1) (As := [.inl (a1 - a1 / 100 * 100), .inl a2]) (rm := rm_X2_place) (c_X2_place l D cI cC td (a1 - a1 / 100 * 100) a2 z3.2) (cwV 2 hX.ts gX2_takeBack_X2_place rfl rfl rfl (by decide +kernel) ⟨Nat.le_of_ble_eq_true rfl, Nat.le_of_ble_eq_true rfl⟩) rfl rfl rfl rfl rfl rfl ⟨Nat.le_of_ble_eq_true rfl, Nat.le_of_ble_eq_true rfl⟩ dX2_takeBack_72 rfl (fun z4 hz4 => ?_)
    refine ev_aload_n hX dX2_takeBack_75 rfl ?_
    refine ev_iload_n hX dX2_takeBack_76 rfl ?_
    refine ev_sipush hX dX2_takeBack_77 (v := 10000) (by decide +kernel) ?_
    refine ev_irem hX dX2_takeBack_80 (by decide) ?_
    refine ev_bipush hX dX2_takeBack_81 (v := 100) (by decide +kernel) ?_
    refine ev_idiv hX dX2_takeBack_83 (by decide) ?_
    refine ev_iload_n hX dX2_takeBack_84 rfl ?_
    refine ev_sipush hX dX2_takeBack_85 (v := 10000) (by decide +kernel) ?_
    refine ev_icmp_lt (tgt := 98) hX dX2_takeBack_88 (by decide) ?_ ?_
    · refine ev_iload hX dX2_takeBack_98 rfl ?_
      refine ev_callVv hX (k0 := 1) (As := [.inl ((a1 - a1 / 10000 * 10000) / 100), .inl z3.1]) (rm := rm_X2_place) (c_X2_place l D cI cC td ((a1 - a1 / 10000 * 10000) / 100) z3.1 z4) (cwV 2 hX.ts gX2_takeBack_X2_place rfl rfl rfl (by decide +kernel) ⟨Nat.le_of_ble_eq_true rfl, Nat.le_of_ble_eq_true rfl⟩) rfl rfl rfl rfl rfl rfl ⟨Nat.le_of_ble_eq_true rfl, Nat.le_of_ble_eq_true rfl⟩ dX2_takeBack_100 rfl (fun z5 hz5 => ?_)
      refine ev_aload_n hX dX2_takeBack_103 rfl ?_
      refine ev_iload_n hX dX2_takeBack_104 rfl ?_
      refine ev_iload_n hX dX2_takeBack_105 rfl ?_
      refine ev_iconst hX dX2_takeBack_106 (v := (-1)) (by decide +kernel) ?_
      refine ev_callVv hX (k0 := 1) (As := [.inl (1 - z1.1), .inl a2, .inl (-1)]) (rm := rm_X2_changeHandForTaken) (c_X2_changeHandForTaken l D cI cC td (1 - z1.1) a2 (-1) z5) (cwV 3 hX.ts gX2_takeBack_X2_changeHandForTaken rfl rfl rfl (by decide +kernel) ⟨Nat.le_of_ble_eq_true rfl, Nat.le_of_ble_eq_true rfl⟩) rfl rfl rfl rfl rfl rfl ⟨Nat.le_of_ble_eq_true rfl, Nat.le_of_ble_eq_true rfl⟩ dX2_takeBack_107 rfl (fun z6 hz6 => ?_)
      exact ev_vret hX hr dX2_takeBack_110
    · refine ev_iload hX dX2_takeBack_91 rfl ?_
      refine ev_iconst hX dX2_takeBack_93 (v := 4) (by decide +kernel) ?_
      refine ev_isub hX dX2_takeBack_94 ?_
      refine ev_goto (tgt := 100) hX dX2_takeBack_95 (by decide) ?_
      refine ev_callVv hX (k0 := 1) (As := [.inl ((a1 - a1 / 10000 * 10000) / 100), .inl (z3.1 - 4)]) (rm := rm_X2_place) (c_X2_place l D cI cC td ((a1 - a1 / 10000 * 10000) / 100) (z3.1 - 4) z4) (cwV 2 hX.ts gX2_takeBack_X2_place rfl rfl rfl (by decide +kernel) ⟨Nat.le_of_ble_eq_true rfl, Nat.le_of_ble_eq_true rfl⟩) rfl rfl rfl rfl rfl rfl ⟨Nat.le_of_ble_eq_true rfl, Nat.le_of_ble_eq_true rfl⟩ dX2_takeBack_100 rfl (fun z7 hz7 => ?_)
      refine ev_aload_n hX dX2_takeBack_103 rfl ?_
      refine ev_iload_n hX dX2_takeBack_104 rfl ?_
      refine ev_iload_n hX dX2_takeBack_105 rfl ?_
      refine ev_iconst hX dX2_takeBack_106 (v := (-1)) (by decide +kernel) ?_
      refine ev_callVv hX (k0 := 1) (As := [.inl (1 - z1.1), .inl a2, .inl (-1)]) (rm := rm_X2_changeHandForTaken) (c_X2_changeHandForTaken l D cI cC td (1 - z1.1) a2 (-1) z7) (cwV 3 hX.ts gX2_takeBack_X2_changeHandForTaken rfl rfl rfl (by decide +kernel) ⟨Nat.le_of_ble_eq_true rfl, Nat.le_of_ble_eq_true rfl⟩) rfl rfl rfl rfl rfl rfl ⟨Nat.le_of_ble_eq_true rfl, Nat.le_of_ble_eq_true rfl⟩ dX2_takeBack_107 rfl (fun z8 hz8 => ?_)
      exact ev_vret hX hr dX2_takeBack_110
  · refine ev_iload_n hX dX2_takeBack_25 rfl ?_
    refine ev_sipush hX dX2_takeBack_26 (v := 20000) (by decide +kernel) ?_
    refine ev_isub hX dX2_takeBack_29 ?_
    refine ev_bipush hX dX2_takeBack_30 (v := 100) (by decide +kernel) ?_
    refine ev_idiv hX dX2_takeBack_32 (by decide) ?_
    refine ev_istore hX dX2_takeBack_33 rfl (L' := [some (.inr (.inl 1)), some (.inl a1), some (.inl a2), some (.inl (1 - z1.1)), some (.inl (a1 - a1 / 100 * 100)), some (.inl ((a1 - 20000) / 100))]) rfl ?_
    refine ev_aload_n hX dX2_takeBack_35 rfl ?_
    refine ev_iload hX dX2_takeBack_36 rfl ?_
    refine ev_bipush hX dX2_takeBack_38 (v := 99) (by decide +kernel) ?_
    refine ev_callVv hX (k0 := 1) (As := [.inl (a1 - a1 / 100 * 100), .inl 99]) (rm := rm_X2_place) (c_X2_place l D cI cC td (a1 - a1 / 100 * 100) 99 z2) (cwV 2 hX.ts gX2_takeBack_X2_place rfl rfl rfl (by decide +kernel) ⟨Nat.le_of_ble_eq_true rfl, Nat.le_of_ble_eq_true rfl⟩) rfl rfl rfl rfl rfl rfl ⟨Nat.le_of_ble_eq_true rfl, Nat.le_of_ble_eq_true rfl⟩ dX2_takeBack_40 rfl (fun z9 hz9 => ?_)
    refine ev_aload_n hX dX2_takeBack_43 rfl ?_
    refine ev_iload_n hX dX2_takeBack_44 rfl ?_
    refine ev_iload hX dX2_takeBack_45 rfl ?_
    refine ev_aload_n hX dX2_takeBack_47 rfl ?_
    refine ev_iload_n hX dX2_takeBack_48 rfl ?_
    refine ev_iload hX dX2_takeBack_49 rfl ?_
    refine ev_callVi hX (k0 := 1) (As := [.inl (1 - z1.1), .inl ((a1 - 20000) / 100)]) (rm := rm_X2_inHand) (c_X2_inHand l D cI cC td (1 - z1.1) ((a1 - 20000) / 100) z9) (cwV 2 hX.ts gX2_takeBack_X2_inHand rfl rfl rfl (by decide +kernel) ⟨Nat.le_of_ble_eq_true rfl, Nat.le_of_ble_eq_true rfl⟩) rfl rfl rfl rfl rfl rfl ⟨Nat.le_of_ble_eq_true rfl, Nat.le_of_ble_eq_true rfl⟩ dX2_takeBack_51 rfl (fun z10 hz10 => ?_)
    refine ev_iconst hX dX2_takeBack_54 (v := 1) (by decide +kernel) ?_
    refine ev_iadd hX dX2_takeBack_55 ?_
    refine ev_callVv hX (k0 := 1) (As := [.inl (1 - z1.1), .inl ((a1 - 20000) / 100), .inl (z10.1 + 1)]) (rm := rm_X2_setInHand) (c_X2_setInHand l D cI cC td (1 - z1.1) ((a1 - 20000) / 100) (z10.1 + 1) z10.2) (cwV 3 hX.ts gX2_takeBack_X2_setInHand rfl rfl rfl (by decide +kernel) ⟨Nat.le_of_ble_eq_true rfl, Nat.le_of_ble_eq_true rfl⟩) rfl rfl rfl rfl rfl rfl ⟨Nat.le_of_ble_eq_true rfl, Nat.le_of_ble_eq_true rfl⟩ dX2_takeBack_56 rfl (fun z11 hz11 => ?_)
    exact ev_vret hX hr dX2_takeBack_59
def rm_X3_openToDrops : Room := { frames := 2, cells := 0, slots := 0, locals := 44 }
set_option maxRecDepth 20000 in
theorem in_X3_openToDrops_X3 : ∀ w ∈ u_ws RX3 TX3 6, w ∈ wsX3_openToDrops := by decide +kernel
set_option maxHeartbeats 4000000 in
set_option maxRecDepth 100000 in
theorem c_X3_openToDrops (l : Launch) (D : va_G) (cI cC : ClassId) (td : Nat → Option Nat) (a1 : Int32) (a2 : Int32) (w : mvW) : ∀ z, f_X3_openToDrops a1 a2 w = some z → mv_Ci l D vwCl cI cC tbX td yX3_openToDrops wsX3_openToDrops rm_X3_openToDrops shX w [.inr (.inl 4), .inl a1, .inl a2] z := by
  refine mv_starti (own := RX3) rfl (by decide) rfl rfl (L0 := [some (.inr (.inl 4)), some (.inl a1), some (.inl a2), none]) rfl (fun p e s m args below meth c A ad0 hX hr => ?_)
  rw [f_X3_openToDrops]
  refine ev_aload_n hX dX3_openToDrops_0 rfl ?_
  refine ev_getr (k := 0) hX (T := TX3) in_X3_openToDrops_X3 rfl rfl rfl (show Cond.fieldLink RX3 28 "FiveShogi$Rules" "position" "LFiveShogi$Position;" ∈ _ by decide +kernel) rfl dX3_openToDrops_1 ?_
  refine ev_callVi hX (k0 := 1) (As := []) (rm := rm_X2_sideToPlay) (c_X2_sideToPlay l D cI cC td w) (cwV 0 hX.ts gX3_openToDrops_X2_sideToPlay rfl rfl rfl (by decide +kernel) ⟨Nat.le_of_ble_eq_true rfl, Nat.le_of_ble_eq_true rfl⟩) rfl rfl rfl rfl rfl rfl ⟨Nat.le_of_ble_eq_true rfl, Nat.le_of_ble_eq_true rfl⟩ dX3_openToDrops_4 rfl (fun z1 hz1 => ?_)
  refine ev_istore_n hX dX3_openToDrops_7 rfl (L' := [some (.inr (.inl 4)), some (.inl a1), some (.inl a2), some (.inl z1.1)]) rfl ?_
  refine ev_aload_n hX dX3_openToDrops_8 rfl ?_
  refine ev_getr (k := 0) hX (T := TX3) in_X3_openToDrops_X3 rfl rfl rfl (show Cond.fieldLink RX3 28 "FiveShogi$Rules" "position" "LFiveShogi$Position;" ∈ _ by decide +kernel) rfl dX3_openToDrops_9 ?_
  refine ev_iload_n hX dX3_openToDrops_12 rfl ?_
  refine ev_iload_n hX dX3_openToDrops_13 rfl ?_
  refine ev_callVi hX (k0 := 1) (As := [.inl z1.1, .inl a1]) (rm := rm_X2_inHand) (c_X2_inHand l D cI cC td z1.1 a1 z1.2) (cwV 2 hX.ts gX3_openToDrops_X2_inHand rfl rfl rfl (by decide +kernel) ⟨Nat.le_of_ble_eq_true rfl, Nat.le_of_ble_eq_true rfl⟩) rfl rfl rfl rfl rfl rfl ⟨Nat.le_of_ble_eq_true rfl, Nat.le_of_ble_eq_true rfl⟩ dX3_openToDrops_14 rfl (fun z2 hz2 => ?_)
  refine ev_if_ne (tgt := 22) hX dX3_openToDrops_17 (by decide) ?_ ?_
  · refine ev_iload_n hX dX3_openToDrops_22 rfl ?_
    refine ev_iconst hX dX3_openToDrops_23 (v := 5) (by decide +kernel) ?_
    refine ev_icmp_ne (tgt := 46) hX dX3_openToDrops_24 (by decide) ?_ ?_
    · refine ev_iload_n hX dX3_openToDrops_46 rfl ?_
      exact ev_ireti hX hr dX3_openToDrops_47
    · refine ev_iload_n hX dX3_openToDrops_27 rfl ?_
      refine ev_iload_n hX dX3_openToDrops_28 rfl ?_
      refine ev_callNi hX (As := [.inl z1.1]) (rm := rm_X4_lastRow) (c_X4_lastRow l D cI cC td z1.1 z2.2) ⟨va_cnB (host := "FiveShogi") 1 hX.ts gX3_openToDrops_X4_lastRow_n95 rfl rfl rfl (hX.sta.2.1 (_, 95, _, _) (List.mem_of_getElem? (i := 10) rfl)) (hX.ts _ (show Cond.initialized RX4 ∈ _ by decide +kernel)) (by decide +kernel) ⟨Nat.le_of_ble_eq_true rfl, Nat.le_of_ble_eq_true rfl⟩, hX.ts _ (show Cond.static yX4_lastRow ∈ _ by decide +kernel), trivial⟩ rfl rfl rfl ⟨Nat.le_of_ble_eq_true rfl, Nat.le_of_ble_eq_true rfl⟩ dX3_openToDrops_29 rfl (fun z3 hz3 => ?_)
      refine ev_iconst hX dX3_openToDrops_32 (v := (-1)) (by decide +kernel) ?_
      refine ev_ixor hX dX3_openToDrops_33 ?_
      refine ev_iand hX dX3_openToDrops_34 ?_
      refine ev_aload_n hX dX3_openToDrops_35 rfl ?_
      refine ev_iload_n hX dX3_openToDrops_36 rfl ?_
      refine ev_callVi hX (k0 := 4) (As := [.inl z1.1]) (rm := rm_X3_pawnColumns) (c_X3_pawnColumns l D cI cC td z1.1 z3.2) (cwV 1 hX.ts gX3_openToDrops_X3_pawnColumns rfl rfl rfl (by decide +kernel) ⟨Nat.le_of_ble_eq_true rfl, Nat.le_of_ble_eq_true rfl⟩) rfl rfl rfl rfl rfl rfl ⟨Nat.le_of_ble_eq_true rfl, Nat.le_of_ble_eq_true rfl⟩ dX3_openToDrops_37 rfl (fun z4 hz4 => ?_)
      refine ev_iconst hX dX3_openToDrops_40 (v := (-1)) (by decide +kernel) ?_
      refine ev_ixor hX dX3_openToDrops_41 ?_
      refine ev_iand hX dX3_openToDrops_42 ?_
      refine ev_goto (tgt := 47) hX dX3_openToDrops_43 (by decide) ?_
      exact ev_ireti hX hr dX3_openToDrops_47
  · refine ev_iconst hX dX3_openToDrops_20 (v := 0) (by decide +kernel) ?_
    exact ev_ireti hX hr dX3_openToDrops_21
def rm_X3_canReply : Room := { frames := 3, cells := 0, slots := 0, locals := 76 }
set_option maxRecDepth 20000 in
theorem in_X3_canReply_X3 : ∀ w ∈ u_ws RX3 TX3 6, w ∈ wsX3_canReply := by decide +kernel
set_option maxHeartbeats 4000000 in
set_option maxRecDepth 100000 in
theorem e_X3_canReply_54 (hX : mv_X p s m args meth c D vwCl cI cC tbX td A cX3_canReply 4 RX3 wsX3_canReply) (hr : meth.sig.returnType = (some .boolean)) : ∀ (n : Nat) (x2 : Int32) (x3 : Int32) (w : mvW), EV p l e (headSpec wsX3_canReply rm_X3_canReply).room s m args below meth c D vwCl cI cC td A (fun a => a = ad0) (mv_Qi below args s D vwCl cI cC shX ad0 A) 0 0 shX [some (.inr (.inl 4)), none, some (.inl x2), some (.inl x3)] [] 54 w (f_X3_canReply_54 n x2 x3 w) := by
  intro n
  induction n with
  | zero => intro x2 x3 w; exact ev_none
  | succ n ih =>
    intro x2 x3 w
    rw [f_X3_canReply_54]
    refine ev_iload_n hX dX3_canReply_54 rfl ?_
    refine ev_iconst hX dX3_canReply_55 (v := 5) (by decide +kernel) ?_
    refine ev_icmp_gt (tgt := 76) hX dX3_canReply_56 (by decide) ?_ ?_
    · refine ev_iconst hX dX3_canReply_76 (v := 0) (by decide +kernel) ?_
      exact ev_iretz0 hX hr dX3_canReply_77
    · refine ev_aload_n hX dX3_canReply_59 rfl ?_
      refine ev_iload_n hX dX3_canReply_60 rfl ?_
      refine ev_iload_n hX dX3_canReply_61 rfl ?_
      refine ev_callVi hX (k0 := 4) (As := [.inl x3, .inl x2]) (rm := rm_X3_openToDrops) (c_X3_openToDrops l D cI cC td x3 x2 w) (cwV 2 hX.ts gX3_canReply_X3_openToDrops rfl rfl rfl (by decide +kernel) ⟨Nat.le_of_ble_eq_true rfl, Nat.le_of_ble_eq_true rfl⟩) rfl rfl rfl rfl rfl rfl ⟨Nat.le_of_ble_eq_true rfl, Nat.le_of_ble_eq_true rfl⟩ dX3_canReply_62 rfl (fun z6 hz6 => ?_)
      refine ev_if_eq (tgt := 70) hX dX3_canReply_65 (by decide) ?_ ?_
      · refine ev_iinc hX dX3_canReply_70 rfl (v := 1) (by decide +kernel) (L' := [some (.inr (.inl 4)), none, some (.inl x2), some (.inl (x3 + 1))]) rfl ?_
        refine ev_goto (tgt := 54) hX dX3_canReply_73 (by decide) ?_
        refine ev_mask [true, false, true, true] (L' := [some (.inr (.inl 4)), none, some (.inl x2), some (.inl (x3 + 1))]) rfl rfl ?_
        exact ih x2 (x3 + 1) z6.2
      · refine ev_iconst hX dX3_canReply_68 (v := 1) (by decide +kernel) ?_
        exact ev_iretz1 hX hr dX3_canReply_69
set_option maxHeartbeats 4000000 in
set_option maxRecDepth 100000 in
theorem e_X3_canReply_10 (hX : mv_X p s m args meth c D vwCl cI cC tbX td A cX3_canReply 4 RX3 wsX3_canReply) (hr : meth.sig.returnType = (some .boolean)) : ∀ (n : Nat) (x1 : Int32) (x2 : Int32) (w : mvW), EV p l e (headSpec wsX3_canReply rm_X3_canReply).room s m args below meth c D vwCl cI cC td A (fun a => a = ad0) (mv_Qi below args s D vwCl cI cC shX ad0 A) 0 0 shX [some (.inr (.inl 4)), some (.inl x1), some (.inl x2), none] [] 10 w (f_X3_canReply_10 n x1 x2 w) := by
  intro n
  induction n with
  | zero => intro x1 x2 w; exact ev_none
  | succ n ih =>
    intro x1 x2 w
    rw [f_X3_canReply_10]
    refine ev_iload_n hX dX3_canReply_10 rfl ?_
    refine ev_bipush hX dX3_canReply_11 (v := 25) (by decide +kernel) ?_
    refine ev_icmp_ge (tgt := 47) hX dX3_canReply_13 (by decide) ?_ ?_
    · refine ev_aload_n hX dX3_canReply_47 rfl ?_
      refine ev_callVi hX (k0 := 4) (As := []) (rm := rm_X3_safeDrops) (c_X3_safeDrops l D cI cC td w) (cwV 0 hX.ts gX3_canReply_X3_safeDrops rfl rfl rfl (by decide +kernel) ⟨Nat.le_of_ble_eq_true rfl, Nat.le_of_ble_eq_true rfl⟩) rfl rfl rfl rfl rfl rfl ⟨Nat.le_of_ble_eq_true rfl, Nat.le_of_ble_eq_true rfl⟩ dX3_canReply_48 rfl (fun z2 hz2 => ?_)
      refine ev_istore_n hX dX3_canReply_51 rfl (L' := [some (.inr (.inl 4)), some (.inl x1), some (.inl z2.1), none]) rfl ?_
      refine ev_iconst hX dX3_canReply_52 (v := 1) (by decide +kernel) ?_
      refine ev_istore_n hX dX3_canReply_53 rfl (L' := [some (.inr (.inl 4)), some (.inl x1), some (.inl z2.1), some (.inl 1)]) rfl ?_
      refine ev_mask [true, false, true, true] (L' := [some (.inr (.inl 4)), none, some (.inl z2.1), some (.inl 1)]) rfl rfl ?_
      exact e_X3_canReply_54 hX hr 4096 z2.1 1 z2.2
    · refine ev_aload_n hX dX3_canReply_16 rfl ?_
      refine ev_getr (k := 0) hX (T := TX3) in_X3_canReply_X3 rfl rfl rfl (show Cond.fieldLink RX3 28 "FiveShogi$Rules" "position" "LFiveShogi$Position;" ∈ _ by decide +kernel) rfl dX3_canReply_17 ?_
      refine ev_iload_n hX dX3_canReply_20 rfl ?_
      refine ev_callVi hX (k0 := 1) (As := [.inl x2]) (rm := rm_X2_manOn) (c_X2_manOn l D cI cC td x2 w) (cwV 1 hX.ts gX3_canReply_X2_manOn rfl rfl rfl (by decide +kernel) ⟨Nat.le_of_ble_eq_true rfl, Nat.le_of_ble_eq_true rfl⟩) rfl rfl rfl rfl rfl rfl ⟨Nat.le_of_ble_eq_true rfl, Nat.le_of_ble_eq_true rfl⟩ dX3_canReply_21 rfl (fun z3 hz3 => ?_)
      refine ev_callNi hX (As := [.inl z3.1]) (rm := rm_X4_sideOf) (c_X4_sideOf l D cI cC td z3.1 z3.2) ⟨va_cnB (host := "FiveShogi") 1 hX.ts gX3_canReply_X4_sideOf_n70 rfl rfl rfl (hX.sta.2.1 (_, 70, _, _) (List.mem_of_getElem? (i := 7) rfl)) (hX.ts _ (show Cond.initialized RX4 ∈ _ by decide +kernel)) (by decide +kernel) ⟨Nat.le_of_ble_eq_true rfl, Nat.le_of_ble_eq_true rfl⟩, hX.ts _ (show Cond.static yX4_sideOf ∈ _ by decide +kernel), trivial⟩ rfl rfl rfl ⟨Nat.le_of_ble_eq_true rfl, Nat.le_of_ble_eq_true rfl⟩ dX3_canReply_24 rfl (fun z4 hz4 => ?_)
      refine ev_iload_n hX dX3_canReply_27 rfl ?_
      refine ev_icmp_ne (tgt := 41) hX dX3_canReply_28 (by decide) ?_ ?_
      · refine ev_iinc hX dX3_canReply_41 rfl (v := 1) (by decide +kernel) (L' := [some (.inr (.inl 4)), some (.inl x1), some (.inl (x2 + 1)), none]) rfl ?_
        refine ev_goto (tgt := 10) hX dX3_canReply_44 (by decide) ?_
        refine ev_mask [true, true, true, false] (L' := [some (.inr (.inl 4)), some (.inl x1), some (.inl (x2 + 1)), none]) rfl rfl ?_
        exact ih x1 (x2 + 1) z4.2
      · refine ev_aload_n hX dX3_canReply_31 rfl ?_
        refine ev_iload_n hX dX3_canReply_32 rfl ?_
        refine ev_callVi hX (k0 := 4) (As := [.inl x2]) (rm := rm_X3_safeTargets) (c_X3_safeTargets l D cI cC td x2 z4.2) (cwV 1 hX.ts gX3_canReply_X3_safeTargets rfl rfl rfl (by decide +kernel) ⟨Nat.le_of_ble_eq_true rfl, Nat.le_of_ble_eq_true rfl⟩) rfl rfl rfl rfl rfl rfl ⟨Nat.le_of_ble_eq_true rfl, Nat.le_of_ble_eq_true rfl⟩ dX3_canReply_33 rfl (fun z5 hz5 => ?_)
        refine ev_if_eq (tgt := 41) hX dX3_canReply_36 (by decide) ?_ ?_
        · refine ev_iinc hX dX3_canReply_41 rfl (v := 1) (by decide +kernel) (L' := [some (.inr (.inl 4)), some (.inl x1), some (.inl (x2 + 1)), none]) rfl ?_
          refine ev_goto (tgt := 10) hX dX3_canReply_44 (by decide) ?_
          refine ev_mask [true, true, true, false] (L' := [some (.inr (.inl 4)), some (.inl x1), some (.inl (x2 + 1)), none]) rfl rfl ?_
          exact ih x1 (x2 + 1) z5.2
        · refine ev_iconst hX dX3_canReply_39 (v := 1) (by decide +kernel) ?_
          exact ev_iretz1 hX hr dX3_canReply_40
set_option maxHeartbeats 4000000 in
set_option maxRecDepth 100000 in
theorem c_X3_canReply (l : Launch) (D : va_G) (cI cC : ClassId) (td : Nat → Option Nat) (w : mvW) : ∀ z, f_X3_canReply w = some z → mv_Ci l D vwCl cI cC tbX td yX3_canReply wsX3_canReply rm_X3_canReply shX w [.inr (.inl 4)] z := by
  refine mv_starti (own := RX3) rfl (by decide) rfl rfl (L0 := [some (.inr (.inl 4)), none, none, none]) rfl (fun p e s m args below meth c A ad0 hX hr => ?_)
  rw [f_X3_canReply]
  refine ev_aload_n hX dX3_canReply_0 rfl ?_
  refine ev_getr (k := 0) hX (T := TX3) in_X3_canReply_X3 rfl rfl rfl (show Cond.fieldLink RX3 28 "FiveShogi$Rules" "position" "LFiveShogi$Position;" ∈ _ by decide +kernel) rfl dX3_canReply_1 ?_
  refine ev_callVi hX (k0 := 1) (As := []) (rm := rm_X2_sideToPlay) (c_X2_sideToPlay l D cI cC td w) (cwV 0 hX.ts gX3_canReply_X2_sideToPlay rfl rfl rfl (by decide +kernel) ⟨Nat.le_of_ble_eq_true rfl, Nat.le_of_ble_eq_true rfl⟩) rfl rfl rfl rfl rfl rfl ⟨Nat.le_of_ble_eq_true rfl, Nat.le_of_ble_eq_true rfl⟩ dX3_canReply_4 rfl (fun z1 hz1 => ?_)
  refine ev_istore_n hX dX3_canReply_7 rfl (L' := [some (.inr (.inl 4)), some (.inl z1.1), none, none]) rfl ?_
  refine ev_iconst hX dX3_canReply_8 (v := 0) (by decide +kernel) ?_
  refine ev_istore_n hX dX3_canReply_9 rfl (L' := [some (.inr (.inl 4)), some (.inl z1.1), some (.inl 0), none]) rfl ?_
  refine ev_mask [true, true, true, false] (L' := [some (.inr (.inl 4)), some (.inl z1.1), some (.inl 0), none]) rfl rfl ?_
  exact e_X3_canReply_10 hX hr 4096 z1.1 0 z1.2
def rm_X3_withoutMates : Room := { frames := 4, cells := 0, slots := 0, locals := 99 }
set_option maxRecDepth 20000 in
theorem in_X3_withoutMates_X3 : ∀ w ∈ u_ws RX3 TX3 6, w ∈ wsX3_withoutMates := by decide +kernel
set_option maxHeartbeats 4000000 in
set_option maxRecDepth 100000 in
theorem e_X3_withoutMates_4 (hX : mv_X p s m args meth c D vwCl cI cC tbX td A cX3_withoutMates 6 RX3 wsX3_withoutMates) (hr : meth.sig.returnType = (some .int)) : ∀ (n : Nat) (x1 : Int32) (x2 : Int32) (x3 : Int32) (w : mvW), EV p l e (headSpec wsX3_withoutMates rm_X3_withoutMates).room s m args below meth c D vwCl cI cC td A (fun a => a = ad0) (mv_Qi below args s D vwCl cI cC shX ad0 A) 0 0 shX [some (.inr (.inl 4)), some (.inl x1), some (.inl x2), some (.inl x3), none, none] [] 4 w (f_X3_withoutMates_4 n x1 x2 x3 w) := by
  intro n
  induction n with
  | zero => intro x1 x2 x3 w; exact ev_none
  | succ n ih =>
    intro x1 x2 x3 w
    rw [f_X3_withoutMates_4]
    refine ev_iload_n hX dX3_withoutMates_4 rfl ?_
    refine ev_bipush hX dX3_withoutMates_5 (v := 25) (by decide +kernel) ?_
    refine ev_icmp_ge (tgt := 79) hX dX3_withoutMates_7 (by decide) ?_ ?_
    · refine ev_iload_n hX dX3_withoutMates_79 rfl ?_
      exact ev_ireti hX hr dX3_withoutMates_80
    · refine ev_iload_n hX dX3_withoutMates_10 rfl ?_
      refine ev_iload_n hX dX3_withoutMates_11 rfl ?_
      refine ev_callNi hX (As := [.inl x1, .inl x3]) (rm := rm_X4_has) (c_X4_has l D cI cC td x1 x3 w) ⟨va_cnB (host := "FiveShogi") 2 hX.ts gX3_withoutMates_X4_has_n76 rfl rfl rfl (hX.sta.2.1 (_, 76, _, _) (List.mem_of_getElem? (i := 8) rfl)) (hX.ts _ (show Cond.initialized RX4 ∈ _ by decide +kernel)) (by decide +kernel) ⟨Nat.le_of_ble_eq_true rfl, Nat.le_of_ble_eq_true rfl⟩, hX.ts _ (show Cond.static yX4_has ∈ _ by decide +kernel), trivial⟩ rfl rfl rfl ⟨Nat.le_of_ble_eq_true rfl, Nat.le_of_ble_eq_true rfl⟩ dX3_withoutMates_12 rfl (fun z1 hz1 => ?_)
      refine ev_if_ne (tgt := 21) hX dX3_withoutMates_15 (by decide) ?_ ?_
      · refine ev_iconst hX dX3_withoutMates_21 (v := 5) (by decide +kernel) ?_
        refine ev_iload_n hX dX3_withoutMates_22 rfl ?_
        refine ev_callNi hX (As := [.inl 5, .inl x3]) (rm := rm_X4_dropNumber) (c_X4_dropNumber l D cI cC td 5 x3 z1.2) ⟨va_cnB (host := "FiveShogi") 2 hX.ts gX3_withoutMates_X4_dropNumber_n117 rfl rfl rfl (hX.sta.2.1 (_, 117, _, _) (List.mem_of_getElem? (i := 16) rfl)) (hX.ts _ (show Cond.initialized RX4 ∈ _ by decide +kernel)) (by decide +kernel) ⟨Nat.le_of_ble_eq_true rfl, Nat.le_of_ble_eq_true rfl⟩, hX.ts _ (show Cond.static yX4_dropNumber ∈ _ by decide +kernel), trivial⟩ rfl rfl rfl ⟨Nat.le_of_ble_eq_true rfl, Nat.le_of_ble_eq_true rfl⟩ dX3_withoutMates_23 rfl (fun z2 hz2 => ?_)
        refine ev_istore hX dX3_withoutMates_26 rfl (L' := [some (.inr (.inl 4)), some (.inl x1), some (.inl x2), some (.inl x3), some (.inl z2.1), none]) rfl ?_
        refine ev_aload_n hX dX3_withoutMates_28 rfl ?_
        refine ev_getr (k := 0) hX (T := TX3) in_X3_withoutMates_X3 rfl rfl rfl (show Cond.fieldLink RX3 28 "FiveShogi$Rules" "position" "LFiveShogi$Position;" ∈ _ by decide +kernel) rfl dX3_withoutMates_29 ?_
        refine ev_iload hX dX3_withoutMates_32 rfl ?_
        refine ev_callVi hX (k0 := 1) (As := [.inl z2.1]) (rm := rm_X2_apply) (c_X2_apply l D cI cC td z2.1 z2.2) (cwV 1 hX.ts gX3_withoutMates_X2_apply rfl rfl rfl (by decide +kernel) ⟨Nat.le_of_ble_eq_true rfl, Nat.le_of_ble_eq_true rfl⟩) rfl rfl rfl rfl rfl rfl ⟨Nat.le_of_ble_eq_true rfl, Nat.le_of_ble_eq_true rfl⟩ dX3_withoutMates_34 rfl (fun z3 hz3 => ?_)
        refine ev_istore hX dX3_withoutMates_37 rfl (L' := [some (.inr (.inl 4)), some (.inl x1), some (.inl x2), some (.inl x3), some (.inl z2.1), some (.inl z3.1)]) rfl ?_
        refine ev_aload_n hX dX3_withoutMates_39 rfl ?_
        refine ev_callVi hX (k0 := 4) (As := []) (rm := rm_X3_isInCheck) (c_X3_isInCheck l D cI cC td z3.2) (cwV 0 hX.ts gX3_withoutMates_X3_isInCheck rfl rfl rfl (by decide +kernel) ⟨Nat.le_of_ble_eq_true rfl, Nat.le_of_ble_eq_true rfl⟩) rfl rfl rfl rfl rfl rfl ⟨Nat.le_of_ble_eq_true rfl, Nat.le_of_ble_eq_true rfl⟩ dX3_withoutMates_40 rfl (fun z4 hz4 => ?_)
        refine ev_if_eq (tgt := 62) hX dX3_withoutMates_43 (by decide) ?_ ?_
        · refine ev_aload_n hX dX3_withoutMates_62 rfl ?_
          refine ev_getr (k := 0) hX (T := TX3) in_X3_withoutMates_X3 rfl rfl rfl (show Cond.fieldLink RX3 28 "FiveShogi$Rules" "position" "LFiveShogi$Position;" ∈ _ by decide +kernel) rfl dX3_withoutMates_63 ?_
          refine ev_iload hX dX3_withoutMates_66 rfl ?_
          refine ev_iload hX dX3_withoutMates_68 rfl ?_
          refine ev_callVv hX (k0 := 1) (As := [.inl z2.1, .inl z3.1]) (rm := rm_X2_takeBack) (c_X2_takeBack l D cI cC td z2.1 z3.1 z4.2) (cwV 2 hX.ts gX3_withoutMates_X2_takeBack rfl rfl rfl (by decide +kernel) ⟨Nat.le_of_ble_eq_true rfl, Nat.le_of_ble_eq_true rfl⟩) rfl rfl rfl rfl rfl rfl ⟨Nat.le_of_ble_eq_true rfl, Nat.le_of_ble_eq_true rfl⟩ dX3_withoutMates_70 rfl (fun z5 hz5 => ?_)
          refine ev_iinc hX dX3_withoutMates_73 rfl (v := 1) (by decide +kernel) (L' := [some (.inr (.inl 4)), some (.inl x1), some (.inl x2), some (.inl (x3 + 1)), some (.inl z2.1), some (.inl z3.1)]) rfl ?_
          refine ev_goto (tgt := 4) hX dX3_withoutMates_76 (by decide) ?_
          refine ev_mask [true, true, true, true, false, false] (L' := [some (.inr (.inl 4)), some (.inl x1), some (.inl x2), some (.inl (x3 + 1)), none, none]) rfl rfl ?_
          exact ih x1 x2 (x3 + 1) z5
        · refine ev_aload_n hX dX3_withoutMates_46 rfl ?_
          refine ev_callVi hX (k0 := 4) (As := []) (rm := rm_X3_canReply) (c_X3_canReply l D cI cC td z4.2) (cwV 0 hX.ts gX3_withoutMates_X3_canReply rfl rfl rfl (by decide +kernel) ⟨Nat.le_of_ble_eq_true rfl, Nat.le_of_ble_eq_true rfl⟩) rfl rfl rfl rfl rfl rfl ⟨Nat.le_of_ble_eq_true rfl, Nat.le_of_ble_eq_true rfl⟩ dX3_withoutMates_47 rfl (fun z6 hz6 => ?_)
          refine ev_if_ne (tgt := 62) hX dX3_withoutMates_50 (by decide) ?_ ?_
          · refine ev_aload_n hX dX3_withoutMates_62 rfl ?_
            refine ev_getr (k := 0) hX (T := TX3) in_X3_withoutMates_X3 rfl rfl rfl (show Cond.fieldLink RX3 28 "FiveShogi$Rules" "position" "LFiveShogi$Position;" ∈ _ by decide +kernel) rfl dX3_withoutMates_63 ?_
            refine ev_iload hX dX3_withoutMates_66 rfl ?_
            refine ev_iload hX dX3_withoutMates_68 rfl ?_
            refine ev_callVv hX (k0 := 1) (As := [.inl z2.1, .inl z3.1]) (rm := rm_X2_takeBack) (c_X2_takeBack l D cI cC td z2.1 z3.1 z6.2) (cwV 2 hX.ts gX3_withoutMates_X2_takeBack rfl rfl rfl (by decide +kernel) ⟨Nat.le_of_ble_eq_true rfl, Nat.le_of_ble_eq_true rfl⟩) rfl rfl rfl rfl rfl rfl ⟨Nat.le_of_ble_eq_true rfl, Nat.le_of_ble_eq_true rfl⟩ dX3_withoutMates_70 rfl (fun z7 hz7 => ?_)
            refine ev_iinc hX dX3_withoutMates_73 rfl (v := 1) (by decide +kernel) (L' := [some (.inr (.inl 4)), some (.inl x1), some (.inl x2), some (.inl (x3 + 1)), some (.inl z2.1), some (.inl z3.1)]) rfl ?_
            refine ev_goto (tgt := 4) hX dX3_withoutMates_76 (by decide) ?_
            refine ev_mask [true, true, true, true, false, false] (L' := [some (.inr (.inl 4)), some (.inl x1), some (.inl x2), some (.inl (x3 + 1)), none, none]) rfl rfl ?_
            exact ih x1 x2 (x3 + 1) z7
          · refine ev_iload_n hX dX3_withoutMates_53 rfl ?_
            refine ev_iload_n hX dX3_withoutMates_54 rfl ?_
            refine ev_callNi hX (As := [.inl x3]) (rm := rm_X4_bit) (c_X4_bit l D cI cC td x3 z6.2) ⟨va_cnB (host := "FiveShogi") 1 hX.ts gX3_withoutMates_X4_bit_n104 rfl rfl rfl (hX.sta.2.1 (_, 104, _, _) (List.mem_of_getElem? (i := 12) rfl)) (hX.ts _ (show Cond.initialized RX4 ∈ _ by decide +kernel)) (by decide +kernel) ⟨Nat.le_of_ble_eq_true rfl, Nat.le_of_ble_eq_true rfl⟩, hX.ts _ (show Cond.static yX4_bit ∈ _ by decide +kernel), trivial⟩ rfl rfl rfl ⟨Nat.le_of_ble_eq_true rfl, Nat.le_of_ble_eq_true rfl⟩ dX3_withoutMates_55 rfl (fun z8 hz8 => ?_)
            refine ev_iconst hX dX3_withoutMates_58 (v := (-1)) (by decide +kernel) ?_
            refine ev_ixor hX dX3_withoutMates_59 ?_
            refine ev_iand hX dX3_withoutMates_60 ?_
            refine ev_istore_n hX dX3_withoutMates_61 rfl (L' := [some (.inr (.inl 4)), some (.inl x1), some (.inl (x2 &&& (z8.1 ^^^ (-1)))), some (.inl x3), some (.inl z2.1), some (.inl z3.1)]) rfl ?_
            refine ev_aload_n hX dX3_withoutMates_62 rfl ?_
            refine ev_getr (k := 0) hX (T := TX3) in_X3_withoutMates_X3 rfl rfl rfl (show Cond.fieldLink RX3 28 "FiveShogi$Rules" "position" "LFiveShogi$Position;" ∈ _ by decide +kernel) rfl dX3_withoutMates_63 ?_
            refine ev_iload hX dX3_withoutMates_66 rfl ?_
            refine ev_iload hX dX3_withoutMates_68 rfl ?_
            refine ev_callVv hX (k0 := 1) (As := [.inl z2.1, .inl z3.1]) (rm := rm_X2_takeBack) (c_X2_takeBack l D cI cC td z2.1 z3.1 z8.2) (cwV 2 hX.ts gX3_withoutMates_X2_takeBack rfl rfl rfl (by decide +kernel) ⟨Nat.le_of_ble_eq_true rfl, Nat.le_of_ble_eq_true rfl⟩) rfl rfl rfl rfl rfl rfl ⟨Nat.le_of_ble_eq_true rfl, Nat.le_of_ble_eq_true rfl⟩ dX3_withoutMates_70 rfl (fun z9 hz9 => ?_)
            refine ev_iinc hX dX3_withoutMates_73 rfl (v := 1) (by decide +kernel) (L' := [some (.inr (.inl 4)), some (.inl x1), some (.inl (x2 &&& (z8.1 ^^^ (-1)))), some (.inl (x3 + 1)), some (.inl z2.1), some (.inl z3.1)]) rfl ?_
            refine ev_goto (tgt := 4) hX dX3_withoutMates_76 (by decide) ?_
            refine ev_mask [true, true, true, true, false, false] (L' := [some (.inr (.inl 4)), some (.inl x1), some (.inl (x2 &&& (z8.1 ^^^ (-1)))), some (.inl (x3 + 1)), none, none]) rfl rfl ?_
            exact ih x1 (x2 &&& (z8.1 ^^^ (-1))) (x3 + 1) z9
      · refine ev_goto (tgt := 73) hX dX3_withoutMates_18 (by decide) ?_
        refine ev_iinc hX dX3_withoutMates_73 rfl (v := 1) (by decide +kernel) (L' := [some (.inr (.inl 4)), some (.inl x1), some (.inl x2), some (.inl (x3 + 1)), none, none]) rfl ?_
        refine ev_goto (tgt := 4) hX dX3_withoutMates_76 (by decide) ?_
        refine ev_mask [true, true, true, true, false, false] (L' := [some (.inr (.inl 4)), some (.inl x1), some (.inl x2), some (.inl (x3 + 1)), none, none]) rfl rfl ?_
        exact ih x1 x2 (x3 + 1) z1.2
set_option maxHeartbeats 4000000 in
set_option maxRecDepth 100000 in
theorem c_X3_withoutMates (l : Launch) (D : va_G) (cI cC : ClassId) (td : Nat → Option Nat) (a1 : Int32) (w : mvW) : ∀ z, f_X3_withoutMates a1 w = some z → mv_Ci l D vwCl cI cC tbX td yX3_withoutMates wsX3_withoutMates rm_X3_withoutMates shX w [.inr (.inl 4), .inl a1] z := by
  refine mv_starti (own := RX3) rfl (by decide) rfl rfl (L0 := [some (.inr (.inl 4)), some (.inl a1), none, none, none, none]) rfl (fun p e s m args below meth c A ad0 hX hr => ?_)
  rw [f_X3_withoutMates]
  refine ev_iload_n hX dX3_withoutMates_0 rfl ?_
  refine ev_istore_n hX dX3_withoutMates_1 rfl (L' := [some (.inr (.inl 4)), some (.inl a1), some (.inl a1), none, none, none]) rfl ?_
  refine ev_iconst hX dX3_withoutMates_2 (v := 0) (by decide +kernel) ?_
  refine ev_istore_n hX dX3_withoutMates_3 rfl (L' := [some (.inr (.inl 4)), some (.inl a1), some (.inl a1), some (.inl 0), none, none]) rfl ?_
  refine ev_mask [true, true, true, true, false, false] (L' := [some (.inr (.inl 4)), some (.inl a1), some (.inl a1), some (.inl 0), none, none]) rfl rfl ?_
  exact e_X3_withoutMates_4 hX hr 4096 a1 a1 0 w
def rm_X3_whyNoDrop : Room := { frames := 5, cells := 0, slots := 0, locals := 124 }
set_option maxRecDepth 20000 in
theorem in_X3_whyNoDrop_X3 : ∀ w ∈ u_ws RX3 TX3 6, w ∈ wsX3_whyNoDrop := by decide +kernel
set_option maxHeartbeats 4000000 in
set_option maxRecDepth 100000 in
theorem e_X3_whyNoDrop_74 (hX : mv_X p s m args meth c D vwCl cI cC tbX td A cX3_whyNoDrop 4 RX3 wsX3_whyNoDrop) (hr : meth.sig.returnType = (some .int)) (x1 : Int32) (x2 : Int32) (w : mvW) : EV p l e (headSpec wsX3_whyNoDrop rm_X3_whyNoDrop).room s m args below meth c D vwCl cI cC td A (fun a => a = ad0) (mv_Qi below args s D vwCl cI cC shX ad0 A) 0 0 shX [some (.inr (.inl 4)), some (.inl x1), some (.inl x2), none] [] 74 w (f_X3_whyNoDrop_74 x1 x2 w) := by
  rw [f_X3_whyNoDrop_74]
  refine ev_aload_n hX dX3_whyNoDrop_74 rfl ?_
  refine ev_callVi hX (k0 := 4) (As := []) (rm := rm_X3_safeDrops) (c_X3_safeDrops l D cI cC td w) (cwV 0 hX.ts gX3_whyNoDrop_X3_safeDrops rfl rfl rfl (by decide +kernel) ⟨Nat.le_of_ble_eq_true rfl, Nat.le_of_ble_eq_true rfl⟩) rfl rfl rfl rfl rfl rfl ⟨Nat.le_of_ble_eq_true rfl, Nat.le_of_ble_eq_true rfl⟩ dX3_whyNoDrop_75 rfl (fun z8 hz8 => ?_)
  refine ev_iload_n hX dX3_whyNoDrop_78 rfl ?_
  refine ev_callNi hX (As := [.inl z8.1, .inl x2]) (rm := rm_X4_has) (c_X4_has l D cI cC td z8.1 x2 z8.2) ⟨va_cnB (host := "FiveShogi") 2 hX.ts gX3_whyNoDrop_X4_has_n76 rfl rfl rfl (hX.sta.2.1 (_, 76, _, _) (List.mem_of_getElem? (i := 8) rfl)) (hX.ts _ (show Cond.initialized RX4 ∈ _ by decide +kernel)) (by decide +kernel) ⟨Nat.le_of_ble_eq_true rfl, Nat.le_of_ble_eq_true rfl⟩, hX.ts _ (show Cond.static yX4_has ∈ _ by decide +kernel), trivial⟩ rfl rfl rfl ⟨Nat.le_of_ble_eq_true rfl, Nat.le_of_ble_eq_true rfl⟩ dX3_whyNoDrop_79 rfl (fun z9 hz9 => ?_)
  refine ev_if_ne (tgt := 87) hX dX3_whyNoDrop_82 (by decide) ?_ ?_
  · refine ev_iload_n hX dX3_whyNoDrop_87 rfl ?_
    refine ev_iconst hX dX3_whyNoDrop_88 (v := 5) (by decide +kernel) ?_
    refine ev_icmp_ne (tgt := 108) hX dX3_whyNoDrop_89 (by decide) ?_ ?_
    · refine ev_iconst hX dX3_whyNoDrop_108 (v := 0) (by decide +kernel) ?_
      exact ev_ireti hX hr dX3_whyNoDrop_109
    · refine ev_aload_n hX dX3_whyNoDrop_92 rfl ?_
      refine ev_iload_n hX dX3_whyNoDrop_93 rfl ?_
      refine ev_callNi hX (As := [.inl x2]) (rm := rm_X4_bit) (c_X4_bit l D cI cC td x2 z9.2) ⟨va_cnB (host := "FiveShogi") 1 hX.ts gX3_whyNoDrop_X4_bit_n104 rfl rfl rfl (hX.sta.2.1 (_, 104, _, _) (List.mem_of_getElem? (i := 12) rfl)) (hX.ts _ (show Cond.initialized RX4 ∈ _ by decide +kernel)) (by decide +kernel) ⟨Nat.le_of_ble_eq_true rfl, Nat.le_of_ble_eq_true rfl⟩, hX.ts _ (show Cond.static yX4_bit ∈ _ by decide +kernel), trivial⟩ rfl rfl rfl ⟨Nat.le_of_ble_eq_true rfl, Nat.le_of_ble_eq_true rfl⟩ dX3_whyNoDrop_94 rfl (fun z10 hz10 => ?_)
      refine ev_callVi hX (k0 := 4) (As := [.inl z10.1]) (rm := rm_X3_withoutMates) (c_X3_withoutMates l D cI cC td z10.1 z10.2) (cwV 1 hX.ts gX3_whyNoDrop_X3_withoutMates rfl rfl rfl (by decide +kernel) ⟨Nat.le_of_ble_eq_true rfl, Nat.le_of_ble_eq_true rfl⟩) rfl rfl rfl rfl rfl rfl ⟨Nat.le_of_ble_eq_true rfl, Nat.le_of_ble_eq_true rfl⟩ dX3_whyNoDrop_97 rfl (fun z11 hz11 => ?_)
      refine ev_if_ne (tgt := 108) hX dX3_whyNoDrop_100 (by decide) ?_ ?_
      · refine ev_iconst hX dX3_whyNoDrop_108 (v := 0) (by decide +kernel) ?_
        exact ev_ireti hX hr dX3_whyNoDrop_109
      · refine ev_bipush hX dX3_whyNoDrop_103 (v := 6) (by decide +kernel) ?_
        refine ev_goto (tgt := 109) hX dX3_whyNoDrop_105 (by decide) ?_
        exact ev_ireti hX hr dX3_whyNoDrop_109
  · refine ev_iconst hX dX3_whyNoDrop_85 (v := 5) (by decide +kernel) ?_
    exact ev_ireti hX hr dX3_whyNoDrop_86
set_option maxHeartbeats 4000000 in
set_option maxRecDepth 100000 in
theorem e_X3_whyNoDrop_55 (hX : mv_X p s m args meth c D vwCl cI cC tbX td A cX3_whyNoDrop 4 RX3 wsX3_whyNoDrop) (hr : meth.sig.returnType = (some .int)) (x1 : Int32) (x2 : Int32) (x3 : Int32) (w : mvW) : EV p l e (headSpec wsX3_whyNoDrop rm_X3_whyNoDrop).room s m args below meth c D vwCl cI cC td A (fun a => a = ad0) (mv_Qi below args s D vwCl cI cC shX ad0 A) 0 0 shX [some (.inr (.inl 4)), some (.inl x1), some (.inl x2), some (.inl x3)] [] 55 w (f_X3_whyNoDrop_55 x1 x2 x3 w) := by
  rw [f_X3_whyNoDrop_55]
  refine ev_iload_n hX dX3_whyNoDrop_55 rfl ?_
  refine ev_iconst hX dX3_whyNoDrop_56 (v := 5) (by decide +kernel) ?_
  refine ev_icmp_ne (tgt := 74) hX dX3_whyNoDrop_57 (by decide) ?_ ?_
  · refine ev_mask [true, true, true, false] (L' := [some (.inr (.inl 4)), some (.inl x1), some (.inl x2), none]) rfl rfl ?_
    exact e_X3_whyNoDrop_74 hX hr x1 x2 w
  · refine ev_aload_n hX dX3_whyNoDrop_60 rfl ?_
    refine ev_iload_n hX dX3_whyNoDrop_61 rfl ?_
    refine ev_callVi hX (k0 := 4) (As := [.inl x3]) (rm := rm_X3_pawnColumns) (c_X3_pawnColumns l D cI cC td x3 w) (cwV 1 hX.ts gX3_whyNoDrop_X3_pawnColumns rfl rfl rfl (by decide +kernel) ⟨Nat.le_of_ble_eq_true rfl, Nat.le_of_ble_eq_true rfl⟩) rfl rfl rfl rfl rfl rfl ⟨Nat.le_of_ble_eq_true rfl, Nat.le_of_ble_eq_true rfl⟩ dX3_whyNoDrop_62 rfl (fun z6 hz6 => ?_)
    refine ev_iload_n hX dX3_whyNoDrop_65 rfl ?_
    refine ev_callNi hX (As := [.inl z6.1, .inl x2]) (rm := rm_X4_has) (c_X4_has l D cI cC td z6.1 x2 z6.2) ⟨va_cnB (host := "FiveShogi") 2 hX.ts gX3_whyNoDrop_X4_has_n76 rfl rfl rfl (hX.sta.2.1 (_, 76, _, _) (List.mem_of_getElem? (i := 8) rfl)) (hX.ts _ (show Cond.initialized RX4 ∈ _ by decide +kernel)) (by decide +kernel) ⟨Nat.le_of_ble_eq_true rfl, Nat.le_of_ble_eq_true rfl⟩, hX.ts _ (show Cond.static yX4_has ∈ _ by decide +kernel), trivial⟩ rfl rfl rfl ⟨Nat.le_of_ble_eq_true rfl, Nat.le_of_ble_eq_true rfl⟩ dX3_whyNoDrop_66 rfl (fun z7 hz7 => ?_)
    refine ev_if_eq (tgt := 74) hX dX3_whyNoDrop_69 (by decide) ?_ ?_
    · refine ev_mask [true, true, true, false] (L' := [some (.inr (.inl 4)), some (.inl x1), some (.inl x2), none]) rfl rfl ?_
      exact e_X3_whyNoDrop_74 hX hr x1 x2 z7.2
    · refine ev_iconst hX dX3_whyNoDrop_72 (v := 4) (by decide +kernel) ?_
      exact ev_ireti hX hr dX3_whyNoDrop_73
set_option maxHeartbeats 4000000 in
set_option maxRecDepth 100000 in
theorem c_X3_whyNoDrop (l : Launch) (D : va_G) (cI cC : ClassId) (td : Nat → Option Nat) (a1 : Int32) (a2 : Int32) (w : mvW) : ∀ z, f_X3_whyNoDrop a1 a2 w = some z → mv_Ci l D vwCl cI cC tbX td yX3_whyNoDrop wsX3_whyNoDrop rm_X3_whyNoDrop shX w [.inr (.inl 4), .inl a1, .inl a2] z := by
  refine mv_starti (own := RX3) rfl (by decide) rfl rfl (L0 := [some (.inr (.inl 4)), some (.inl a1), some (.inl a2), none]) rfl (fun p e s m args below meth c A ad0 hX hr => ?_)
  rw [f_X3_whyNoDrop]
  refine ev_aload_n hX dX3_whyNoDrop_0 rfl ?_
  refine ev_getr (k := 0) hX (T := TX3) in_X3_whyNoDrop_X3 rfl rfl rfl (show Cond.fieldLink RX3 28 "FiveShogi$Rules" "position" "LFiveShogi$Position;" ∈ _ by decide +kernel) rfl dX3_whyNoDrop_1 ?_
  refine ev_callVi hX (k0 := 1) (As := []) (rm := rm_X2_sideToPlay) (c_X2_sideToPlay l D cI cC td w) (cwV 0 hX.ts gX3_whyNoDrop_X2_sideToPlay rfl rfl rfl (by decide +kernel) ⟨Nat.le_of_ble_eq_true rfl, Nat.le_of_ble_eq_true rfl⟩) rfl rfl rfl rfl rfl rfl ⟨Nat.le_of_ble_eq_true rfl, Nat.le_of_ble_eq_true rfl⟩ dX3_whyNoDrop_4 rfl (fun z1 hz1 => ?_)
  refine ev_istore_n hX dX3_whyNoDrop_7 rfl (L' := [some (.inr (.inl 4)), some (.inl a1), some (.inl a2), some (.inl z1.1)]) rfl ?_
  refine ev_aload_n hX dX3_whyNoDrop_8 rfl ?_
  refine ev_getr (k := 0) hX (T := TX3) in_X3_whyNoDrop_X3 rfl rfl rfl (show Cond.fieldLink RX3 28 "FiveShogi$Rules" "position" "LFiveShogi$Position;" ∈ _ by decide +kernel) rfl dX3_whyNoDrop_9 ?_
  refine ev_iload_n hX dX3_whyNoDrop_12 rfl ?_
  refine ev_iload_n hX dX3_whyNoDrop_13 rfl ?_
  refine ev_callVi hX (k0 := 1) (As := [.inl z1.1, .inl a1]) (rm := rm_X2_inHand) (c_X2_inHand l D cI cC td z1.1 a1 z1.2) (cwV 2 hX.ts gX3_whyNoDrop_X2_inHand rfl rfl rfl (by decide +kernel) ⟨Nat.le_of_ble_eq_true rfl, Nat.le_of_ble_eq_true rfl⟩) rfl rfl rfl rfl rfl rfl ⟨Nat.le_of_ble_eq_true rfl, Nat.le_of_ble_eq_true rfl⟩ dX3_whyNoDrop_14 rfl (fun z2 hz2 => ?_)
  refine ev_if_ne (tgt := 22) hX dX3_whyNoDrop_17 (by decide) ?_ ?_
  · refine ev_aload_n hX dX3_whyNoDrop_22 rfl ?_
    refine ev_getr (k := 0) hX (T := TX3) in_X3_whyNoDrop_X3 rfl rfl rfl (show Cond.fieldLink RX3 28 "FiveShogi$Rules" "position" "LFiveShogi$Position;" ∈ _ by decide +kernel) rfl dX3_whyNoDrop_23 ?_
    refine ev_iload_n hX dX3_whyNoDrop_26 rfl ?_
    refine ev_callVi hX (k0 := 1) (As := [.inl a2]) (rm := rm_X2_manOn) (c_X2_manOn l D cI cC td a2 z2.2) (cwV 1 hX.ts gX3_whyNoDrop_X2_manOn rfl rfl rfl (by decide +kernel) ⟨Nat.le_of_ble_eq_true rfl, Nat.le_of_ble_eq_true rfl⟩) rfl rfl rfl rfl rfl rfl ⟨Nat.le_of_ble_eq_true rfl, Nat.le_of_ble_eq_true rfl⟩ dX3_whyNoDrop_27 rfl (fun z3 hz3 => ?_)
    refine ev_bipush hX dX3_whyNoDrop_30 (v := 99) (by decide +kernel) ?_
    refine ev_icmp_eq (tgt := 37) hX dX3_whyNoDrop_32 (by decide) ?_ ?_
    · refine ev_iload_n hX dX3_whyNoDrop_37 rfl ?_
      refine ev_iconst hX dX3_whyNoDrop_38 (v := 5) (by decide +kernel) ?_
      refine ev_icmp_ne (tgt := 55) hX dX3_whyNoDrop_39 (by decide) ?_ ?_
      · refine ev_mask [true, true, true, true] (L' := [some (.inr (.inl 4)), some (.inl a1), some (.inl a2), some (.inl z1.1)]) rfl rfl ?_
        exact e_X3_whyNoDrop_55 hX hr a1 a2 z1.1 z3.2
      · refine ev_iload_n hX dX3_whyNoDrop_42 rfl ?_
        refine ev_callNi hX (As := [.inl z1.1]) (rm := rm_X4_lastRow) (c_X4_lastRow l D cI cC td z1.1 z3.2) ⟨va_cnB (host := "FiveShogi") 1 hX.ts gX3_whyNoDrop_X4_lastRow_n95 rfl rfl rfl (hX.sta.2.1 (_, 95, _, _) (List.mem_of_getElem? (i := 10) rfl)) (hX.ts _ (show Cond.initialized RX4 ∈ _ by decide +kernel)) (by decide +kernel) ⟨Nat.le_of_ble_eq_true rfl, Nat.le_of_ble_eq_true rfl⟩, hX.ts _ (show Cond.static yX4_lastRow ∈ _ by decide +kernel), trivial⟩ rfl rfl rfl ⟨Nat.le_of_ble_eq_true rfl, Nat.le_of_ble_eq_true rfl⟩ dX3_whyNoDrop_43 rfl (fun z4 hz4 => ?_)
        refine ev_iload_n hX dX3_whyNoDrop_46 rfl ?_
        refine ev_callNi hX (As := [.inl z4.1, .inl a2]) (rm := rm_X4_has) (c_X4_has l D cI cC td z4.1 a2 z4.2) ⟨va_cnB (host := "FiveShogi") 2 hX.ts gX3_whyNoDrop_X4_has_n76 rfl rfl rfl (hX.sta.2.1 (_, 76, _, _) (List.mem_of_getElem? (i := 8) rfl)) (hX.ts _ (show Cond.initialized RX4 ∈ _ by decide +kernel)) (by decide +kernel) ⟨Nat.le_of_ble_eq_true rfl, Nat.le_of_ble_eq_true rfl⟩, hX.ts _ (show Cond.static yX4_has ∈ _ by decide +kernel), trivial⟩ rfl rfl rfl ⟨Nat.le_of_ble_eq_true rfl, Nat.le_of_ble_eq_true rfl⟩ dX3_whyNoDrop_47 rfl (fun z5 hz5 => ?_)
        refine ev_if_eq (tgt := 55) hX dX3_whyNoDrop_50 (by decide) ?_ ?_
        · refine ev_mask [true, true, true, true] (L' := [some (.inr (.inl 4)), some (.inl a1), some (.inl a2), some (.inl z1.1)]) rfl rfl ?_
          exact e_X3_whyNoDrop_55 hX hr a1 a2 z1.1 z5.2
        · refine ev_iconst hX dX3_whyNoDrop_53 (v := 3) (by decide +kernel) ?_
          exact ev_ireti hX hr dX3_whyNoDrop_54
    · refine ev_iconst hX dX3_whyNoDrop_35 (v := 2) (by decide +kernel) ?_
      exact ev_ireti hX hr dX3_whyNoDrop_36
  · refine ev_iconst hX dX3_whyNoDrop_20 (v := 1) (by decide +kernel) ?_
    exact ev_ireti hX hr dX3_whyNoDrop_21
def rm_X4_drop : Room := { frames := 6, cells := 0, slots := 0, locals := 147 }
set_option maxRecDepth 20000 in
theorem in_X4_drop_X4 : ∀ w ∈ u_ws RX4 TX4 7, w ∈ wsX4_drop := by decide +kernel
set_option maxHeartbeats 4000000 in
set_option maxRecDepth 100000 in
theorem c_X4_drop (l : Launch) (D : va_G) (cI cC : ClassId) (td : Nat → Option Nat) (a1 : Int32) (a2 : Int32) (w : mvW) : ∀ z, f_X4_drop a1 a2 w = some z → mv_Ci l D vwCl cI cC tbX td yX4_drop wsX4_drop rm_X4_drop shX w [.inr (.inl 0), .inl a1, .inl a2] z := by
  refine mv_starti (own := RX4) rfl (by decide) rfl rfl (L0 := [some (.inr (.inl 0)), some (.inl a1), some (.inl a2), none]) rfl (fun p e s m args below meth c A ad0 hX hr => ?_)
  rw [f_X4_drop]
  refine ev_iload_n hX dX4_drop_0 rfl ?_
  refine ev_callSi hX (As := [.inl a1]) (rm := rm_X4_isHandKind) (c_X4_isHandKind l D cI cC td a1 w) (cwS 1 hX.ts gX4_drop_X4_isHandKind rfl rfl rfl (by decide +kernel) ⟨Nat.le_of_ble_eq_true rfl, Nat.le_of_ble_eq_true rfl⟩) rfl rfl rfl ⟨Nat.le_of_ble_eq_true rfl, Nat.le_of_ble_eq_true rfl⟩ dX4_drop_1 rfl (fun z1 hz1 => ?_)
  refine ev_if_eq (tgt := 14) hX dX4_drop_4 (by decide) ?_ ?_
  · refine ev_sipush hX dX4_drop_14 (v := (-1001)) (by decide +kernel) ?_
    exact ev_ireti hX hr dX4_drop_17
  · refine ev_iload_n hX dX4_drop_7 rfl ?_
    refine ev_callSi hX (As := [.inl a2]) (rm := rm_X4_isSquare) (c_X4_isSquare l D cI cC td a2 z1.2) (cwS 1 hX.ts gX4_drop_X4_isSquare rfl rfl rfl (by decide +kernel) ⟨Nat.le_of_ble_eq_true rfl, Nat.le_of_ble_eq_true rfl⟩) rfl rfl rfl ⟨Nat.le_of_ble_eq_true rfl, Nat.le_of_ble_eq_true rfl⟩ dX4_drop_8 rfl (fun z2 hz2 => ?_)
    refine ev_if_ne (tgt := 18) hX dX4_drop_11 (by decide) ?_ ?_
    · refine ev_aload_n hX dX4_drop_18 rfl ?_
      refine ev_getr (k := 1) hX (T := TX4) in_X4_drop_X4 rfl rfl rfl (show Cond.fieldLink RX4 21 "FiveShogi" "rules" "LFiveShogi$Rules;" ∈ _ by decide +kernel) rfl dX4_drop_19 ?_
      refine ev_iload_n hX dX4_drop_22 rfl ?_
      refine ev_iload_n hX dX4_drop_23 rfl ?_
      refine ev_callVi hX (k0 := 4) (As := [.inl a1, .inl a2]) (rm := rm_X3_whyNoDrop) (c_X3_whyNoDrop l D cI cC td a1 a2 z2.2) (cwV 2 hX.ts gX4_drop_X3_whyNoDrop rfl rfl rfl (by decide +kernel) ⟨Nat.le_of_ble_eq_true rfl, Nat.le_of_ble_eq_true rfl⟩) rfl rfl rfl rfl rfl rfl ⟨Nat.le_of_ble_eq_true rfl, Nat.le_of_ble_eq_true rfl⟩ dX4_drop_24 rfl (fun z3 hz3 => ?_)
      refine ev_if_eq (tgt := 34) hX dX4_drop_27 (by decide) ?_ ?_
      · refine ev_aload_n hX dX4_drop_34 rfl ?_
        refine ev_getr (k := 0) hX (T := TX4) in_X4_drop_X4 rfl rfl rfl (show Cond.fieldLink RX4 12 "FiveShogi" "position" "LFiveShogi$Position;" ∈ _ by decide +kernel) rfl dX4_drop_35 ?_
        refine ev_callVi hX (k0 := 1) (As := []) (rm := rm_X2_sideToPlay) (c_X2_sideToPlay l D cI cC td z3.2) (cwV 0 hX.ts gX4_drop_X2_sideToPlay rfl rfl rfl (by decide +kernel) ⟨Nat.le_of_ble_eq_true rfl, Nat.le_of_ble_eq_true rfl⟩) rfl rfl rfl rfl rfl rfl ⟨Nat.le_of_ble_eq_true rfl, Nat.le_of_ble_eq_true rfl⟩ dX4_drop_38 rfl (fun z4 hz4 => ?_)
        refine ev_istore_n hX dX4_drop_41 rfl (L' := [some (.inr (.inl 0)), some (.inl a1), some (.inl a2), some (.inl z4.1)]) rfl ?_
        refine ev_aload_n hX dX4_drop_42 rfl ?_
        refine ev_callVv hX (k0 := 0) (As := []) (rm := rm_X4_recordChange) (c_X4_recordChange l D cI cC td z4.2) (cwV 0 hX.ts gX4_drop_X4_recordChange rfl rfl rfl (by decide +kernel) ⟨Nat.le_of_ble_eq_true rfl, Nat.le_of_ble_eq_true rfl⟩) rfl rfl rfl rfl rfl rfl ⟨Nat.le_of_ble_eq_true rfl, Nat.le_of_ble_eq_true rfl⟩ dX4_drop_43 rfl (fun z5 hz5 => ?_)
        refine ev_aload_n hX dX4_drop_46 rfl ?_
        refine ev_getr (k := 0) hX (T := TX4) in_X4_drop_X4 rfl rfl rfl (show Cond.fieldLink RX4 12 "FiveShogi" "position" "LFiveShogi$Position;" ∈ _ by decide +kernel) rfl dX4_drop_47 ?_
        refine ev_iload_n hX dX4_drop_50 rfl ?_
        refine ev_iload_n hX dX4_drop_51 rfl ?_
        refine ev_callSi hX (As := [.inl a1, .inl a2]) (rm := rm_X4_dropNumber) (c_X4_dropNumber l D cI cC td a1 a2 z5) (cwS 2 hX.ts gX4_drop_X4_dropNumber rfl rfl rfl (by decide +kernel) ⟨Nat.le_of_ble_eq_true rfl, Nat.le_of_ble_eq_true rfl⟩) rfl rfl rfl ⟨Nat.le_of_ble_eq_true rfl, Nat.le_of_ble_eq_true rfl⟩ dX4_drop_52 rfl (fun z6 hz6 => ?_)
        refine ev_callVi hX (k0 := 1) (As := [.inl z6.1]) (rm := rm_X2_play) (c_X2_play l D cI cC td z6.1 z6.2) (cwV 1 hX.ts gX4_drop_X2_play rfl rfl rfl (by decide +kernel) ⟨Nat.le_of_ble_eq_true rfl, Nat.le_of_ble_eq_true rfl⟩) rfl rfl rfl rfl rfl rfl ⟨Nat.le_of_ble_eq_true rfl, Nat.le_of_ble_eq_true rfl⟩ dX4_drop_55 rfl (fun z7 hz7 => ?_)
        refine ev_pop hX dX4_drop_58 ?_
        refine ev_aload_n hX dX4_drop_59 rfl ?_
        refine ev_getr (k := 0) hX (T := TX4) in_X4_drop_X4 rfl rfl rfl (show Cond.fieldLink RX4 12 "FiveShogi" "position" "LFiveShogi$Position;" ∈ _ by decide +kernel) rfl dX4_drop_60 ?_
        refine ev_iload_n hX dX4_drop_63 rfl ?_
        refine ev_iload_n hX dX4_drop_64 rfl ?_
        refine ev_callVi hX (k0 := 1) (As := [.inl z4.1, .inl a1]) (rm := rm_X2_inHand) (c_X2_inHand l D cI cC td z4.1 a1 z7.2) (cwV 2 hX.ts gX4_drop_X2_inHand rfl rfl rfl (by decide +kernel) ⟨Nat.le_of_ble_eq_true rfl, Nat.le_of_ble_eq_true rfl⟩) rfl rfl rfl rfl rfl rfl ⟨Nat.le_of_ble_eq_true rfl, Nat.le_of_ble_eq_true rfl⟩ dX4_drop_65 rfl (fun z8 hz8 => ?_)
        exact ev_ireti hX hr dX4_drop_68
      · refine ev_sipush hX dX4_drop_30 (v := (-1004)) (by decide +kernel) ?_
        exact ev_ireti hX hr dX4_drop_33
    · refine ev_sipush hX dX4_drop_14 (v := (-1001)) (by decide +kernel) ?_
      exact ev_ireti hX hr dX4_drop_17
def rm_X5_isInHand : Room := { frames := 1, cells := 0, slots := 0, locals := 22 }
set_option maxHeartbeats 4000000 in
set_option maxRecDepth 100000 in
theorem c_X5_isInHand (l : Launch) (D : va_G) (cI cC : ClassId) (td : Nat → Option Nat) (a0 : Int32) (w : mvW) : ∀ z, f_X5_isInHand a0 w = some z → mv_Ci l D vwCl cI cC tbX td yX5_isInHand wsX5_isInHand rm_X5_isInHand shM w [.inl a0] z := by
  refine mv_starti (own := RX5) rfl (by decide) rfl rfl (L0 := [some (.inl a0)]) rfl (fun p e s m args below meth c A ad0 hX hr => ?_)
  rw [f_X5_isInHand]
  refine ev_iload_n hX dX5_isInHand_0 rfl ?_
  refine ev_iconst hX dX5_isInHand_1 (v := 1) (by decide +kernel) ?_
  refine ev_iconst hX dX5_isInHand_2 (v := 5) (by decide +kernel) ?_
  refine ev_callSi hX (As := [.inl a0, .inl 1, .inl 5]) (rm := rm_X5_in) (c_X5_in l D cI cC td a0 1 5 w) (cwS 3 hX.ts gX5_isInHand_X5_in rfl rfl rfl (by decide +kernel) ⟨Nat.le_of_ble_eq_true rfl, Nat.le_of_ble_eq_true rfl⟩) rfl rfl rfl ⟨Nat.le_of_ble_eq_true rfl, Nat.le_of_ble_eq_true rfl⟩ dX5_isInHand_3 rfl (fun z1 hz1 => ?_)
  exact ev_iretz hX hr dX5_isInHand_6
def rm_X5_dropReason : Room := { frames := 7, cells := 0, slots := 0, locals := 175 }
set_option maxHeartbeats 4000000 in
set_option maxRecDepth 100000 in
theorem c_X5_dropReason (l : Launch) (D : va_G) (cI cC : ClassId) (td : Nat → Option Nat) (a1 : Int32) (a2 : Int32) (w : mvW) : ∀ z, f_X5_dropReason a1 a2 w = some z → mv_Ci l D vwCl cI cC tbX td yX5_dropReason wsX5_dropReason rm_X5_dropReason shM w [.inr (.inl 0), .inl a1, .inl a2] z := by
  refine mv_starti (own := RX5) rfl (by decide) rfl rfl (L0 := [some (.inr (.inl 0)), some (.inl a1), some (.inl a2)]) rfl (fun p e s m args below meth c A ad0 hX hr => ?_)
  rw [f_X5_dropReason]
  refine ev_iload_n hX dX5_dropReason_0 rfl ?_
  refine ev_callSi hX (As := [.inl a1]) (rm := rm_X5_isInHand) (c_X5_isInHand l D cI cC td a1 w) (cwS 1 hX.ts gX5_dropReason_X5_isInHand rfl rfl rfl (by decide +kernel) ⟨Nat.le_of_ble_eq_true rfl, Nat.le_of_ble_eq_true rfl⟩) rfl rfl rfl ⟨Nat.le_of_ble_eq_true rfl, Nat.le_of_ble_eq_true rfl⟩ dX5_dropReason_1 rfl (fun z1 hz1 => ?_)
  refine ev_if_eq (tgt := 34) hX dX5_dropReason_4 (by decide) ?_ ?_
  · refine ev_sipush hX dX5_dropReason_34 (v := (-1001)) (by decide +kernel) ?_
    exact ev_ireti hX hr dX5_dropReason_37
  · refine ev_iload_n hX dX5_dropReason_7 rfl ?_
    refine ev_callSi hX (As := [.inl a2]) (rm := rm_X5_isSquare) (c_X5_isSquare l D cI cC td a2 z1.2) (cwS 1 hX.ts gX5_dropReason_X5_isSquare rfl rfl rfl (by decide +kernel) ⟨Nat.le_of_ble_eq_true rfl, Nat.le_of_ble_eq_true rfl⟩) rfl rfl rfl ⟨Nat.le_of_ble_eq_true rfl, Nat.le_of_ble_eq_true rfl⟩ dX5_dropReason_8 rfl (fun z2 hz2 => ?_)
    refine ev_if_eq (tgt := 34) hX dX5_dropReason_11 (by decide) ?_ ?_
    · refine ev_sipush hX dX5_dropReason_34 (v := (-1001)) (by decide +kernel) ?_
      exact ev_ireti hX hr dX5_dropReason_37
    · refine ev_aload_n hX dX5_dropReason_14 rfl ?_
      refine ev_iconst hX dX5_dropReason_15 (v := 0) (by decide +kernel) ?_
      refine ev_sipush hX dX5_dropReason_16 (v := 1250) (by decide +kernel) ?_
      refine ev_bipush hX dX5_dropReason_19 (v := 25) (by decide +kernel) ?_
      refine ev_iload_n hX dX5_dropReason_21 rfl ?_
      refine ev_iconst hX dX5_dropReason_22 (v := 1) (by decide +kernel) ?_
      refine ev_isub hX dX5_dropReason_23 ?_
      refine ev_imul hX dX5_dropReason_24 ?_
      refine ev_iadd hX dX5_dropReason_25 ?_
      refine ev_iload_n hX dX5_dropReason_26 rfl ?_
      refine ev_iadd hX dX5_dropReason_27 ?_
      refine ev_callVi hX (k0 := 0) (As := [.inl 0, .inl ((1250 + (25 * (a1 - 1))) + a2)]) (rm := rm_X5_reason) (c_X5_reason l D cI cC td 0 ((1250 + (25 * (a1 - 1))) + a2) z2.2) (cwV 2 hX.ts gX5_dropReason_X5_reason rfl rfl rfl (by decide +kernel) ⟨Nat.le_of_ble_eq_true rfl, Nat.le_of_ble_eq_true rfl⟩) rfl rfl rfl rfl rfl rfl ⟨Nat.le_of_ble_eq_true rfl, Nat.le_of_ble_eq_true rfl⟩ dX5_dropReason_28 rfl (fun z3 hz3 => ?_)
      refine ev_goto (tgt := 37) hX dX5_dropReason_31 (by decide) ?_
      exact ev_ireti hX hr dX5_dropReason_37
def rm_X5_drop : Room := { frames := 8, cells := 0, slots := 0, locals := 197 }
set_option maxRecDepth 20000 in
theorem in_X5_drop_X5 : ∀ w ∈ u_ws RX5 TX5 8, w ∈ wsX5_drop := by decide +kernel
set_option maxHeartbeats 4000000 in
set_option maxRecDepth 100000 in
theorem c_X5_drop (l : Launch) (D : va_G) (cI cC : ClassId) (td : Nat → Option Nat) (a1 : Int32) (a2 : Int32) (w : mvW) : ∀ z, f_X5_drop a1 a2 w = some z → mv_Ci l D vwCl cI cC tbX td yX5_drop wsX5_drop rm_X5_drop shM w [.inr (.inl 0), .inl a1, .inl a2] z := by
  refine mv_starti (own := RX5) rfl (by decide) rfl rfl (L0 := [some (.inr (.inl 0)), some (.inl a1), some (.inl a2), none, none, none]) rfl (fun p e s m args below meth c A ad0 hX hr => ?_)
  rw [f_X5_drop]
  refine ev_aload_n hX dX5_drop_0 rfl ?_
  refine ev_iload_n hX dX5_drop_1 rfl ?_
  refine ev_iload_n hX dX5_drop_2 rfl ?_
  refine ev_callVi hX (k0 := 0) (As := [.inl a1, .inl a2]) (rm := rm_X5_dropReason) (c_X5_dropReason l D cI cC td a1 a2 w) (cwV 2 hX.ts gX5_drop_X5_dropReason rfl rfl rfl (by decide +kernel) ⟨Nat.le_of_ble_eq_true rfl, Nat.le_of_ble_eq_true rfl⟩) rfl rfl rfl rfl rfl rfl ⟨Nat.le_of_ble_eq_true rfl, Nat.le_of_ble_eq_true rfl⟩ dX5_drop_3 rfl (fun z1 hz1 => ?_)
  refine ev_istore_n hX dX5_drop_6 rfl (L' := [some (.inr (.inl 0)), some (.inl a1), some (.inl a2), some (.inl z1.1), none, none]) rfl ?_
  refine ev_iload_n hX dX5_drop_7 rfl ?_
  refine ev_if_eq (tgt := 28) hX dX5_drop_8 (by decide) ?_ ?_
  · refine ev_aload_n hX dX5_drop_28 rfl ?_
    refine ev_callVv hX (k0 := 0) (As := []) (rm := rm_X5_remembers) (c_X5_remembers l D cI cC td z1.2) (cwV 0 hX.ts gX5_drop_X5_remembers rfl rfl rfl (by decide +kernel) ⟨Nat.le_of_ble_eq_true rfl, Nat.le_of_ble_eq_true rfl⟩) rfl rfl rfl rfl rfl rfl ⟨Nat.le_of_ble_eq_true rfl, Nat.le_of_ble_eq_true rfl⟩ dX5_drop_29 rfl (fun z2 hz2 => ?_)
    refine ev_aload_n hX dX5_drop_32 rfl ?_
    refine ev_getr (k := 0) hX (T := TX5) in_X5_drop_X5 rfl rfl rfl (show Cond.fieldLink RX5 7 "FiveShogiModel" "s" "[I" ∈ _ by decide +kernel) rfl dX5_drop_33 ?_
    refine ev_bipush hX dX5_drop_36 (v := 35) (by decide +kernel) ?_
    refine ev_ialdc (j := 35) hX rfl (by decide +kernel) dX5_drop_38 ?_
    refine ev_istore hX dX5_drop_39 rfl (L' := [some (.inr (.inl 0)), some (.inl a1), some (.inl a2), some (.inl z1.1), some (.inl (z2 1 35)), none]) rfl ?_
    refine ev_aload_n hX dX5_drop_41 rfl ?_
    refine ev_iconst hX dX5_drop_42 (v := 0) (by decide +kernel) ?_
    refine ev_sipush hX dX5_drop_43 (v := 1250) (by decide +kernel) ?_
    refine ev_bipush hX dX5_drop_46 (v := 25) (by decide +kernel) ?_
    refine ev_iload_n hX dX5_drop_48 rfl ?_
    refine ev_iconst hX dX5_drop_49 (v := 1) (by decide +kernel) ?_
    refine ev_isub hX dX5_drop_50 ?_
    refine ev_imul hX dX5_drop_51 ?_
    refine ev_iadd hX dX5_drop_52 ?_
    refine ev_iload_n hX dX5_drop_53 rfl ?_
    refine ev_iadd hX dX5_drop_54 ?_
    refine ev_callVi hX (k0 := 0) (As := [.inl 0, .inl ((1250 + (25 * (a1 - 1))) + a2)]) (rm := rm_X5_makes) (c_X5_makes l D cI cC td 0 ((1250 + (25 * (a1 - 1))) + a2) z2) (cwV 2 hX.ts gX5_drop_X5_makes rfl rfl rfl (by decide +kernel) ⟨Nat.le_of_ble_eq_true rfl, Nat.le_of_ble_eq_true rfl⟩) rfl rfl rfl rfl rfl rfl ⟨Nat.le_of_ble_eq_true rfl, Nat.le_of_ble_eq_true rfl⟩ dX5_drop_55 rfl (fun z3 hz3 => ?_)
    refine ev_istore hX dX5_drop_58 rfl (L' := [some (.inr (.inl 0)), some (.inl a1), some (.inl a2), some (.inl z1.1), some (.inl (z2 1 35)), some (.inl z3.1)]) rfl ?_
    refine ev_aload_n hX dX5_drop_60 rfl ?_
    refine ev_getr (k := 0) hX (T := TX5) in_X5_drop_X5 rfl rfl rfl (show Cond.fieldLink RX5 7 "FiveShogiModel" "s" "[I" ∈ _ by decide +kernel) rfl dX5_drop_61 ?_
    refine ev_bipush hX dX5_drop_64 (v := 25) (by decide +kernel) ?_
    refine ev_iconst hX dX5_drop_66 (v := 5) (by decide +kernel) ?_
    refine ev_iload hX dX5_drop_67 rfl ?_
    refine ev_imul hX dX5_drop_69 ?_
    refine ev_iadd hX dX5_drop_70 ?_
    refine ev_iload_n hX dX5_drop_71 rfl ?_
    refine ev_iadd hX dX5_drop_72 ?_
    refine ev_iconst hX dX5_drop_73 (v := 1) (by decide +kernel) ?_
    refine ev_isub hX dX5_drop_74 ?_
    refine ev_iald hX rfl dX5_drop_75 (fun j4 => ?_)
    exact ev_ireti hX hr dX5_drop_76
  · refine ev_iload_n hX dX5_drop_11 rfl ?_
    refine ev_sipush hX dX5_drop_12 (v := (-1001)) (by decide +kernel) ?_
    refine ev_icmp_ne (tgt := 24) hX dX5_drop_15 (by decide) ?_ ?_
    · refine ev_sipush hX dX5_drop_24 (v := (-1004)) (by decide +kernel) ?_
      exact ev_ireti hX hr dX5_drop_27
    · refine ev_sipush hX dX5_drop_18 (v := (-1001)) (by decide +kernel) ?_
      refine ev_goto (tgt := 27) hX dX5_drop_21 (by decide) ?_
      exact ev_ireti hX hr dX5_drop_27
def rm_X3_allows : Room := { frames := 6, cells := 0, slots := 0, locals := 147 }
set_option maxHeartbeats 4000000 in
set_option maxRecDepth 100000 in
theorem c_X3_allows (l : Launch) (D : va_G) (cI cC : ClassId) (td : Nat → Option Nat) (a1 : Int32) (w : mvW) : ∀ z, f_X3_allows a1 w = some z → mv_Ci l D vwCl cI cC tbX td yX3_allows wsX3_allows rm_X3_allows shX w [.inr (.inl 4), .inl a1] z := by
  refine mv_starti (own := RX3) rfl (by decide) rfl rfl (L0 := [some (.inr (.inl 4)), some (.inl a1), none, none]) rfl (fun p e s m args below meth c A ad0 hX hr => ?_)
  rw [f_X3_allows]
  refine ev_iload_n hX dX3_allows_0 rfl ?_
  refine ev_bipush hX dX3_allows_1 (v := 100) (by decide +kernel) ?_
  refine ev_irem hX dX3_allows_3 (by decide) ?_
  refine ev_istore_n hX dX3_allows_4 rfl (L' := [some (.inr (.inl 4)), some (.inl a1), some (.inl (a1 - a1 / 100 * 100)), none]) rfl ?_
  refine ev_iload_n hX dX3_allows_5 rfl ?_
  refine ev_if_lt (tgt := 16) hX dX3_allows_6 (by decide) ?_ ?_
  · refine ev_iconst hX dX3_allows_16 (v := 0) (by decide +kernel) ?_
    exact ev_iretz0 hX hr dX3_allows_17
  · refine ev_iload_n hX dX3_allows_9 rfl ?_
    refine ev_callNi hX (As := [.inl (a1 - a1 / 100 * 100)]) (rm := rm_X4_isSquare) (c_X4_isSquare l D cI cC td (a1 - a1 / 100 * 100) w) ⟨va_cnB (host := "FiveShogi") 1 hX.ts gX3_allows_X4_isSquare_n53 rfl rfl rfl (hX.sta.2.1 (_, 53, _, _) (List.mem_of_getElem? (i := 17) rfl)) (hX.ts _ (show Cond.initialized RX4 ∈ _ by decide +kernel)) (by decide +kernel) ⟨Nat.le_of_ble_eq_true rfl, Nat.le_of_ble_eq_true rfl⟩, hX.ts _ (show Cond.static yX4_isSquare ∈ _ by decide +kernel), trivial⟩ rfl rfl rfl ⟨Nat.le_of_ble_eq_true rfl, Nat.le_of_ble_eq_true rfl⟩ dX3_allows_10 rfl (fun z1 hz1 => ?_)
    refine ev_if_ne (tgt := 18) hX dX3_allows_13 (by decide) ?_ ?_
    · refine ev_iload_n hX dX3_allows_18 rfl ?_
      refine ev_sipush hX dX3_allows_19 (v := 20000) (by decide +kernel) ?_
      refine ev_icmp_lt (tgt := 56) hX dX3_allows_22 (by decide) ?_ ?_
      · refine ev_iload_n hX dX3_allows_56 rfl ?_
        refine ev_sipush hX dX3_allows_57 (v := 10000) (by decide +kernel) ?_
        refine ev_irem hX dX3_allows_60 (by decide) ?_
        refine ev_bipush hX dX3_allows_61 (v := 100) (by decide +kernel) ?_
        refine ev_idiv hX dX3_allows_63 (by decide) ?_
        refine ev_istore_n hX dX3_allows_64 rfl (L' := [some (.inr (.inl 4)), some (.inl a1), some (.inl (a1 - a1 / 100 * 100)), some (.inl ((a1 - a1 / 10000 * 10000) / 100))]) rfl ?_
        refine ev_iload_n hX dX3_allows_65 rfl ?_
        refine ev_callNi hX (As := [.inl ((a1 - a1 / 10000 * 10000) / 100)]) (rm := rm_X4_isSquare) (c_X4_isSquare l D cI cC td ((a1 - a1 / 10000 * 10000) / 100) z1.2) ⟨va_cnB (host := "FiveShogi") 1 hX.ts gX3_allows_X4_isSquare_n53 rfl rfl rfl (hX.sta.2.1 (_, 53, _, _) (List.mem_of_getElem? (i := 17) rfl)) (hX.ts _ (show Cond.initialized RX4 ∈ _ by decide +kernel)) (by decide +kernel) ⟨Nat.le_of_ble_eq_true rfl, Nat.le_of_ble_eq_true rfl⟩, hX.ts _ (show Cond.static yX4_isSquare ∈ _ by decide +kernel), trivial⟩ rfl rfl rfl ⟨Nat.le_of_ble_eq_true rfl, Nat.le_of_ble_eq_true rfl⟩ dX3_allows_66 rfl (fun z2 hz2 => ?_)
        refine ev_if_eq (tgt := 97) hX dX3_allows_69 (by decide) ?_ ?_
        · refine ev_iconst hX dX3_allows_97 (v := 0) (by decide +kernel) ?_
          exact ev_iretz0 hX hr dX3_allows_98
        · refine ev_aload_n hX dX3_allows_72 rfl ?_
          refine ev_iload_n hX dX3_allows_73 rfl ?_
          refine ev_iload_n hX dX3_allows_74 rfl ?_
          refine ev_iload_n hX dX3_allows_75 rfl ?_
          refine ev_sipush hX dX3_allows_76 (v := 10000) (by decide +kernel) ?_
          refine ev_icmp_lt (tgt := 86) hX dX3_allows_79 (by decide) ?_ ?_
          · refine ev_iconst hX dX3_allows_86 (v := 0) (by decide +kernel) ?_
            refine ev_callVi hX (k0 := 4) (As := [.inl ((a1 - a1 / 10000 * 10000) / 100), .inl (a1 - a1 / 100 * 100), .inl 0]) (rm := rm_X3_whyNoMove) (c_X3_whyNoMove l D cI cC td ((a1 - a1 / 10000 * 10000) / 100) (a1 - a1 / 100 * 100) 0 z2.2) (cwV 3 hX.ts gX3_allows_X3_whyNoMove rfl rfl rfl (by decide +kernel) ⟨Nat.le_of_ble_eq_true rfl, Nat.le_of_ble_eq_true rfl⟩) rfl rfl rfl rfl rfl rfl ⟨Nat.le_of_ble_eq_true rfl, Nat.le_of_ble_eq_true rfl⟩ dX3_allows_87 rfl (fun z3 hz3 => ?_)
            refine ev_if_ne (tgt := 97) hX dX3_allows_90 (by decide) ?_ ?_
            · refine ev_iconst hX dX3_allows_97 (v := 0) (by decide +kernel) ?_
              exact ev_iretz0 hX hr dX3_allows_98
            · refine ev_iconst hX dX3_allows_93 (v := 1) (by decide +kernel) ?_
              refine ev_goto (tgt := 98) hX dX3_allows_94 (by decide) ?_
              exact ev_iretz1 hX hr dX3_allows_98
          · refine ev_iconst hX dX3_allows_82 (v := 1) (by decide +kernel) ?_
            refine ev_goto (tgt := 87) hX dX3_allows_83 (by decide) ?_
            refine ev_callVi hX (k0 := 4) (As := [.inl ((a1 - a1 / 10000 * 10000) / 100), .inl (a1 - a1 / 100 * 100), .inl 1]) (rm := rm_X3_whyNoMove) (c_X3_whyNoMove l D cI cC td ((a1 - a1 / 10000 * 10000) / 100) (a1 - a1 / 100 * 100) 1 z2.2) (cwV 3 hX.ts gX3_allows_X3_whyNoMove rfl rfl rfl (by decide +kernel) ⟨Nat.le_of_ble_eq_true rfl, Nat.le_of_ble_eq_true rfl⟩) rfl rfl rfl rfl rfl rfl ⟨Nat.le_of_ble_eq_true rfl, Nat.le_of_ble_eq_true rfl⟩ dX3_allows_87 rfl (fun z4 hz4 => ?_)
            refine ev_if_ne (tgt := 97) hX dX3_allows_90 (by decide) ?_ ?_
            · refine ev_iconst hX dX3_allows_97 (v := 0) (by decide +kernel) ?_
              exact ev_iretz0 hX hr dX3_allows_98
            · refine ev_iconst hX dX3_allows_93 (v := 1) (by decide +kernel) ?_
              refine ev_goto (tgt := 98) hX dX3_allows_94 (by decide) ?_
              exact ev_iretz1 hX hr dX3_allows_98
      · refine ev_iload_n hX dX3_allows_25 rfl ?_
        refine ev_sipush hX dX3_allows_26 (v := 20000) (by decide +kernel) ?_
        refine ev_isub hX dX3_allows_29 ?_
        refine ev_bipush hX dX3_allows_30 (v := 100) (by decide +kernel) ?_
        refine ev_idiv hX dX3_allows_32 (by decide) ?_
        refine ev_istore_n hX dX3_allows_33 rfl (L' := [some (.inr (.inl 4)), some (.inl a1), some (.inl (a1 - a1 / 100 * 100)), some (.inl ((a1 - 20000) / 100))]) rfl ?_
        refine ev_iload_n hX dX3_allows_34 rfl ?_
        refine ev_callNi hX (As := [.inl ((a1 - 20000) / 100)]) (rm := rm_X4_isHandKind) (c_X4_isHandKind l D cI cC td ((a1 - 20000) / 100) z1.2) ⟨va_cnB (host := "FiveShogi") 1 hX.ts gX3_allows_X4_isHandKind_n57 rfl rfl rfl (hX.sta.2.1 (_, 57, _, _) (List.mem_of_getElem? (i := 18) rfl)) (hX.ts _ (show Cond.initialized RX4 ∈ _ by decide +kernel)) (by decide +kernel) ⟨Nat.le_of_ble_eq_true rfl, Nat.le_of_ble_eq_true rfl⟩, hX.ts _ (show Cond.static yX4_isHandKind ∈ _ by decide +kernel), trivial⟩ rfl rfl rfl ⟨Nat.le_of_ble_eq_true rfl, Nat.le_of_ble_eq_true rfl⟩ dX3_allows_35 rfl (fun z5 hz5 => ?_)
        refine ev_if_eq (tgt := 54) hX dX3_allows_38 (by decide) ?_ ?_
        · refine ev_iconst hX dX3_allows_54 (v := 0) (by decide +kernel) ?_
          exact ev_iretz0 hX hr dX3_allows_55
        · refine ev_aload_n hX dX3_allows_41 rfl ?_
          refine ev_iload_n hX dX3_allows_42 rfl ?_
          refine ev_iload_n hX dX3_allows_43 rfl ?_
          refine ev_callVi hX (k0 := 4) (As := [.inl ((a1 - 20000) / 100), .inl (a1 - a1 / 100 * 100)]) (rm := rm_X3_whyNoDrop) (c_X3_whyNoDrop l D cI cC td ((a1 - 20000) / 100) (a1 - a1 / 100 * 100) z5.2) (cwV 2 hX.ts gX3_allows_X3_whyNoDrop rfl rfl rfl (by decide +kernel) ⟨Nat.le_of_ble_eq_true rfl, Nat.le_of_ble_eq_true rfl⟩) rfl rfl rfl rfl rfl rfl ⟨Nat.le_of_ble_eq_true rfl, Nat.le_of_ble_eq_true rfl⟩ dX3_allows_44 rfl (fun z6 hz6 => ?_)
          refine ev_if_ne (tgt := 54) hX dX3_allows_47 (by decide) ?_ ?_
          · refine ev_iconst hX dX3_allows_54 (v := 0) (by decide +kernel) ?_
            exact ev_iretz0 hX hr dX3_allows_55
          · refine ev_iconst hX dX3_allows_50 (v := 1) (by decide +kernel) ?_
            refine ev_goto (tgt := 55) hX dX3_allows_51 (by decide) ?_
            exact ev_iretz1 hX hr dX3_allows_55
    · refine ev_iconst hX dX3_allows_16 (v := 0) (by decide +kernel) ?_
      exact ev_iretz0 hX hr dX3_allows_17
def rm_X4_asNumber : Room := { frames := 0, cells := 0, slots := 0, locals := 0 }
set_option maxHeartbeats 4000000 in
set_option maxRecDepth 100000 in
theorem c_X4_asNumber (l : Launch) (D : va_G) (cI cC : ClassId) (td : Nat → Option Nat) (a0 : Int32) (w : mvW) : ∀ z, f_X4_asNumber a0 w = some z → mv_Ci l D vwCl cI cC tbX td yX4_asNumber wsX4_asNumber rm_X4_asNumber shX w [.inl a0] z := by
  refine mv_starti (own := RX4) rfl (by decide) rfl rfl (L0 := [some (.inl a0)]) rfl (fun p e s m args below meth c A ad0 hX hr => ?_)
  rw [f_X4_asNumber]
  refine ev_iload_n hX dX4_asNumber_0 rfl ?_
  refine ev_if_eq (tgt := 8) hX dX4_asNumber_1 (by decide) ?_ ?_
  · refine ev_iconst hX dX4_asNumber_8 (v := 0) (by decide +kernel) ?_
    exact ev_ireti hX hr dX4_asNumber_9
  · refine ev_iconst hX dX4_asNumber_4 (v := 1) (by decide +kernel) ?_
    refine ev_goto (tgt := 9) hX dX4_asNumber_5 (by decide) ?_
    exact ev_ireti hX hr dX4_asNumber_9
def rm_X4_make : Room := { frames := 7, cells := 0, slots := 0, locals := 170 }
set_option maxRecDepth 20000 in
theorem in_X4_make_X4 : ∀ w ∈ u_ws RX4 TX4 7, w ∈ wsX4_make := by decide +kernel
set_option maxHeartbeats 4000000 in
set_option maxRecDepth 100000 in
theorem c_X4_make (l : Launch) (D : va_G) (cI cC : ClassId) (td : Nat → Option Nat) (a1 : Int32) (w : mvW) : ∀ z, f_X4_make a1 w = some z → mv_Ci l D vwCl cI cC tbX td yX4_make wsX4_make rm_X4_make shX w [.inr (.inl 0), .inl a1] z := by
  refine mv_starti (own := RX4) rfl (by decide) rfl rfl (L0 := [some (.inr (.inl 0)), some (.inl a1)]) rfl (fun p e s m args below meth c A ad0 hX hr => ?_)
  rw [f_X4_make]
  refine ev_aload_n hX dX4_make_0 rfl ?_
  refine ev_getr (k := 1) hX (T := TX4) in_X4_make_X4 rfl rfl rfl (show Cond.fieldLink RX4 21 "FiveShogi" "rules" "LFiveShogi$Rules;" ∈ _ by decide +kernel) rfl dX4_make_1 ?_
  refine ev_iload_n hX dX4_make_4 rfl ?_
  refine ev_callVi hX (k0 := 4) (As := [.inl a1]) (rm := rm_X3_allows) (c_X3_allows l D cI cC td a1 w) (cwV 1 hX.ts gX4_make_X3_allows rfl rfl rfl (by decide +kernel) ⟨Nat.le_of_ble_eq_true rfl, Nat.le_of_ble_eq_true rfl⟩) rfl rfl rfl rfl rfl rfl ⟨Nat.le_of_ble_eq_true rfl, Nat.le_of_ble_eq_true rfl⟩ dX4_make_5 rfl (fun z1 hz1 => ?_)
  refine ev_if_ne (tgt := 15) hX dX4_make_8 (by decide) ?_ ?_
  · refine ev_aload_n hX dX4_make_15 rfl ?_
    refine ev_callVv hX (k0 := 0) (As := []) (rm := rm_X4_recordChange) (c_X4_recordChange l D cI cC td z1.2) (cwV 0 hX.ts gX4_make_X4_recordChange rfl rfl rfl (by decide +kernel) ⟨Nat.le_of_ble_eq_true rfl, Nat.le_of_ble_eq_true rfl⟩) rfl rfl rfl rfl rfl rfl ⟨Nat.le_of_ble_eq_true rfl, Nat.le_of_ble_eq_true rfl⟩ dX4_make_16 rfl (fun z2 hz2 => ?_)
    refine ev_aload_n hX dX4_make_19 rfl ?_
    refine ev_getr (k := 0) hX (T := TX4) in_X4_make_X4 rfl rfl rfl (show Cond.fieldLink RX4 12 "FiveShogi" "position" "LFiveShogi$Position;" ∈ _ by decide +kernel) rfl dX4_make_20 ?_
    refine ev_iload_n hX dX4_make_23 rfl ?_
    refine ev_callVi hX (k0 := 1) (As := [.inl a1]) (rm := rm_X2_play) (c_X2_play l D cI cC td a1 z2) (cwV 1 hX.ts gX4_make_X2_play rfl rfl rfl (by decide +kernel) ⟨Nat.le_of_ble_eq_true rfl, Nat.le_of_ble_eq_true rfl⟩) rfl rfl rfl rfl rfl rfl ⟨Nat.le_of_ble_eq_true rfl, Nat.le_of_ble_eq_true rfl⟩ dX4_make_24 rfl (fun z3 hz3 => ?_)
    refine ev_pop hX dX4_make_27 ?_
    refine ev_aload_n hX dX4_make_28 rfl ?_
    refine ev_getr (k := 1) hX (T := TX4) in_X4_make_X4 rfl rfl rfl (show Cond.fieldLink RX4 21 "FiveShogi" "rules" "LFiveShogi$Rules;" ∈ _ by decide +kernel) rfl dX4_make_29 ?_
    refine ev_callVi hX (k0 := 4) (As := []) (rm := rm_X3_isInCheck) (c_X3_isInCheck l D cI cC td z3.2) (cwV 0 hX.ts gX4_make_X3_isInCheck rfl rfl rfl (by decide +kernel) ⟨Nat.le_of_ble_eq_true rfl, Nat.le_of_ble_eq_true rfl⟩) rfl rfl rfl rfl rfl rfl ⟨Nat.le_of_ble_eq_true rfl, Nat.le_of_ble_eq_true rfl⟩ dX4_make_32 rfl (fun z4 hz4 => ?_)
    refine ev_callSi hX (As := [.inl z4.1]) (rm := rm_X4_asNumber) (c_X4_asNumber l D cI cC td z4.1 z4.2) (cwS 1 hX.ts gX4_make_X4_asNumber rfl rfl rfl (by decide +kernel) ⟨Nat.le_of_ble_eq_true rfl, Nat.le_of_ble_eq_true rfl⟩) rfl rfl rfl ⟨Nat.le_of_ble_eq_true rfl, Nat.le_of_ble_eq_true rfl⟩ dX4_make_35 rfl (fun z5 hz5 => ?_)
    exact ev_ireti hX hr dX4_make_38
  · refine ev_sipush hX dX4_make_11 (v := (-1004)) (by decide +kernel) ?_
    exact ev_ireti hX hr dX4_make_14
def rm_X5_told : Room := { frames := 1, cells := 0, slots := 0, locals := 20 }
set_option maxHeartbeats 4000000 in
set_option maxRecDepth 100000 in
theorem c_X5_told (l : Launch) (D : va_G) (cI cC : ClassId) (td : Nat → Option Nat) (a0 : Int32) (w : mvW) : ∀ z, f_X5_told a0 w = some z → mv_Ci l D vwCl cI cC tbX td yX5_told wsX5_told rm_X5_told shM w [.inl a0] z := by
  refine mv_starti (own := RX5) rfl (by decide) rfl rfl (L0 := [some (.inl a0)]) rfl (fun p e s m args below meth c A ad0 hX hr => ?_)
  rw [f_X5_told]
  refine ev_iload_n hX dX5_told_0 rfl ?_
  refine ev_sipush hX dX5_told_1 (v := 1250) (by decide +kernel) ?_
  refine ev_icmp_ge (tgt := 30) hX dX5_told_4 (by decide) ?_ ?_
  · refine ev_sipush hX dX5_told_30 (v := 20000) (by decide +kernel) ?_
    refine ev_bipush hX dX5_told_33 (v := 100) (by decide +kernel) ?_
    refine ev_iload_n hX dX5_told_35 rfl ?_
    refine ev_callSi hX (As := [.inl a0]) (rm := rm_X5_kindOf) (c_X5_kindOf l D cI cC td a0 w) (cwS 1 hX.ts gX5_told_X5_kindOf rfl rfl rfl (by decide +kernel) ⟨Nat.le_of_ble_eq_true rfl, Nat.le_of_ble_eq_true rfl⟩) rfl rfl rfl ⟨Nat.le_of_ble_eq_true rfl, Nat.le_of_ble_eq_true rfl⟩ dX5_told_36 rfl (fun z1 hz1 => ?_)
    refine ev_imul hX dX5_told_39 ?_
    refine ev_iadd hX dX5_told_40 ?_
    refine ev_iload_n hX dX5_told_41 rfl ?_
    refine ev_bipush hX dX5_told_42 (v := 25) (by decide +kernel) ?_
    refine ev_irem hX dX5_told_44 (by decide) ?_
    refine ev_iadd hX dX5_told_45 ?_
    exact ev_ireti hX hr dX5_told_46
  · refine ev_sipush hX dX5_told_7 (v := 10000) (by decide +kernel) ?_
    refine ev_iload_n hX dX5_told_10 rfl ?_
    refine ev_sipush hX dX5_told_11 (v := 625) (by decide +kernel) ?_
    refine ev_idiv hX dX5_told_14 (by decide) ?_
    refine ev_imul hX dX5_told_15 ?_
    refine ev_bipush hX dX5_told_16 (v := 100) (by decide +kernel) ?_
    refine ev_iload_n hX dX5_told_18 rfl ?_
    refine ev_callSi hX (As := [.inl a0]) (rm := rm_X5_from) (c_X5_from l D cI cC td a0 w) (cwS 1 hX.ts gX5_told_X5_from rfl rfl rfl (by decide +kernel) ⟨Nat.le_of_ble_eq_true rfl, Nat.le_of_ble_eq_true rfl⟩) rfl rfl rfl ⟨Nat.le_of_ble_eq_true rfl, Nat.le_of_ble_eq_true rfl⟩ dX5_told_19 rfl (fun z2 hz2 => ?_)
    refine ev_imul hX dX5_told_22 ?_
    refine ev_iadd hX dX5_told_23 ?_
    refine ev_iload_n hX dX5_told_24 rfl ?_
    refine ev_bipush hX dX5_told_25 (v := 25) (by decide +kernel) ?_
    refine ev_irem hX dX5_told_27 (by decide) ?_
    refine ev_iadd hX dX5_told_28 ?_
    exact ev_ireti hX hr dX5_told_29
def rm_X5_make : Room := { frames := 7, cells := 0, slots := 0, locals := 175 }
set_option maxRecDepth 20000 in
theorem in_X5_make_X5 : ∀ w ∈ u_ws RX5 TX5 8, w ∈ wsX5_make := by decide +kernel
set_option maxHeartbeats 4000000 in
set_option maxRecDepth 100000 in
theorem e_X5_make_2 (hX : mv_X p s m args meth c D vwCl cI cC tbX td A cX5_make 4 RX5 wsX5_make) (hr : meth.sig.returnType = (some .int)) : ∀ (n : Nat) (x1 : Int32) (x2 : Int32) (w : mvW), EV p l e (headSpec wsX5_make rm_X5_make).room s m args below meth c D vwCl cI cC td A (fun a => a = ad0) (mv_Qi below args s D vwCl cI cC shM ad0 A) 0 0 shM [some (.inr (.inl 0)), some (.inl x1), some (.inl x2), none] [] 2 w (f_X5_make_2 n x1 x2 w) := by
  intro n
  induction n with
  | zero => intro x1 x2 w; exact ev_none
  | succ n ih =>
    intro x1 x2 w
    rw [f_X5_make_2]
    refine ev_iload_n hX dX5_make_2 rfl ?_
    refine ev_sipush hX dX5_make_3 (v := 1375) (by decide +kernel) ?_
    refine ev_icmp_ge (tgt := 64) hX dX5_make_6 (by decide) ?_ ?_
    · refine ev_sipush hX dX5_make_64 (v := (-1004)) (by decide +kernel) ?_
      exact ev_ireti hX hr dX5_make_67
    · refine ev_iload_n hX dX5_make_9 rfl ?_
      refine ev_callSi hX (As := [.inl x2]) (rm := rm_X5_told) (c_X5_told l D cI cC td x2 w) (cwS 1 hX.ts gX5_make_X5_told rfl rfl rfl (by decide +kernel) ⟨Nat.le_of_ble_eq_true rfl, Nat.le_of_ble_eq_true rfl⟩) rfl rfl rfl ⟨Nat.le_of_ble_eq_true rfl, Nat.le_of_ble_eq_true rfl⟩ dX5_make_10 rfl (fun z1 hz1 => ?_)
      refine ev_iload_n hX dX5_make_13 rfl ?_
      refine ev_icmp_ne (tgt := 58) hX dX5_make_14 (by decide) ?_ ?_
      · refine ev_iinc hX dX5_make_58 rfl (v := 1) (by decide +kernel) (L' := [some (.inr (.inl 0)), some (.inl x1), some (.inl (x2 + 1)), none]) rfl ?_
        refine ev_goto (tgt := 2) hX dX5_make_61 (by decide) ?_
        refine ev_mask [true, true, true, false] (L' := [some (.inr (.inl 0)), some (.inl x1), some (.inl (x2 + 1)), none]) rfl rfl ?_
        exact ih x1 (x2 + 1) z1.2
      · refine ev_aload_n hX dX5_make_17 rfl ?_
        refine ev_iconst hX dX5_make_18 (v := 0) (by decide +kernel) ?_
        refine ev_iload_n hX dX5_make_19 rfl ?_
        refine ev_callVi hX (k0 := 0) (As := [.inl 0, .inl x2]) (rm := rm_X5_reason) (c_X5_reason l D cI cC td 0 x2 z1.2) (cwV 2 hX.ts gX5_make_X5_reason rfl rfl rfl (by decide +kernel) ⟨Nat.le_of_ble_eq_true rfl, Nat.le_of_ble_eq_true rfl⟩) rfl rfl rfl rfl rfl rfl ⟨Nat.le_of_ble_eq_true rfl, Nat.le_of_ble_eq_true rfl⟩ dX5_make_20 rfl (fun z2 hz2 => ?_)
        refine ev_if_ne (tgt := 58) hX dX5_make_23 (by decide) ?_ ?_
        · refine ev_iinc hX dX5_make_58 rfl (v := 1) (by decide +kernel) (L' := [some (.inr (.inl 0)), some (.inl x1), some (.inl (x2 + 1)), none]) rfl ?_
          refine ev_goto (tgt := 2) hX dX5_make_61 (by decide) ?_
          refine ev_mask [true, true, true, false] (L' := [some (.inr (.inl 0)), some (.inl x1), some (.inl (x2 + 1)), none]) rfl rfl ?_
          exact ih x1 (x2 + 1) z2.2
        · refine ev_aload_n hX dX5_make_26 rfl ?_
          refine ev_callVv hX (k0 := 0) (As := []) (rm := rm_X5_remembers) (c_X5_remembers l D cI cC td z2.2) (cwV 0 hX.ts gX5_make_X5_remembers rfl rfl rfl (by decide +kernel) ⟨Nat.le_of_ble_eq_true rfl, Nat.le_of_ble_eq_true rfl⟩) rfl rfl rfl rfl rfl rfl ⟨Nat.le_of_ble_eq_true rfl, Nat.le_of_ble_eq_true rfl⟩ dX5_make_27 rfl (fun z3 hz3 => ?_)
          refine ev_aload_n hX dX5_make_30 rfl ?_
          refine ev_iconst hX dX5_make_31 (v := 0) (by decide +kernel) ?_
          refine ev_iload_n hX dX5_make_32 rfl ?_
          refine ev_callVi hX (k0 := 0) (As := [.inl 0, .inl x2]) (rm := rm_X5_makes) (c_X5_makes l D cI cC td 0 x2 z3) (cwV 2 hX.ts gX5_make_X5_makes rfl rfl rfl (by decide +kernel) ⟨Nat.le_of_ble_eq_true rfl, Nat.le_of_ble_eq_true rfl⟩) rfl rfl rfl rfl rfl rfl ⟨Nat.le_of_ble_eq_true rfl, Nat.le_of_ble_eq_true rfl⟩ dX5_make_33 rfl (fun z4 hz4 => ?_)
          refine ev_istore_n hX dX5_make_36 rfl (L' := [some (.inr (.inl 0)), some (.inl x1), some (.inl x2), some (.inl z4.1)]) rfl ?_
          refine ev_aload_n hX dX5_make_37 rfl ?_
          refine ev_iconst hX dX5_make_38 (v := 0) (by decide +kernel) ?_
          refine ev_aload_n hX dX5_make_39 rfl ?_
          refine ev_getr (k := 0) hX (T := TX5) in_X5_make_X5 rfl rfl rfl (show Cond.fieldLink RX5 7 "FiveShogiModel" "s" "[I" ∈ _ by decide +kernel) rfl dX5_make_40 ?_
          refine ev_bipush hX dX5_make_43 (v := 35) (by decide +kernel) ?_
          refine ev_ialdc (j := 35) hX rfl (by decide +kernel) dX5_make_45 ?_
          refine ev_callVi hX (k0 := 0) (As := [.inl 0, .inl (z4.2 1 35)]) (rm := rm_X5_isInCheck) (c_X5_isInCheck l D cI cC td 0 (z4.2 1 35) z4.2) (cwV 2 hX.ts gX5_make_X5_isInCheck rfl rfl rfl (by decide +kernel) ⟨Nat.le_of_ble_eq_true rfl, Nat.le_of_ble_eq_true rfl⟩) rfl rfl rfl rfl rfl rfl ⟨Nat.le_of_ble_eq_true rfl, Nat.le_of_ble_eq_true rfl⟩ dX5_make_46 rfl (fun z5 hz5 => ?_)
          refine ev_if_eq (tgt := 56) hX dX5_make_49 (by decide) ?_ ?_
          · refine ev_iconst hX dX5_make_56 (v := 0) (by decide +kernel) ?_
            exact ev_ireti hX hr dX5_make_57
          · refine ev_iconst hX dX5_make_52 (v := 1) (by decide +kernel) ?_
            refine ev_goto (tgt := 57) hX dX5_make_53 (by decide) ?_
            exact ev_ireti hX hr dX5_make_57
set_option maxHeartbeats 4000000 in
set_option maxRecDepth 100000 in
theorem c_X5_make (l : Launch) (D : va_G) (cI cC : ClassId) (td : Nat → Option Nat) (a1 : Int32) (w : mvW) : ∀ z, f_X5_make a1 w = some z → mv_Ci l D vwCl cI cC tbX td yX5_make wsX5_make rm_X5_make shM w [.inr (.inl 0), .inl a1] z := by
  refine mv_starti (own := RX5) rfl (by decide) rfl rfl (L0 := [some (.inr (.inl 0)), some (.inl a1), none, none]) rfl (fun p e s m args below meth c A ad0 hX hr => ?_)
  rw [f_X5_make]
  refine ev_iconst hX dX5_make_0 (v := 0) (by decide +kernel) ?_
  refine ev_istore_n hX dX5_make_1 rfl (L' := [some (.inr (.inl 0)), some (.inl a1), some (.inl 0), none]) rfl ?_
  refine ev_mask [true, true, true, false] (L' := [some (.inr (.inl 0)), some (.inl a1), some (.inl 0), none]) rfl rfl ?_
  exact e_X5_make_2 hX hr 4096 a1 0 w
def rm_X2_menOnBoard : Room := { frames := 0, cells := 0, slots := 0, locals := 0 }
set_option maxRecDepth 20000 in
theorem in_X2_menOnBoard_X2 : ∀ w ∈ u_ws RX2 TX2 2, w ∈ wsX2_menOnBoard := by decide +kernel
set_option maxHeartbeats 4000000 in
set_option maxRecDepth 100000 in
theorem e_X2_menOnBoard_4 (hX : mv_X p s m args meth c D vwCl cI cC tbX td A cX2_menOnBoard 3 RX2 wsX2_menOnBoard) (hr : meth.sig.returnType = (some .int)) : ∀ (n : Nat) (x1 : Int32) (x2 : Int32) (w : mvW), EV p l e (headSpec wsX2_menOnBoard rm_X2_menOnBoard).room s m args below meth c D vwCl cI cC td A (fun a => a = ad0) (mv_Qi below args s D vwCl cI cC shX ad0 A) 0 0 shX [some (.inr (.inl 1)), some (.inl x1), some (.inl x2)] [] 4 w (f_X2_menOnBoard_4 n x1 x2 w) := by
  intro n
  induction n with
  | zero => intro x1 x2 w; exact ev_none
  | succ n ih =>
    intro x1 x2 w
    rw [f_X2_menOnBoard_4]
    refine ev_iload_n hX dX2_menOnBoard_4 rfl ?_
    refine ev_bipush hX dX2_menOnBoard_5 (v := 25) (by decide +kernel) ?_
    refine ev_icmp_ge (tgt := 30) hX dX2_menOnBoard_7 (by decide) ?_ ?_
    · refine ev_iload_n hX dX2_menOnBoard_30 rfl ?_
      exact ev_ireti hX hr dX2_menOnBoard_31
    · refine ev_aload_n hX dX2_menOnBoard_10 rfl ?_
      refine ev_getr (k := 0) hX (T := TX2) in_X2_menOnBoard_X2 rfl rfl rfl (show Cond.fieldLink RX2 11 "FiveShogi$Position" "state" "[I" ∈ _ by decide +kernel) rfl dX2_menOnBoard_11 ?_
      refine ev_iload_n hX dX2_menOnBoard_14 rfl ?_
      refine ev_iald hX rfl dX2_menOnBoard_15 (fun j1 => ?_)
      refine ev_bipush hX dX2_menOnBoard_16 (v := 99) (by decide +kernel) ?_
      refine ev_icmp_eq (tgt := 24) hX dX2_menOnBoard_18 (by decide) ?_ ?_
      · refine ev_iinc hX dX2_menOnBoard_24 rfl (v := 1) (by decide +kernel) (L' := [some (.inr (.inl 1)), some (.inl x1), some (.inl (x2 + 1))]) rfl ?_
        refine ev_goto (tgt := 4) hX dX2_menOnBoard_27 (by decide) ?_
        refine ev_mask [true, true, true] (L' := [some (.inr (.inl 1)), some (.inl x1), some (.inl (x2 + 1))]) rfl rfl ?_
        exact ih x1 (x2 + 1) w
      · refine ev_iinc hX dX2_menOnBoard_21 rfl (v := 1) (by decide +kernel) (L' := [some (.inr (.inl 1)), some (.inl (x1 + 1)), some (.inl x2)]) rfl ?_
        refine ev_iinc hX dX2_menOnBoard_24 rfl (v := 1) (by decide +kernel) (L' := [some (.inr (.inl 1)), some (.inl (x1 + 1)), some (.inl (x2 + 1))]) rfl ?_
        refine ev_goto (tgt := 4) hX dX2_menOnBoard_27 (by decide) ?_
        refine ev_mask [true, true, true] (L' := [some (.inr (.inl 1)), some (.inl (x1 + 1)), some (.inl (x2 + 1))]) rfl rfl ?_
        exact ih (x1 + 1) (x2 + 1) w
set_option maxHeartbeats 4000000 in
set_option maxRecDepth 100000 in
theorem c_X2_menOnBoard (l : Launch) (D : va_G) (cI cC : ClassId) (td : Nat → Option Nat) (w : mvW) : ∀ z, f_X2_menOnBoard w = some z → mv_Ci l D vwCl cI cC tbX td yX2_menOnBoard wsX2_menOnBoard rm_X2_menOnBoard shX w [.inr (.inl 1)] z := by
  refine mv_starti (own := RX2) rfl (by decide) rfl rfl (L0 := [some (.inr (.inl 1)), none, none]) rfl (fun p e s m args below meth c A ad0 hX hr => ?_)
  rw [f_X2_menOnBoard]
  refine ev_iconst hX dX2_menOnBoard_0 (v := 0) (by decide +kernel) ?_
  refine ev_istore_n hX dX2_menOnBoard_1 rfl (L' := [some (.inr (.inl 1)), some (.inl 0), none]) rfl ?_
  refine ev_iconst hX dX2_menOnBoard_2 (v := 0) (by decide +kernel) ?_
  refine ev_istore_n hX dX2_menOnBoard_3 rfl (L' := [some (.inr (.inl 1)), some (.inl 0), some (.inl 0)]) rfl ?_
  refine ev_mask [true, true, true] (L' := [some (.inr (.inl 1)), some (.inl 0), some (.inl 0)]) rfl rfl ?_
  exact e_X2_menOnBoard_4 hX hr 4096 0 0 w
def rm_X4_put : Room := { frames := 3, cells := 0, slots := 0, locals := 82 }
set_option maxRecDepth 20000 in
theorem in_X4_put_X4 : ∀ w ∈ u_ws RX4 TX4 7, w ∈ wsX4_put := by decide +kernel
set_option maxHeartbeats 4000000 in
set_option maxRecDepth 100000 in
theorem e_X4_put_51 (hX : mv_X p s m args meth c D vwCl cI cC tbX td A cX4_put 4 RX4 wsX4_put) (hr : meth.sig.returnType = (some .int)) (x1 : Int32) (x2 : Int32) (w : mvW) : EV p l e (headSpec wsX4_put rm_X4_put).room s m args below meth c D vwCl cI cC td A (fun a => a = ad0) (mv_Qi below args s D vwCl cI cC shX ad0 A) 0 0 shX [some (.inr (.inl 0)), some (.inl x1), some (.inl x2), none] [] 51 w (f_X4_put_51 x1 x2 w) := by
  rw [f_X4_put_51]
  refine ev_aload_n hX dX4_put_51 rfl ?_
  refine ev_getr (k := 0) hX (T := TX4) in_X4_put_X4 rfl rfl rfl (show Cond.fieldLink RX4 12 "FiveShogi" "position" "LFiveShogi$Position;" ∈ _ by decide +kernel) rfl dX4_put_52 ?_
  refine ev_iload_n hX dX4_put_55 rfl ?_
  refine ev_callVi hX (k0 := 1) (As := [.inl x1]) (rm := rm_X2_manOn) (c_X2_manOn l D cI cC td x1 w) (cwV 1 hX.ts gX4_put_X2_manOn rfl rfl rfl (by decide +kernel) ⟨Nat.le_of_ble_eq_true rfl, Nat.le_of_ble_eq_true rfl⟩) rfl rfl rfl rfl rfl rfl ⟨Nat.le_of_ble_eq_true rfl, Nat.le_of_ble_eq_true rfl⟩ dX4_put_56 rfl (fun z6 hz6 => ?_)
  refine ev_iload_n hX dX4_put_59 rfl ?_
  refine ev_icmp_ne (tgt := 67) hX dX4_put_60 (by decide) ?_ ?_
  · refine ev_aload_n hX dX4_put_67 rfl ?_
    refine ev_callVv hX (k0 := 0) (As := []) (rm := rm_X4_recordChange) (c_X4_recordChange l D cI cC td z6.2) (cwV 0 hX.ts gX4_put_X4_recordChange rfl rfl rfl (by decide +kernel) ⟨Nat.le_of_ble_eq_true rfl, Nat.le_of_ble_eq_true rfl⟩) rfl rfl rfl rfl rfl rfl ⟨Nat.le_of_ble_eq_true rfl, Nat.le_of_ble_eq_true rfl⟩ dX4_put_68 rfl (fun z7 hz7 => ?_)
    refine ev_aload_n hX dX4_put_71 rfl ?_
    refine ev_getr (k := 0) hX (T := TX4) in_X4_put_X4 rfl rfl rfl (show Cond.fieldLink RX4 12 "FiveShogi" "position" "LFiveShogi$Position;" ∈ _ by decide +kernel) rfl dX4_put_72 ?_
    refine ev_iload_n hX dX4_put_75 rfl ?_
    refine ev_iload_n hX dX4_put_76 rfl ?_
    refine ev_callVv hX (k0 := 1) (As := [.inl x1, .inl x2]) (rm := rm_X2_place) (c_X2_place l D cI cC td x1 x2 z7) (cwV 2 hX.ts gX4_put_X2_place rfl rfl rfl (by decide +kernel) ⟨Nat.le_of_ble_eq_true rfl, Nat.le_of_ble_eq_true rfl⟩) rfl rfl rfl rfl rfl rfl ⟨Nat.le_of_ble_eq_true rfl, Nat.le_of_ble_eq_true rfl⟩ dX4_put_77 rfl (fun z8 hz8 => ?_)
    refine ev_aload_n hX dX4_put_80 rfl ?_
    refine ev_getr (k := 0) hX (T := TX4) in_X4_put_X4 rfl rfl rfl (show Cond.fieldLink RX4 12 "FiveShogi" "position" "LFiveShogi$Position;" ∈ _ by decide +kernel) rfl dX4_put_81 ?_
    refine ev_callVi hX (k0 := 1) (As := []) (rm := rm_X2_menOnBoard) (c_X2_menOnBoard l D cI cC td z8) (cwV 0 hX.ts gX4_put_X2_menOnBoard rfl rfl rfl (by decide +kernel) ⟨Nat.le_of_ble_eq_true rfl, Nat.le_of_ble_eq_true rfl⟩) rfl rfl rfl rfl rfl rfl ⟨Nat.le_of_ble_eq_true rfl, Nat.le_of_ble_eq_true rfl⟩ dX4_put_84 rfl (fun z9 hz9 => ?_)
    exact ev_ireti hX hr dX4_put_87
  · refine ev_sipush hX dX4_put_63 (v := (-1005)) (by decide +kernel) ?_
    exact ev_ireti hX hr dX4_put_66
set_option maxHeartbeats 4000000 in
set_option maxRecDepth 100000 in
theorem c_X4_put (l : Launch) (D : va_G) (cI cC : ClassId) (td : Nat → Option Nat) (a1 : Int32) (a2 : Int32) (w : mvW) : ∀ z, f_X4_put a1 a2 w = some z → mv_Ci l D vwCl cI cC tbX td yX4_put wsX4_put rm_X4_put shX w [.inr (.inl 0), .inl a1, .inl a2] z := by
  refine mv_starti (own := RX4) rfl (by decide) rfl rfl (L0 := [some (.inr (.inl 0)), some (.inl a1), some (.inl a2), none]) rfl (fun p e s m args below meth c A ad0 hX hr => ?_)
  rw [f_X4_put]
  refine ev_iload_n hX dX4_put_0 rfl ?_
  refine ev_callSi hX (As := [.inl a1]) (rm := rm_X4_isSquare) (c_X4_isSquare l D cI cC td a1 w) (cwS 1 hX.ts gX4_put_X4_isSquare rfl rfl rfl (by decide +kernel) ⟨Nat.le_of_ble_eq_true rfl, Nat.le_of_ble_eq_true rfl⟩) rfl rfl rfl ⟨Nat.le_of_ble_eq_true rfl, Nat.le_of_ble_eq_true rfl⟩ dX4_put_1 rfl (fun z1 hz1 => ?_)
  refine ev_if_eq (tgt := 14) hX dX4_put_4 (by decide) ?_ ?_
  · refine ev_sipush hX dX4_put_14 (v := (-1001)) (by decide +kernel) ?_
    exact ev_ireti hX hr dX4_put_17
  · refine ev_iload_n hX dX4_put_7 rfl ?_
    refine ev_callSi hX (As := [.inl a2]) (rm := rm_X4_isMan) (c_X4_isMan l D cI cC td a2 z1.2) (cwS 1 hX.ts gX4_put_X4_isMan rfl rfl rfl (by decide +kernel) ⟨Nat.le_of_ble_eq_true rfl, Nat.le_of_ble_eq_true rfl⟩) rfl rfl rfl ⟨Nat.le_of_ble_eq_true rfl, Nat.le_of_ble_eq_true rfl⟩ dX4_put_8 rfl (fun z2 hz2 => ?_)
    refine ev_if_ne (tgt := 18) hX dX4_put_11 (by decide) ?_ ?_
    · refine ev_aload_n hX dX4_put_18 rfl ?_
      refine ev_getr (k := 0) hX (T := TX4) in_X4_put_X4 rfl rfl rfl (show Cond.fieldLink RX4 12 "FiveShogi" "position" "LFiveShogi$Position;" ∈ _ by decide +kernel) rfl dX4_put_19 ?_
      refine ev_iload_n hX dX4_put_22 rfl ?_
      refine ev_callSi hX (As := [.inl a2]) (rm := rm_X4_sideOf) (c_X4_sideOf l D cI cC td a2 z2.2) (cwS 1 hX.ts gX4_put_X4_sideOf rfl rfl rfl (by decide +kernel) ⟨Nat.le_of_ble_eq_true rfl, Nat.le_of_ble_eq_true rfl⟩) rfl rfl rfl ⟨Nat.le_of_ble_eq_true rfl, Nat.le_of_ble_eq_true rfl⟩ dX4_put_23 rfl (fun z3 hz3 => ?_)
      refine ev_callVi hX (k0 := 1) (As := [.inl z3.1]) (rm := rm_X2_kingOf) (c_X2_kingOf l D cI cC td z3.1 z3.2) (cwV 1 hX.ts gX4_put_X2_kingOf rfl rfl rfl (by decide +kernel) ⟨Nat.le_of_ble_eq_true rfl, Nat.le_of_ble_eq_true rfl⟩) rfl rfl rfl rfl rfl rfl ⟨Nat.le_of_ble_eq_true rfl, Nat.le_of_ble_eq_true rfl⟩ dX4_put_26 rfl (fun z4 hz4 => ?_)
      refine ev_istore_n hX dX4_put_29 rfl (L' := [some (.inr (.inl 0)), some (.inl a1), some (.inl a2), some (.inl z4.1)]) rfl ?_
      refine ev_iload_n hX dX4_put_30 rfl ?_
      refine ev_callSi hX (As := [.inl a2]) (rm := rm_X4_kindOf) (c_X4_kindOf l D cI cC td a2 z4.2) (cwS 1 hX.ts gX4_put_X4_kindOf rfl rfl rfl (by decide +kernel) ⟨Nat.le_of_ble_eq_true rfl, Nat.le_of_ble_eq_true rfl⟩) rfl rfl rfl ⟨Nat.le_of_ble_eq_true rfl, Nat.le_of_ble_eq_true rfl⟩ dX4_put_31 rfl (fun z5 hz5 => ?_)
      refine ev_if_ne (tgt := 51) hX dX4_put_34 (by decide) ?_ ?_
      · refine ev_mask [true, true, true, false] (L' := [some (.inr (.inl 0)), some (.inl a1), some (.inl a2), none]) rfl rfl ?_
        exact e_X4_put_51 hX hr a1 a2 z5.2
      · refine ev_iload_n hX dX4_put_37 rfl ?_
        refine ev_iconst hX dX4_put_38 (v := (-1)) (by decide +kernel) ?_
        refine ev_icmp_eq (tgt := 51) hX dX4_put_39 (by decide) ?_ ?_
        · refine ev_mask [true, true, true, false] (L' := [some (.inr (.inl 0)), some (.inl a1), some (.inl a2), none]) rfl rfl ?_
          exact e_X4_put_51 hX hr a1 a2 z5.2
        · refine ev_iload_n hX dX4_put_42 rfl ?_
          refine ev_iload_n hX dX4_put_43 rfl ?_
          refine ev_icmp_eq (tgt := 51) hX dX4_put_44 (by decide) ?_ ?_
          · refine ev_mask [true, true, true, false] (L' := [some (.inr (.inl 0)), some (.inl a1), some (.inl a2), none]) rfl rfl ?_
            exact e_X4_put_51 hX hr a1 a2 z5.2
          · refine ev_sipush hX dX4_put_47 (v := (-1004)) (by decide +kernel) ?_
            exact ev_ireti hX hr dX4_put_50
    · refine ev_sipush hX dX4_put_14 (v := (-1001)) (by decide +kernel) ?_
      exact ev_ireti hX hr dX4_put_17
def rm_X5_hasKingElsewhere : Room := { frames := 1, cells := 0, slots := 0, locals := 22 }
set_option maxHeartbeats 4000000 in
set_option maxRecDepth 100000 in
theorem e_X5_hasKingElsewhere_5 (hX : mv_X p s m args meth c D vwCl cI cC tbX td A cX5_hasKingElsewhere 5 RX5 wsX5_hasKingElsewhere) (hr : meth.sig.returnType = (some .boolean)) : ∀ (n : Nat) (x1 : Int32) (x2 : Int32) (x3 : Int32) (x4 : Int32) (w : mvW), EV p l e (headSpec wsX5_hasKingElsewhere rm_X5_hasKingElsewhere).room s m args below meth c D vwCl cI cC td A (fun a => a = ad0) (mv_Qi below args s D vwCl cI cC shM ad0 A) 0 0 shM [some (.inr (.inl 0)), some (.inl x1), some (.inl x2), some (.inl x3), some (.inl x4)] [] 5 w (f_X5_hasKingElsewhere_5 n x1 x2 x3 x4 w) := by
  intro n
  induction n with
  | zero => intro x1 x2 x3 x4 w; exact ev_none
  | succ n ih =>
    intro x1 x2 x3 x4 w
    rw [f_X5_hasKingElsewhere_5]
    refine ev_iload hX dX5_hasKingElsewhere_5 rfl ?_
    refine ev_bipush hX dX5_hasKingElsewhere_7 (v := 25) (by decide +kernel) ?_
    refine ev_icmp_ge (tgt := 50) hX dX5_hasKingElsewhere_9 (by decide) ?_ ?_
    · refine ev_iload_n hX dX5_hasKingElsewhere_50 rfl ?_
      exact ev_iretz hX hr dX5_hasKingElsewhere_51
    · refine ev_iload_n hX dX5_hasKingElsewhere_12 rfl ?_
      refine ev_if_ne (tgt := 38) hX dX5_hasKingElsewhere_13 (by decide) ?_ ?_
      · refine ev_iconst hX dX5_hasKingElsewhere_38 (v := 1) (by decide +kernel) ?_
        refine ev_goto (tgt := 43) hX dX5_hasKingElsewhere_39 (by decide) ?_
        refine ev_istore_n hX dX5_hasKingElsewhere_43 rfl (L' := [some (.inr (.inl 0)), some (.inl x1), some (.inl x2), some (.inl 1), some (.inl x4)]) rfl ?_
        refine ev_iinc hX dX5_hasKingElsewhere_44 rfl (v := 1) (by decide +kernel) (L' := [some (.inr (.inl 0)), some (.inl x1), some (.inl x2), some (.inl 1), some (.inl (x4 + 1))]) rfl ?_
        refine ev_goto (tgt := 5) hX dX5_hasKingElsewhere_47 (by decide) ?_
        refine ev_mask [true, true, true, true, true] (L' := [some (.inr (.inl 0)), some (.inl x1), some (.inl x2), some (.inl 1), some (.inl (x4 + 1))]) rfl rfl ?_
        exact ih x1 x2 1 (x4 + 1) w
      · refine ev_iload hX dX5_hasKingElsewhere_16 rfl ?_
        refine ev_iload_n hX dX5_hasKingElsewhere_18 rfl ?_
        refine ev_icmp_eq (tgt := 42) hX dX5_hasKingElsewhere_19 (by decide) ?_ ?_
        · refine ev_iconst hX dX5_hasKingElsewhere_42 (v := 0) (by decide +kernel) ?_
          refine ev_istore_n hX dX5_hasKingElsewhere_43 rfl (L' := [some (.inr (.inl 0)), some (.inl x1), some (.inl x2), some (.inl 0), some (.inl x4)]) rfl ?_
          refine ev_iinc hX dX5_hasKingElsewhere_44 rfl (v := 1) (by decide +kernel) (L' := [some (.inr (.inl 0)), some (.inl x1), some (.inl x2), some (.inl 0), some (.inl (x4 + 1))]) rfl ?_
          refine ev_goto (tgt := 5) hX dX5_hasKingElsewhere_47 (by decide) ?_
          refine ev_mask [true, true, true, true, true] (L' := [some (.inr (.inl 0)), some (.inl x1), some (.inl x2), some (.inl 0), some (.inl (x4 + 1))]) rfl rfl ?_
          exact ih x1 x2 0 (x4 + 1) w
        · refine ev_aload_n hX dX5_hasKingElsewhere_22 rfl ?_
          refine ev_iconst hX dX5_hasKingElsewhere_23 (v := 0) (by decide +kernel) ?_
          refine ev_iload hX dX5_hasKingElsewhere_24 rfl ?_
          refine ev_callVi hX (k0 := 0) (As := [.inl 0, .inl x4]) (rm := rm_X5_manAt) (c_X5_manAt l D cI cC td 0 x4 w) (cwV 2 hX.ts gX5_hasKingElsewhere_X5_manAt rfl rfl rfl (by decide +kernel) ⟨Nat.le_of_ble_eq_true rfl, Nat.le_of_ble_eq_true rfl⟩) rfl rfl rfl rfl rfl rfl ⟨Nat.le_of_ble_eq_true rfl, Nat.le_of_ble_eq_true rfl⟩ dX5_hasKingElsewhere_26 rfl (fun z1 hz1 => ?_)
          refine ev_bipush hX dX5_hasKingElsewhere_29 (v := 10) (by decide +kernel) ?_
          refine ev_iload_n hX dX5_hasKingElsewhere_31 rfl ?_
          refine ev_imul hX dX5_hasKingElsewhere_32 ?_
          refine ev_iconst hX dX5_hasKingElsewhere_33 (v := 0) (by decide +kernel) ?_
          refine ev_iadd hX dX5_hasKingElsewhere_34 ?_
          refine ev_icmp_ne (tgt := 42) hX dX5_hasKingElsewhere_35 (by decide) ?_ ?_
          · refine ev_iconst hX dX5_hasKingElsewhere_42 (v := 0) (by decide +kernel) ?_
            refine ev_istore_n hX dX5_hasKingElsewhere_43 rfl (L' := [some (.inr (.inl 0)), some (.inl x1), some (.inl x2), some (.inl 0), some (.inl x4)]) rfl ?_
            refine ev_iinc hX dX5_hasKingElsewhere_44 rfl (v := 1) (by decide +kernel) (L' := [some (.inr (.inl 0)), some (.inl x1), some (.inl x2), some (.inl 0), some (.inl (x4 + 1))]) rfl ?_
            refine ev_goto (tgt := 5) hX dX5_hasKingElsewhere_47 (by decide) ?_
            refine ev_mask [true, true, true, true, true] (L' := [some (.inr (.inl 0)), some (.inl x1), some (.inl x2), some (.inl 0), some (.inl (x4 + 1))]) rfl rfl ?_
            exact ih x1 x2 0 (x4 + 1) z1.2
          · refine ev_iconst hX dX5_hasKingElsewhere_38 (v := 1) (by decide +kernel) ?_
            refine ev_goto (tgt := 43) hX dX5_hasKingElsewhere_39 (by decide) ?_
            refine ev_istore_n hX dX5_hasKingElsewhere_43 rfl (L' := [some (.inr (.inl 0)), some (.inl x1), some (.inl x2), some (.inl 1), some (.inl x4)]) rfl ?_
            refine ev_iinc hX dX5_hasKingElsewhere_44 rfl (v := 1) (by decide +kernel) (L' := [some (.inr (.inl 0)), some (.inl x1), some (.inl x2), some (.inl 1), some (.inl (x4 + 1))]) rfl ?_
            refine ev_goto (tgt := 5) hX dX5_hasKingElsewhere_47 (by decide) ?_
            refine ev_mask [true, true, true, true, true] (L' := [some (.inr (.inl 0)), some (.inl x1), some (.inl x2), some (.inl 1), some (.inl (x4 + 1))]) rfl rfl ?_
            exact ih x1 x2 1 (x4 + 1) z1.2
set_option maxHeartbeats 4000000 in
set_option maxRecDepth 100000 in
theorem c_X5_hasKingElsewhere (l : Launch) (D : va_G) (cI cC : ClassId) (td : Nat → Option Nat) (a1 : Int32) (a2 : Int32) (w : mvW) : ∀ z, f_X5_hasKingElsewhere a1 a2 w = some z → mv_Ci l D vwCl cI cC tbX td yX5_hasKingElsewhere wsX5_hasKingElsewhere rm_X5_hasKingElsewhere shM w [.inr (.inl 0), .inl a1, .inl a2] z := by
  refine mv_starti (own := RX5) rfl (by decide) rfl rfl (L0 := [some (.inr (.inl 0)), some (.inl a1), some (.inl a2), none, none]) rfl (fun p e s m args below meth c A ad0 hX hr => ?_)
  rw [f_X5_hasKingElsewhere]
  refine ev_iconst hX dX5_hasKingElsewhere_0 (v := 0) (by decide +kernel) ?_
  refine ev_istore_n hX dX5_hasKingElsewhere_1 rfl (L' := [some (.inr (.inl 0)), some (.inl a1), some (.inl a2), some (.inl 0), none]) rfl ?_
  refine ev_iconst hX dX5_hasKingElsewhere_2 (v := 0) (by decide +kernel) ?_
  refine ev_istore hX dX5_hasKingElsewhere_3 rfl (L' := [some (.inr (.inl 0)), some (.inl a1), some (.inl a2), some (.inl 0), some (.inl 0)]) rfl ?_
  refine ev_mask [true, true, true, true, true] (L' := [some (.inr (.inl 0)), some (.inl a1), some (.inl a2), some (.inl 0), some (.inl 0)]) rfl rfl ?_
  exact e_X5_hasKingElsewhere_5 hX hr 4096 a1 a2 0 0 w
def rm_X5_onBoard : Room := { frames := 0, cells := 0, slots := 0, locals := 0 }
set_option maxRecDepth 20000 in
theorem in_X5_onBoard_X5 : ∀ w ∈ u_ws RX5 TX5 8, w ∈ wsX5_onBoard := by decide +kernel
set_option maxHeartbeats 4000000 in
set_option maxRecDepth 100000 in
theorem e_X5_onBoard_4 (hX : mv_X p s m args meth c D vwCl cI cC tbX td A cX5_onBoard 3 RX5 wsX5_onBoard) (hr : meth.sig.returnType = (some .int)) : ∀ (n : Nat) (x1 : Int32) (x2 : Int32) (w : mvW), EV p l e (headSpec wsX5_onBoard rm_X5_onBoard).room s m args below meth c D vwCl cI cC td A (fun a => a = ad0) (mv_Qi below args s D vwCl cI cC shM ad0 A) 0 0 shM [some (.inr (.inl 0)), some (.inl x1), some (.inl x2)] [] 4 w (f_X5_onBoard_4 n x1 x2 w) := by
  intro n
  induction n with
  | zero => intro x1 x2 w; exact ev_none
  | succ n ih =>
    intro x1 x2 w
    rw [f_X5_onBoard_4]
    refine ev_iload_n hX dX5_onBoard_4 rfl ?_
    refine ev_bipush hX dX5_onBoard_5 (v := 25) (by decide +kernel) ?_
    refine ev_icmp_ge (tgt := 33) hX dX5_onBoard_7 (by decide) ?_ ?_
    · refine ev_iload_n hX dX5_onBoard_33 rfl ?_
      exact ev_ireti hX hr dX5_onBoard_34
    · refine ev_iload_n hX dX5_onBoard_10 rfl ?_
      refine ev_aload_n hX dX5_onBoard_11 rfl ?_
      refine ev_getr (k := 0) hX (T := TX5) in_X5_onBoard_X5 rfl rfl rfl (show Cond.fieldLink RX5 7 "FiveShogiModel" "s" "[I" ∈ _ by decide +kernel) rfl dX5_onBoard_12 ?_
      refine ev_iload_n hX dX5_onBoard_15 rfl ?_
      refine ev_iald hX rfl dX5_onBoard_16 (fun j1 => ?_)
      refine ev_if_le (tgt := 24) hX dX5_onBoard_17 (by decide) ?_ ?_
      · refine ev_iconst hX dX5_onBoard_24 (v := 0) (by decide +kernel) ?_
        refine ev_iadd hX dX5_onBoard_25 ?_
        refine ev_istore_n hX dX5_onBoard_26 rfl (L' := [some (.inr (.inl 0)), some (.inl (x1 + 0)), some (.inl x2)]) rfl ?_
        refine ev_iinc hX dX5_onBoard_27 rfl (v := 1) (by decide +kernel) (L' := [some (.inr (.inl 0)), some (.inl (x1 + 0)), some (.inl (x2 + 1))]) rfl ?_
        refine ev_goto (tgt := 4) hX dX5_onBoard_30 (by decide) ?_
        refine ev_mask [true, true, true] (L' := [some (.inr (.inl 0)), some (.inl (x1 + 0)), some (.inl (x2 + 1))]) rfl rfl ?_
        exact ih (x1 + 0) (x2 + 1) w
      · refine ev_iconst hX dX5_onBoard_20 (v := 1) (by decide +kernel) ?_
        refine ev_goto (tgt := 25) hX dX5_onBoard_21 (by decide) ?_
        refine ev_iadd hX dX5_onBoard_25 ?_
        refine ev_istore_n hX dX5_onBoard_26 rfl (L' := [some (.inr (.inl 0)), some (.inl (x1 + 1)), some (.inl x2)]) rfl ?_
        refine ev_iinc hX dX5_onBoard_27 rfl (v := 1) (by decide +kernel) (L' := [some (.inr (.inl 0)), some (.inl (x1 + 1)), some (.inl (x2 + 1))]) rfl ?_
        refine ev_goto (tgt := 4) hX dX5_onBoard_30 (by decide) ?_
        refine ev_mask [true, true, true] (L' := [some (.inr (.inl 0)), some (.inl (x1 + 1)), some (.inl (x2 + 1))]) rfl rfl ?_
        exact ih (x1 + 1) (x2 + 1) w
set_option maxHeartbeats 4000000 in
set_option maxRecDepth 100000 in
theorem c_X5_onBoard (l : Launch) (D : va_G) (cI cC : ClassId) (td : Nat → Option Nat) (w : mvW) : ∀ z, f_X5_onBoard w = some z → mv_Ci l D vwCl cI cC tbX td yX5_onBoard wsX5_onBoard rm_X5_onBoard shM w [.inr (.inl 0)] z := by
  refine mv_starti (own := RX5) rfl (by decide) rfl rfl (L0 := [some (.inr (.inl 0)), none, none]) rfl (fun p e s m args below meth c A ad0 hX hr => ?_)
  rw [f_X5_onBoard]
  refine ev_iconst hX dX5_onBoard_0 (v := 0) (by decide +kernel) ?_
  refine ev_istore_n hX dX5_onBoard_1 rfl (L' := [some (.inr (.inl 0)), some (.inl 0), none]) rfl ?_
  refine ev_iconst hX dX5_onBoard_2 (v := 0) (by decide +kernel) ?_
  refine ev_istore_n hX dX5_onBoard_3 rfl (L' := [some (.inr (.inl 0)), some (.inl 0), some (.inl 0)]) rfl ?_
  refine ev_mask [true, true, true] (L' := [some (.inr (.inl 0)), some (.inl 0), some (.inl 0)]) rfl rfl ?_
  exact e_X5_onBoard_4 hX hr 4096 0 0 w
def rm_X5_put : Room := { frames := 2, cells := 0, slots := 0, locals := 46 }
set_option maxRecDepth 20000 in
theorem in_X5_put_X5 : ∀ w ∈ u_ws RX5 TX5 8, w ∈ wsX5_put := by decide +kernel
set_option maxHeartbeats 4000000 in
set_option maxRecDepth 100000 in
theorem e_X5_put_44 (hX : mv_X p s m args meth c D vwCl cI cC tbX td A cX5_put 3 RX5 wsX5_put) (hr : meth.sig.returnType = (some .int)) (x1 : Int32) (x2 : Int32) (w : mvW) : EV p l e (headSpec wsX5_put rm_X5_put).room s m args below meth c D vwCl cI cC td A (fun a => a = ad0) (mv_Qi below args s D vwCl cI cC shM ad0 A) 0 0 shM [some (.inr (.inl 0)), some (.inl x1), some (.inl x2)] [] 44 w (f_X5_put_44 x1 x2 w) := by
  rw [f_X5_put_44]
  refine ev_aload_n hX dX5_put_44 rfl ?_
  refine ev_iconst hX dX5_put_45 (v := 0) (by decide +kernel) ?_
  refine ev_iload_n hX dX5_put_46 rfl ?_
  refine ev_callVi hX (k0 := 0) (As := [.inl 0, .inl x1]) (rm := rm_X5_manAt) (c_X5_manAt l D cI cC td 0 x1 w) (cwV 2 hX.ts gX5_put_X5_manAt rfl rfl rfl (by decide +kernel) ⟨Nat.le_of_ble_eq_true rfl, Nat.le_of_ble_eq_true rfl⟩) rfl rfl rfl rfl rfl rfl ⟨Nat.le_of_ble_eq_true rfl, Nat.le_of_ble_eq_true rfl⟩ dX5_put_47 rfl (fun z4 hz4 => ?_)
  refine ev_iload_n hX dX5_put_50 rfl ?_
  refine ev_icmp_ne (tgt := 58) hX dX5_put_51 (by decide) ?_ ?_
  · refine ev_aload_n hX dX5_put_58 rfl ?_
    refine ev_callVv hX (k0 := 0) (As := []) (rm := rm_X5_remembers) (c_X5_remembers l D cI cC td z4.2) (cwV 0 hX.ts gX5_put_X5_remembers rfl rfl rfl (by decide +kernel) ⟨Nat.le_of_ble_eq_true rfl, Nat.le_of_ble_eq_true rfl⟩) rfl rfl rfl rfl rfl rfl ⟨Nat.le_of_ble_eq_true rfl, Nat.le_of_ble_eq_true rfl⟩ dX5_put_59 rfl (fun z5 hz5 => ?_)
    refine ev_aload_n hX dX5_put_62 rfl ?_
    refine ev_getr (k := 0) hX (T := TX5) in_X5_put_X5 rfl rfl rfl (show Cond.fieldLink RX5 7 "FiveShogiModel" "s" "[I" ∈ _ by decide +kernel) rfl dX5_put_63 ?_
    refine ev_iload_n hX dX5_put_66 rfl ?_
    refine ev_iload_n hX dX5_put_67 rfl ?_
    refine ev_iconst hX dX5_put_68 (v := 1) (by decide +kernel) ?_
    refine ev_iadd hX dX5_put_69 ?_
    refine ev_iast hX rfl dX5_put_70 (fun j6 => ?_)
    refine ev_aload_n hX dX5_put_71 rfl ?_
    refine ev_callVi hX (k0 := 0) (As := []) (rm := rm_X5_onBoard) (c_X5_onBoard l D cI cC td (mv_up z5 1 j6 (x2 + 1))) (cwV 0 hX.ts gX5_put_X5_onBoard rfl rfl rfl (by decide +kernel) ⟨Nat.le_of_ble_eq_true rfl, Nat.le_of_ble_eq_true rfl⟩) rfl rfl rfl rfl rfl rfl ⟨Nat.le_of_ble_eq_true rfl, Nat.le_of_ble_eq_true rfl⟩ dX5_put_72 rfl (fun z7 hz7 => ?_)
    exact ev_ireti hX hr dX5_put_75
  · refine ev_sipush hX dX5_put_54 (v := (-1005)) (by decide +kernel) ?_
    exact ev_ireti hX hr dX5_put_57
set_option maxHeartbeats 4000000 in
set_option maxRecDepth 100000 in
theorem c_X5_put (l : Launch) (D : va_G) (cI cC : ClassId) (td : Nat → Option Nat) (a1 : Int32) (a2 : Int32) (w : mvW) : ∀ z, f_X5_put a1 a2 w = some z → mv_Ci l D vwCl cI cC tbX td yX5_put wsX5_put rm_X5_put shM w [.inr (.inl 0), .inl a1, .inl a2] z := by
  refine mv_starti (own := RX5) rfl (by decide) rfl rfl (L0 := [some (.inr (.inl 0)), some (.inl a1), some (.inl a2)]) rfl (fun p e s m args below meth c A ad0 hX hr => ?_)
  rw [f_X5_put]
  refine ev_iload_n hX dX5_put_0 rfl ?_
  refine ev_callSi hX (As := [.inl a1]) (rm := rm_X5_isSquare) (c_X5_isSquare l D cI cC td a1 w) (cwS 1 hX.ts gX5_put_X5_isSquare rfl rfl rfl (by decide +kernel) ⟨Nat.le_of_ble_eq_true rfl, Nat.le_of_ble_eq_true rfl⟩) rfl rfl rfl ⟨Nat.le_of_ble_eq_true rfl, Nat.le_of_ble_eq_true rfl⟩ dX5_put_1 rfl (fun z1 hz1 => ?_)
  refine ev_if_eq (tgt := 17) hX dX5_put_4 (by decide) ?_ ?_
  · refine ev_sipush hX dX5_put_17 (v := (-1001)) (by decide +kernel) ?_
    exact ev_ireti hX hr dX5_put_20
  · refine ev_iload_n hX dX5_put_7 rfl ?_
    refine ev_iconst hX dX5_put_8 (v := 0) (by decide +kernel) ?_
    refine ev_bipush hX dX5_put_9 (v := 19) (by decide +kernel) ?_
    refine ev_callSi hX (As := [.inl a2, .inl 0, .inl 19]) (rm := rm_X5_in) (c_X5_in l D cI cC td a2 0 19 z1.2) (cwS 3 hX.ts gX5_put_X5_in rfl rfl rfl (by decide +kernel) ⟨Nat.le_of_ble_eq_true rfl, Nat.le_of_ble_eq_true rfl⟩) rfl rfl rfl ⟨Nat.le_of_ble_eq_true rfl, Nat.le_of_ble_eq_true rfl⟩ dX5_put_11 rfl (fun z2 hz2 => ?_)
    refine ev_if_ne (tgt := 21) hX dX5_put_14 (by decide) ?_ ?_
    · refine ev_iload_n hX dX5_put_21 rfl ?_
      refine ev_bipush hX dX5_put_22 (v := 10) (by decide +kernel) ?_
      refine ev_irem hX dX5_put_24 (by decide) ?_
      refine ev_if_ne (tgt := 44) hX dX5_put_25 (by decide) ?_ ?_
      · refine ev_mask [true, true, true] (L' := [some (.inr (.inl 0)), some (.inl a1), some (.inl a2)]) rfl rfl ?_
        exact e_X5_put_44 hX hr a1 a2 z2.2
      · refine ev_aload_n hX dX5_put_28 rfl ?_
        refine ev_iload_n hX dX5_put_29 rfl ?_
        refine ev_bipush hX dX5_put_30 (v := 10) (by decide +kernel) ?_
        refine ev_idiv hX dX5_put_32 (by decide) ?_
        refine ev_iload_n hX dX5_put_33 rfl ?_
        refine ev_callVi hX (k0 := 0) (As := [.inl (a2 / 10), .inl a1]) (rm := rm_X5_hasKingElsewhere) (c_X5_hasKingElsewhere l D cI cC td (a2 / 10) a1 z2.2) (cwV 2 hX.ts gX5_put_X5_hasKingElsewhere rfl rfl rfl (by decide +kernel) ⟨Nat.le_of_ble_eq_true rfl, Nat.le_of_ble_eq_true rfl⟩) rfl rfl rfl rfl rfl rfl ⟨Nat.le_of_ble_eq_true rfl, Nat.le_of_ble_eq_true rfl⟩ dX5_put_34 rfl (fun z3 hz3 => ?_)
        refine ev_if_eq (tgt := 44) hX dX5_put_37 (by decide) ?_ ?_
        · refine ev_mask [true, true, true] (L' := [some (.inr (.inl 0)), some (.inl a1), some (.inl a2)]) rfl rfl ?_
          exact e_X5_put_44 hX hr a1 a2 z3.2
        · refine ev_sipush hX dX5_put_40 (v := (-1004)) (by decide +kernel) ?_
          exact ev_ireti hX hr dX5_put_43
    · refine ev_sipush hX dX5_put_17 (v := (-1001)) (by decide +kernel) ?_
      exact ev_ireti hX hr dX5_put_20
end
