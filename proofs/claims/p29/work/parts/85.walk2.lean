section
variable {p : Program} {l : Launch} {e : Env} {s : State} {m : MethodId} {args : Array Value} {below : List Frame} {meth : Method} {c : Code} {D : va_G} {cI cC : ClassId} {td : Nat → Option Nat} {A : Nat → Prop} {ad0 : Nat → Nat}
def rm_X2_worthFor : Room := { frames := 2, cells := 0, slots := 0, locals := 42 }
set_option maxRecDepth 20000 in
theorem in_X2_worthFor_X2 : ∀ w ∈ u_ws RX2 TX2 2, w ∈ wsX2_worthFor := by decide +kernel
set_option maxHeartbeats 4000000 in
set_option maxRecDepth 100000 in
theorem e_X2_worthFor_82 (hX : mv_X p s m args meth c D vwCl cI cC tbX td A cX2_worthFor 6 RX2 wsX2_worthFor) (hr : meth.sig.returnType = (some .int)) : ∀ (n : Nat) (x1 : Int32) (x2 : Int32) (x3 : Int32) (w : mvW), EV p l e (headSpec wsX2_worthFor rm_X2_worthFor).room s m args below meth c D vwCl cI cC td A (fun a => a = ad0) (mv_Qi below args s D vwCl cI cC shX ad0 A) 0 0 shX [some (.inr (.inl 1)), some (.inl x1), some (.inl x2), some (.inl x3), none, none] [] 82 w (f_X2_worthFor_82 n x1 x2 x3 w) := by
  intro n
  induction n with
  | zero => intro x1 x2 x3 w; exact ev_none
  | succ n ih =>
    intro x1 x2 x3 w
    rw [f_X2_worthFor_82]
    refine ev_iload_n hX dX2_worthFor_82 rfl ?_
    refine ev_iconst hX dX2_worthFor_83 (v := 5) (by decide +kernel) ?_
    refine ev_icmp_gt (tgt := 127) hX dX2_worthFor_84 (by decide) ?_ ?_
    · refine ev_iload_n hX dX2_worthFor_127 rfl ?_
      exact ev_ireti hX hr dX2_worthFor_128
    · refine ev_iload_n hX dX2_worthFor_87 rfl ?_
      refine ev_getsN (j := 4) (host := "FiveShogi") hX rfl (List.mem_of_getElem? (i := 3) rfl) dX2_worthFor_88 ?_
      refine ev_tlen hX rfl (v := 10) (by decide +kernel) dX2_worthFor_91 ?_
      refine ev_icmp_ge (tgt := 127) hX dX2_worthFor_92 (by decide) ?_ ?_
      · refine ev_iload_n hX dX2_worthFor_127 rfl ?_
        exact ev_ireti hX hr dX2_worthFor_128
      · refine ev_iload_n hX dX2_worthFor_95 rfl ?_
        refine ev_aload_n hX dX2_worthFor_96 rfl ?_
        refine ev_iload_n hX dX2_worthFor_97 rfl ?_
        refine ev_iload_n hX dX2_worthFor_98 rfl ?_
        refine ev_callVi hX (k0 := 1) (As := [.inl x1, .inl x3]) (rm := rm_X2_inHand) (c_X2_inHand l D cI cC td x1 x3 w) (cwV 2 hX.ts gX2_worthFor_X2_inHand rfl rfl rfl (by decide +kernel) ⟨Nat.le_of_ble_eq_true rfl, Nat.le_of_ble_eq_true rfl⟩) rfl rfl rfl rfl rfl rfl ⟨Nat.le_of_ble_eq_true rfl, Nat.le_of_ble_eq_true rfl⟩ dX2_worthFor_99 rfl (fun z6 hz6 => ?_)
        refine ev_aload_n hX dX2_worthFor_102 rfl ?_
        refine ev_iconst hX dX2_worthFor_103 (v := 1) (by decide +kernel) ?_
        refine ev_iload_n hX dX2_worthFor_104 rfl ?_
        refine ev_isub hX dX2_worthFor_105 ?_
        refine ev_iload_n hX dX2_worthFor_106 rfl ?_
        refine ev_callVi hX (k0 := 1) (As := [.inl (1 - x1), .inl x3]) (rm := rm_X2_inHand) (c_X2_inHand l D cI cC td (1 - x1) x3 z6.2) (cwV 2 hX.ts gX2_worthFor_X2_inHand rfl rfl rfl (by decide +kernel) ⟨Nat.le_of_ble_eq_true rfl, Nat.le_of_ble_eq_true rfl⟩) rfl rfl rfl rfl rfl rfl ⟨Nat.le_of_ble_eq_true rfl, Nat.le_of_ble_eq_true rfl⟩ dX2_worthFor_107 rfl (fun z7 hz7 => ?_)
        refine ev_isub hX dX2_worthFor_110 ?_
        refine ev_getsN (j := 4) (host := "FiveShogi") hX rfl (List.mem_of_getElem? (i := 3) rfl) dX2_worthFor_111 ?_
        refine ev_iload_n hX dX2_worthFor_114 rfl ?_
        refine ev_tald (xs := tb_WORTHS) hX rfl dX2_worthFor_115 (fun j8 => ?_)
        refine ev_iconst hX dX2_worthFor_116 (v := 1) (by decide +kernel) ?_
        refine ev_iadd hX dX2_worthFor_117 ?_
        refine ev_imul hX dX2_worthFor_118 ?_
        refine ev_iadd hX dX2_worthFor_119 ?_
        refine ev_istore_n hX dX2_worthFor_120 rfl (L' := [some (.inr (.inl 1)), some (.inl x1), some (.inl (x2 + ((z6.1 - z7.1) * ((tb_WORTHS.getD j8 0) + 1)))), some (.inl x3), none, none]) rfl ?_
        refine ev_iinc hX dX2_worthFor_121 rfl (v := 1) (by decide +kernel) (L' := [some (.inr (.inl 1)), some (.inl x1), some (.inl (x2 + ((z6.1 - z7.1) * ((tb_WORTHS.getD j8 0) + 1)))), some (.inl (x3 + 1)), none, none]) rfl ?_
        refine ev_goto (tgt := 82) hX dX2_worthFor_124 (by decide) ?_
        refine ev_mask [true, true, true, true, false, false] (L' := [some (.inr (.inl 1)), some (.inl x1), some (.inl (x2 + ((z6.1 - z7.1) * ((tb_WORTHS.getD j8 0) + 1)))), some (.inl (x3 + 1)), none, none]) rfl rfl ?_
        exact ih x1 (x2 + ((z6.1 - z7.1) * ((tb_WORTHS.getD j8 0) + 1))) (x3 + 1) z7.2
set_option maxHeartbeats 4000000 in
set_option maxRecDepth 100000 in
theorem e_X2_worthFor_4 (hX : mv_X p s m args meth c D vwCl cI cC tbX td A cX2_worthFor 6 RX2 wsX2_worthFor) (hr : meth.sig.returnType = (some .int)) : ∀ (n : Nat) (x1 : Int32) (x2 : Int32) (x3 : Int32) (w : mvW), EV p l e (headSpec wsX2_worthFor rm_X2_worthFor).room s m args below meth c D vwCl cI cC td A (fun a => a = ad0) (mv_Qi below args s D vwCl cI cC shX ad0 A) 0 0 shX [some (.inr (.inl 1)), some (.inl x1), some (.inl x2), some (.inl x3), none, none] [] 4 w (f_X2_worthFor_4 n x1 x2 x3 w) := by
  intro n
  induction n with
  | zero => intro x1 x2 x3 w; exact ev_none
  | succ n ih =>
    intro x1 x2 x3 w
    rw [f_X2_worthFor_4]
    refine ev_iload_n hX dX2_worthFor_4 rfl ?_
    refine ev_bipush hX dX2_worthFor_5 (v := 25) (by decide +kernel) ?_
    refine ev_icmp_ge (tgt := 80) hX dX2_worthFor_7 (by decide) ?_ ?_
    · refine ev_iconst hX dX2_worthFor_80 (v := 1) (by decide +kernel) ?_
      refine ev_istore_n hX dX2_worthFor_81 rfl (L' := [some (.inr (.inl 1)), some (.inl x1), some (.inl x2), some (.inl 1), none, none]) rfl ?_
      refine ev_mask [true, true, true, true, false, false] (L' := [some (.inr (.inl 1)), some (.inl x1), some (.inl x2), some (.inl 1), none, none]) rfl rfl ?_
      exact e_X2_worthFor_82 hX hr 4096 x1 x2 1 w
    · refine ev_aload_n hX dX2_worthFor_10 rfl ?_
      refine ev_getr (k := 0) hX (T := TX2) in_X2_worthFor_X2 rfl rfl rfl (show Cond.fieldLink RX2 11 "FiveShogi$Position" "state" "[I" ∈ _ by decide +kernel) rfl dX2_worthFor_11 ?_
      refine ev_iload_n hX dX2_worthFor_14 rfl ?_
      refine ev_iald hX rfl dX2_worthFor_15 (fun j1 => ?_)
      refine ev_istore hX dX2_worthFor_16 rfl (L' := [some (.inr (.inl 1)), some (.inl x1), some (.inl x2), some (.inl x3), some (.inl (w 2 j1)), none]) rfl ?_
      refine ev_iload hX dX2_worthFor_18 rfl ?_
      refine ev_callNi hX (As := [.inl (w 2 j1)]) (rm := rm_X4_kindOf) (c_X4_kindOf l D cI cC td (w 2 j1) w) ⟨va_cnB (host := "FiveShogi") 1 hX.ts gX2_worthFor_X4_kindOf_n48 rfl rfl rfl (hX.sta.2.1 (_, 48, _, _) (List.mem_of_getElem? (i := 3) rfl)) (hX.ts _ (show Cond.initialized RX4 ∈ _ by decide +kernel)) (by decide +kernel) ⟨Nat.le_of_ble_eq_true rfl, Nat.le_of_ble_eq_true rfl⟩, hX.ts _ (show Cond.static yX4_kindOf ∈ _ by decide +kernel), trivial⟩ rfl rfl rfl ⟨Nat.le_of_ble_eq_true rfl, Nat.le_of_ble_eq_true rfl⟩ dX2_worthFor_20 rfl (fun z2 hz2 => ?_)
      refine ev_istore hX dX2_worthFor_23 rfl (L' := [some (.inr (.inl 1)), some (.inl x1), some (.inl x2), some (.inl x3), some (.inl (w 2 j1)), some (.inl z2.1)]) rfl ?_
      refine ev_iload hX dX2_worthFor_25 rfl ?_
      refine ev_bipush hX dX2_worthFor_27 (v := 99) (by decide +kernel) ?_
      refine ev_icmp_eq (tgt := 74) hX dX2_worthFor_29 (by decide) ?_ ?_
      · refine ev_iinc hX dX2_worthFor_74 rfl (v := 1) (by decide +kernel) (L' := [some (.inr (.inl 1)), some (.inl x1), some (.inl x2), some (.inl (x3 + 1)), some (.inl (w 2 j1)), some (.inl z2.1)]) rfl ?_
        refine ev_goto (tgt := 4) hX dX2_worthFor_77 (by decide) ?_
        refine ev_mask [true, true, true, true, false, false] (L' := [some (.inr (.inl 1)), some (.inl x1), some (.inl x2), some (.inl (x3 + 1)), none, none]) rfl rfl ?_
        exact ih x1 x2 (x3 + 1) z2.2
      · refine ev_iload hX dX2_worthFor_32 rfl ?_
        refine ev_if_lt (tgt := 74) hX dX2_worthFor_34 (by decide) ?_ ?_
        · refine ev_iinc hX dX2_worthFor_74 rfl (v := 1) (by decide +kernel) (L' := [some (.inr (.inl 1)), some (.inl x1), some (.inl x2), some (.inl (x3 + 1)), some (.inl (w 2 j1)), some (.inl z2.1)]) rfl ?_
          refine ev_goto (tgt := 4) hX dX2_worthFor_77 (by decide) ?_
          refine ev_mask [true, true, true, true, false, false] (L' := [some (.inr (.inl 1)), some (.inl x1), some (.inl x2), some (.inl (x3 + 1)), none, none]) rfl rfl ?_
          exact ih x1 x2 (x3 + 1) z2.2
        · refine ev_iload hX dX2_worthFor_37 rfl ?_
          refine ev_getsN (j := 4) (host := "FiveShogi") hX rfl (List.mem_of_getElem? (i := 3) rfl) dX2_worthFor_39 ?_
          refine ev_tlen hX rfl (v := 10) (by decide +kernel) dX2_worthFor_42 ?_
          refine ev_icmp_ge (tgt := 74) hX dX2_worthFor_43 (by decide) ?_ ?_
          · refine ev_iinc hX dX2_worthFor_74 rfl (v := 1) (by decide +kernel) (L' := [some (.inr (.inl 1)), some (.inl x1), some (.inl x2), some (.inl (x3 + 1)), some (.inl (w 2 j1)), some (.inl z2.1)]) rfl ?_
            refine ev_goto (tgt := 4) hX dX2_worthFor_77 (by decide) ?_
            refine ev_mask [true, true, true, true, false, false] (L' := [some (.inr (.inl 1)), some (.inl x1), some (.inl x2), some (.inl (x3 + 1)), none, none]) rfl rfl ?_
            exact ih x1 x2 (x3 + 1) z2.2
          · refine ev_iload_n hX dX2_worthFor_46 rfl ?_
            refine ev_iload hX dX2_worthFor_47 rfl ?_
            refine ev_callNi hX (As := [.inl (w 2 j1)]) (rm := rm_X4_sideOf) (c_X4_sideOf l D cI cC td (w 2 j1) z2.2) ⟨va_cnB (host := "FiveShogi") 1 hX.ts gX2_worthFor_X4_sideOf_n52 rfl rfl rfl (hX.sta.2.1 (_, 52, _, _) (List.mem_of_getElem? (i := 4) rfl)) (hX.ts _ (show Cond.initialized RX4 ∈ _ by decide +kernel)) (by decide +kernel) ⟨Nat.le_of_ble_eq_true rfl, Nat.le_of_ble_eq_true rfl⟩, hX.ts _ (show Cond.static yX4_sideOf ∈ _ by decide +kernel), trivial⟩ rfl rfl rfl ⟨Nat.le_of_ble_eq_true rfl, Nat.le_of_ble_eq_true rfl⟩ dX2_worthFor_49 rfl (fun z3 hz3 => ?_)
            refine ev_iload_n hX dX2_worthFor_52 rfl ?_
            refine ev_icmp_ne (tgt := 65) hX dX2_worthFor_53 (by decide) ?_ ?_
            · refine ev_getsN (j := 4) (host := "FiveShogi") hX rfl (List.mem_of_getElem? (i := 3) rfl) dX2_worthFor_65 ?_
              refine ev_iload hX dX2_worthFor_68 rfl ?_
              refine ev_tald (xs := tb_WORTHS) hX rfl dX2_worthFor_70 (fun j4 => ?_)
              refine ev_ineg hX dX2_worthFor_71 ?_
              refine ev_iadd hX dX2_worthFor_72 ?_
              refine ev_istore_n hX dX2_worthFor_73 rfl (L' := [some (.inr (.inl 1)), some (.inl x1), some (.inl (x2 + (-(tb_WORTHS.getD j4 0)))), some (.inl x3), some (.inl (w 2 j1)), some (.inl z2.1)]) rfl ?_
              refine ev_iinc hX dX2_worthFor_74 rfl (v := 1) (by decide +kernel) (L' := [some (.inr (.inl 1)), some (.inl x1), some (.inl (x2 + (-(tb_WORTHS.getD j4 0)))), some (.inl (x3 + 1)), some (.inl (w 2 j1)), some (.inl z2.1)]) rfl ?_
              refine ev_goto (tgt := 4) hX dX2_worthFor_77 (by decide) ?_
              refine ev_mask [true, true, true, true, false, false] (L' := [some (.inr (.inl 1)), some (.inl x1), some (.inl (x2 + (-(tb_WORTHS.getD j4 0)))), some (.inl (x3 + 1)), none, none]) rfl rfl ?_
              exact ih x1 (x2 + (-(tb_WORTHS.getD j4 0))) (x3 + 1) z3.2
            · refine ev_getsN (j := 4) (host := "FiveShogi") hX rfl (List.mem_of_getElem? (i := 3) rfl) dX2_worthFor_56 ?_
              refine ev_iload hX dX2_worthFor_59 rfl ?_
              refine ev_tald (xs := tb_WORTHS) hX rfl dX2_worthFor_61 (fun j5 => ?_)
              refine ev_goto (tgt := 72) hX dX2_worthFor_62 (by decide) ?_
              refine ev_iadd hX dX2_worthFor_72 ?_
              refine ev_istore_n hX dX2_worthFor_73 rfl (L' := [some (.inr (.inl 1)), some (.inl x1), some (.inl (x2 + (tb_WORTHS.getD j5 0))), some (.inl x3), some (.inl (w 2 j1)), some (.inl z2.1)]) rfl ?_
              refine ev_iinc hX dX2_worthFor_74 rfl (v := 1) (by decide +kernel) (L' := [some (.inr (.inl 1)), some (.inl x1), some (.inl (x2 + (tb_WORTHS.getD j5 0))), some (.inl (x3 + 1)), some (.inl (w 2 j1)), some (.inl z2.1)]) rfl ?_
              refine ev_goto (tgt := 4) hX dX2_worthFor_77 (by decide) ?_
              refine ev_mask [true, true, true, true, false, false] (L' := [some (.inr (.inl 1)), some (.inl x1), some (.inl (x2 + (tb_WORTHS.getD j5 0))), some (.inl (x3 + 1)), none, none]) rfl rfl ?_
              exact ih x1 (x2 + (tb_WORTHS.getD j5 0)) (x3 + 1) z3.2
set_option maxHeartbeats 4000000 in
set_option maxRecDepth 100000 in
theorem c_X2_worthFor (l : Launch) (D : va_G) (cI cC : ClassId) (td : Nat → Option Nat) (a1 : Int32) (w : mvW) : ∀ z, f_X2_worthFor a1 w = some z → mv_Ci l D vwCl cI cC tbX td yX2_worthFor wsX2_worthFor rm_X2_worthFor shX w [.inr (.inl 1), .inl a1] z := by
  refine mv_starti (own := RX2) rfl (by decide) rfl rfl (L0 := [some (.inr (.inl 1)), some (.inl a1), none, none, none, none]) rfl (fun p e s m args below meth c A ad0 hX hr => ?_)
  rw [f_X2_worthFor]
  refine ev_iconst hX dX2_worthFor_0 (v := 0) (by decide +kernel) ?_
  refine ev_istore_n hX dX2_worthFor_1 rfl (L' := [some (.inr (.inl 1)), some (.inl a1), some (.inl 0), none, none, none]) rfl ?_
  refine ev_iconst hX dX2_worthFor_2 (v := 0) (by decide +kernel) ?_
  refine ev_istore_n hX dX2_worthFor_3 rfl (L' := [some (.inr (.inl 1)), some (.inl a1), some (.inl 0), some (.inl 0), none, none]) rfl ?_
  refine ev_mask [true, true, true, true, false, false] (L' := [some (.inr (.inl 1)), some (.inl a1), some (.inl 0), some (.inl 0), none, none]) rfl rfl ?_
  exact e_X2_worthFor_4 hX hr 4096 a1 0 0 w
def rm_X4_worth : Room := { frames := 3, cells := 0, slots := 0, locals := 67 }
set_option maxRecDepth 20000 in
theorem in_X4_worth_X4 : ∀ w ∈ u_ws RX4 TX4 7, w ∈ wsX4_worth := by decide +kernel
set_option maxHeartbeats 4000000 in
set_option maxRecDepth 100000 in
theorem c_X4_worth (l : Launch) (D : va_G) (cI cC : ClassId) (td : Nat → Option Nat) (a1 : Int32) (w : mvW) : ∀ z, f_X4_worth a1 w = some z → mv_Ci l D vwCl cI cC tbX td yX4_worth wsX4_worth rm_X4_worth shX w [.inr (.inl 0), .inl a1] z := by
  refine mv_starti (own := RX4) rfl (by decide) rfl rfl (L0 := [some (.inr (.inl 0)), some (.inl a1)]) rfl (fun p e s m args below meth c A ad0 hX hr => ?_)
  rw [f_X4_worth]
  refine ev_iload_n hX dX4_worth_0 rfl ?_
  refine ev_callSi hX (As := [.inl a1]) (rm := rm_X4_isSide) (c_X4_isSide l D cI cC td a1 w) (cwS 1 hX.ts gX4_worth_X4_isSide rfl rfl rfl (by decide +kernel) ⟨Nat.le_of_ble_eq_true rfl, Nat.le_of_ble_eq_true rfl⟩) rfl rfl rfl ⟨Nat.le_of_ble_eq_true rfl, Nat.le_of_ble_eq_true rfl⟩ dX4_worth_1 rfl (fun z1 hz1 => ?_)
  refine ev_if_ne (tgt := 11) hX dX4_worth_4 (by decide) ?_ ?_
  · refine ev_aload_n hX dX4_worth_11 rfl ?_
    refine ev_getr (k := 0) hX (T := TX4) in_X4_worth_X4 rfl rfl rfl (show Cond.fieldLink RX4 12 "FiveShogi" "position" "LFiveShogi$Position;" ∈ _ by decide +kernel) rfl dX4_worth_12 ?_
    refine ev_iload_n hX dX4_worth_15 rfl ?_
    refine ev_callVi hX (k0 := 1) (As := [.inl a1]) (rm := rm_X2_worthFor) (c_X2_worthFor l D cI cC td a1 z1.2) (cwV 1 hX.ts gX4_worth_X2_worthFor rfl rfl rfl (by decide +kernel) ⟨Nat.le_of_ble_eq_true rfl, Nat.le_of_ble_eq_true rfl⟩) rfl rfl rfl rfl rfl rfl ⟨Nat.le_of_ble_eq_true rfl, Nat.le_of_ble_eq_true rfl⟩ dX4_worth_16 rfl (fun z2 hz2 => ?_)
    exact ev_ireti hX hr dX4_worth_19
  · refine ev_sipush hX dX4_worth_7 (v := (-1001)) (by decide +kernel) ?_
    exact ev_ireti hX hr dX4_worth_10
def rm_X2_copyFrom : Room := { frames := 1, cells := 0, slots := 0, locals := 40 }
set_option maxRecDepth 20000 in
theorem in_X2_copyFrom_X2 : ∀ w ∈ u_ws RX2 TX2 2, w ∈ wsX2_copyFrom := by decide +kernel
set_option maxHeartbeats 4000000 in
set_option maxRecDepth 100000 in
theorem c_X2_copyFrom_10 (l : Launch) (D : va_G) (cI cC : ClassId) (td : Nat → Option Nat) (a2 : Int32) (w : mvW) : ∀ z, f_X2_copyFrom_10 a2 w = some z → mv_Cv l D vwCl cI cC tbX td yX2_copyFrom wsX2_copyFrom rm_X2_copyFrom shX w [.inr (.inl 1), .inr (.inl 10), .inl a2] z := by
  refine mv_startv (own := RX2) rfl (by decide) rfl rfl (L0 := [some (.inr (.inl 1)), some (.inr (.inl 10)), some (.inl a2)]) rfl (fun p e s m args below meth c A ad0 hX hr => ?_)
  rw [f_X2_copyFrom_10]
  refine ev_aload_n hX dX2_copyFrom_0 rfl ?_
  refine ev_ifnull hX dX2_copyFrom_1 ?_
  refine ev_iload_n hX dX2_copyFrom_4 rfl ?_
  refine ev_if_lt (tgt := 29) hX dX2_copyFrom_5 (by decide) ?_ ?_
  · exact ev_vret hX hr dX2_copyFrom_29
  · refine ev_iload_n hX dX2_copyFrom_8 rfl ?_
    refine ev_aload_n hX dX2_copyFrom_9 rfl ?_
    refine ev_alen hX rfl (v := 176) (by decide +kernel) dX2_copyFrom_10 ?_
    refine ev_bipush hX dX2_copyFrom_11 (v := 44) (by decide +kernel) ?_
    refine ev_isub hX dX2_copyFrom_13 ?_
    refine ev_icmp_gt (tgt := 29) hX dX2_copyFrom_14 (by decide) ?_ ?_
    · exact ev_vret hX hr dX2_copyFrom_29
    · refine ev_aload_n hX dX2_copyFrom_17 rfl ?_
      refine ev_iload_n hX dX2_copyFrom_18 rfl ?_
      refine ev_aload_n hX dX2_copyFrom_19 rfl ?_
      refine ev_getr (k := 0) hX (T := TX2) in_X2_copyFrom_X2 rfl rfl rfl (show Cond.fieldLink RX2 11 "FiveShogi$Position" "state" "[I" ∈ _ by decide +kernel) rfl dX2_copyFrom_20 ?_
      refine ev_iconst hX dX2_copyFrom_23 (v := 0) (by decide +kernel) ?_
      refine ev_bipush hX dX2_copyFrom_24 (v := 44) (by decide +kernel) ?_
      refine ev_copy hX rfl rfl (show Cond.methodLink RX2 32 arraycopyName ∈ _ by decide +kernel) (by decide +kernel) (by decide +kernel) (by decide +kernel) rfl (Nat.le_of_ble_eq_true rfl) (Nat.le_of_ble_eq_true rfl) dX2_copyFrom_26 (fun q1 => ?_)
      exact ev_vret hX hr dX2_copyFrom_29
def rm_X0_popInto : Room := { frames := 2, cells := 0, slots := 0, locals := 62 }
set_option maxRecDepth 20000 in
theorem in_X0_popInto_X0 : ∀ w ∈ u_ws RX0 TX0 2, w ∈ wsX0_popInto := by decide +kernel
set_option maxHeartbeats 4000000 in
set_option maxRecDepth 100000 in
theorem c_X0_popInto_1 (l : Launch) (D : va_G) (cI cC : ClassId) (td : Nat → Option Nat) (w : mvW) : ∀ z, f_X0_popInto_1 w = some z → mv_Cv l D vwCl cI cC tbX td yX0_popInto wsX0_popInto rm_X0_popInto shX w [.inr (.inl 9), .inr (.inl 1)] z := by
  refine mv_startv (own := RX0) rfl (by decide) rfl rfl (L0 := [some (.inr (.inl 9)), some (.inr (.inl 1))]) rfl (fun p e s m args below meth c A ad0 hX hr => ?_)
  rw [f_X0_popInto_1]
  refine ev_aload_n hX dX0_popInto_0 rfl ?_
  refine ev_ifnull hX dX0_popInto_1 ?_
  refine ev_aload_n hX dX0_popInto_4 rfl ?_
  refine ev_get (k := 1) hX (T := TX0) in_X0_popInto_X0 rfl rfl rfl (show Cond.fieldLink RX0 15 "FiveShogi$History" "size" "I" ∈ _ by decide +kernel) rfl dX0_popInto_5 ?_
  refine ev_if_gt (tgt := 12) hX dX0_popInto_8 (by decide) ?_ ?_
  · refine ev_aload_n hX dX0_popInto_12 rfl ?_
    refine ev_dup hX dX0_popInto_13 ?_
    refine ev_get (k := 1) hX (T := TX0) in_X0_popInto_X0 rfl rfl rfl (show Cond.fieldLink RX0 15 "FiveShogi$History" "size" "I" ∈ _ by decide +kernel) rfl dX0_popInto_14 ?_
    refine ev_iconst hX dX0_popInto_17 (v := 1) (by decide +kernel) ?_
    refine ev_isub hX dX0_popInto_18 ?_
    refine ev_put (k := 1) hX (T := TX0) (ty := .int) in_X0_popInto_X0 tyX0 tyX0_ok nmX0 rfl rfl rfl (show Cond.fieldLink RX0 15 "FiveShogi$History" "size" "I" ∈ _ by decide +kernel) rfl (by decide +kernel) rfl rfl rfl dX0_popInto_19 ?_
    refine ev_aload_n hX dX0_popInto_22 rfl ?_
    refine ev_aload_n hX dX0_popInto_23 rfl ?_
    refine ev_getr (k := 0) hX (T := TX0) in_X0_popInto_X0 rfl rfl rfl (show Cond.fieldLink RX0 11 "FiveShogi$History" "states" "[I" ∈ _ by decide +kernel) rfl dX0_popInto_24 ?_
    refine ev_aload_n hX dX0_popInto_27 rfl ?_
    refine ev_get (k := 1) hX (T := TX0) in_X0_popInto_X0 rfl rfl rfl (show Cond.fieldLink RX0 15 "FiveShogi$History" "size" "I" ∈ _ by decide +kernel) rfl dX0_popInto_28 ?_
    refine ev_bipush hX dX0_popInto_31 (v := 44) (by decide +kernel) ?_
    refine ev_imul hX dX0_popInto_33 ?_
    refine ev_callVv hX (k0 := 1) (As := [.inr (.inl 10), .inl (((mv_up w 9 1 ((w 9 1) - 1)) 9 1) * 44)]) (rm := rm_X2_copyFrom) (c_X2_copyFrom_10 l D cI cC td (((mv_up w 9 1 ((w 9 1) - 1)) 9 1) * 44) (mv_up w 9 1 ((w 9 1) - 1))) (cwV 2 hX.ts gX0_popInto_X2_copyFrom rfl rfl rfl (by decide +kernel) ⟨Nat.le_of_ble_eq_true rfl, Nat.le_of_ble_eq_true rfl⟩) rfl rfl rfl rfl rfl rfl ⟨Nat.le_of_ble_eq_true rfl, Nat.le_of_ble_eq_true rfl⟩ dX0_popInto_34 rfl (fun z1 hz1 => ?_)
    exact ev_vret hX hr dX0_popInto_37
  · exact ev_vret hX hr dX0_popInto_11
def rm_X4_undo : Room := { frames := 3, cells := 0, slots := 0, locals := 83 }
set_option maxRecDepth 20000 in
theorem in_X4_undo_X4 : ∀ w ∈ u_ws RX4 TX4 7, w ∈ wsX4_undo := by decide +kernel
set_option maxHeartbeats 4000000 in
set_option maxRecDepth 100000 in
theorem c_X4_undo (l : Launch) (D : va_G) (cI cC : ClassId) (td : Nat → Option Nat) (w : mvW) : ∀ z, f_X4_undo w = some z → mv_Ci l D vwCl cI cC tbX td yX4_undo wsX4_undo rm_X4_undo shX w [.inr (.inl 0)] z := by
  refine mv_starti (own := RX4) rfl (by decide) rfl rfl (L0 := [some (.inr (.inl 0))]) rfl (fun p e s m args below meth c A ad0 hX hr => ?_)
  rw [f_X4_undo]
  refine ev_aload_n hX dX4_undo_0 rfl ?_
  refine ev_getr (k := 2) hX (T := TX4) in_X4_undo_X4 rfl rfl rfl (show Cond.fieldLink RX4 28 "FiveShogi" "history" "LFiveShogi$History;" ∈ _ by decide +kernel) rfl dX4_undo_1 ?_
  refine ev_callVi hX (k0 := 9) (As := []) (rm := rm_X0_size) (c_X0_size l D cI cC td w) (cwV 0 hX.ts gX4_undo_X0_size rfl rfl rfl (by decide +kernel) ⟨Nat.le_of_ble_eq_true rfl, Nat.le_of_ble_eq_true rfl⟩) rfl rfl rfl rfl rfl rfl ⟨Nat.le_of_ble_eq_true rfl, Nat.le_of_ble_eq_true rfl⟩ dX4_undo_4 rfl (fun z1 hz1 => ?_)
  refine ev_if_ne (tgt := 14) hX dX4_undo_7 (by decide) ?_ ?_
  · refine ev_aload_n hX dX4_undo_14 rfl ?_
    refine ev_getr (k := 2) hX (T := TX4) in_X4_undo_X4 rfl rfl rfl (show Cond.fieldLink RX4 28 "FiveShogi" "history" "LFiveShogi$History;" ∈ _ by decide +kernel) rfl dX4_undo_15 ?_
    refine ev_aload_n hX dX4_undo_18 rfl ?_
    refine ev_getr (k := 0) hX (T := TX4) in_X4_undo_X4 rfl rfl rfl (show Cond.fieldLink RX4 12 "FiveShogi" "position" "LFiveShogi$Position;" ∈ _ by decide +kernel) rfl dX4_undo_19 ?_
    refine ev_callVv hX (k0 := 9) (As := [.inr (.inl 1)]) (rm := rm_X0_popInto) (c_X0_popInto_1 l D cI cC td z1.2) (cwV 1 hX.ts gX4_undo_X0_popInto rfl rfl rfl (by decide +kernel) ⟨Nat.le_of_ble_eq_true rfl, Nat.le_of_ble_eq_true rfl⟩) rfl rfl rfl rfl rfl rfl ⟨Nat.le_of_ble_eq_true rfl, Nat.le_of_ble_eq_true rfl⟩ dX4_undo_22 rfl (fun z2 hz2 => ?_)
    refine ev_aload_n hX dX4_undo_25 rfl ?_
    refine ev_getr (k := 2) hX (T := TX4) in_X4_undo_X4 rfl rfl rfl (show Cond.fieldLink RX4 28 "FiveShogi" "history" "LFiveShogi$History;" ∈ _ by decide +kernel) rfl dX4_undo_26 ?_
    refine ev_callVi hX (k0 := 9) (As := []) (rm := rm_X0_size) (c_X0_size l D cI cC td z2) (cwV 0 hX.ts gX4_undo_X0_size rfl rfl rfl (by decide +kernel) ⟨Nat.le_of_ble_eq_true rfl, Nat.le_of_ble_eq_true rfl⟩) rfl rfl rfl rfl rfl rfl ⟨Nat.le_of_ble_eq_true rfl, Nat.le_of_ble_eq_true rfl⟩ dX4_undo_29 rfl (fun z3 hz3 => ?_)
    exact ev_ireti hX hr dX4_undo_32
  · refine ev_sipush hX dX4_undo_10 (v := (-1005)) (by decide +kernel) ?_
    exact ev_ireti hX hr dX4_undo_13
def rm_X2_copyTo : Room := { frames := 1, cells := 0, slots := 0, locals := 40 }
set_option maxRecDepth 20000 in
theorem in_X2_copyTo_X2 : ∀ w ∈ u_ws RX2 TX2 2, w ∈ wsX2_copyTo := by decide +kernel
set_option maxHeartbeats 4000000 in
set_option maxRecDepth 100000 in
theorem c_X2_copyTo_14 (l : Launch) (D : va_G) (cI cC : ClassId) (td : Nat → Option Nat) (a2 : Int32) (w : mvW) : ∀ z, f_X2_copyTo_14 a2 w = some z → mv_Cv l D vwCl cI cC tbX td yX2_copyTo wsX2_copyTo rm_X2_copyTo shX w [.inr (.inl 1), .inr (.inl 14), .inl a2] z := by
  refine mv_startv (own := RX2) rfl (by decide) rfl rfl (L0 := [some (.inr (.inl 1)), some (.inr (.inl 14)), some (.inl a2)]) rfl (fun p e s m args below meth c A ad0 hX hr => ?_)
  rw [f_X2_copyTo_14]
  refine ev_aload_n hX dX2_copyTo_0 rfl ?_
  refine ev_ifnull hX dX2_copyTo_1 ?_
  refine ev_iload_n hX dX2_copyTo_4 rfl ?_
  refine ev_if_lt (tgt := 29) hX dX2_copyTo_5 (by decide) ?_ ?_
  · exact ev_vret hX hr dX2_copyTo_29
  · refine ev_iload_n hX dX2_copyTo_8 rfl ?_
    refine ev_aload_n hX dX2_copyTo_9 rfl ?_
    refine ev_alen hX rfl (v := 44) (by decide +kernel) dX2_copyTo_10 ?_
    refine ev_bipush hX dX2_copyTo_11 (v := 44) (by decide +kernel) ?_
    refine ev_isub hX dX2_copyTo_13 ?_
    refine ev_icmp_gt (tgt := 29) hX dX2_copyTo_14 (by decide) ?_ ?_
    · exact ev_vret hX hr dX2_copyTo_29
    · refine ev_aload_n hX dX2_copyTo_17 rfl ?_
      refine ev_getr (k := 0) hX (T := TX2) in_X2_copyTo_X2 rfl rfl rfl (show Cond.fieldLink RX2 11 "FiveShogi$Position" "state" "[I" ∈ _ by decide +kernel) rfl dX2_copyTo_18 ?_
      refine ev_iconst hX dX2_copyTo_21 (v := 0) (by decide +kernel) ?_
      refine ev_aload_n hX dX2_copyTo_22 rfl ?_
      refine ev_iload_n hX dX2_copyTo_23 rfl ?_
      refine ev_bipush hX dX2_copyTo_24 (v := 44) (by decide +kernel) ?_
      refine ev_copy hX rfl rfl (show Cond.methodLink RX2 32 arraycopyName ∈ _ by decide +kernel) (by decide +kernel) (by decide +kernel) (by decide +kernel) rfl (Nat.le_of_ble_eq_true rfl) (Nat.le_of_ble_eq_true rfl) dX2_copyTo_26 (fun q1 => ?_)
      exact ev_vret hX hr dX2_copyTo_29
def rm_X0_push : Room := { frames := 1, cells := 0, slots := 0, locals := 40 }
set_option maxRecDepth 20000 in
theorem in_X0_push_X0 : ∀ w ∈ u_ws RX0 TX0 2, w ∈ wsX0_push := by decide +kernel
set_option maxHeartbeats 4000000 in
set_option maxRecDepth 100000 in
theorem e_X0_push_14_42 (hX : mv_X p s m args meth c D vwCl cI cC tbX td A cX0_push 2 RX0 wsX0_push) (hr : meth.sig.returnType = none) (w : mvW) : EV p l e (headSpec wsX0_push rm_X0_push).room s m args below meth c D vwCl cI cC td A (fun a => a = ad0) (mv_Qv below args s D vwCl cI cC shX ad0 A) 0 0 shX [some (.inr (.inl 9)), some (.inr (.inl 14))] [] 42 w (f_X0_push_14_42 w) := by
  rw [f_X0_push_14_42]
  refine ev_aload_n hX dX0_push_42 rfl ?_
  refine ev_iconst hX dX0_push_43 (v := 0) (by decide +kernel) ?_
  refine ev_aload_n hX dX0_push_44 rfl ?_
  refine ev_getr (k := 0) hX (T := TX0) in_X0_push_X0 rfl rfl rfl (show Cond.fieldLink RX0 11 "FiveShogi$History" "states" "[I" ∈ _ by decide +kernel) rfl dX0_push_45 ?_
  refine ev_aload_n hX dX0_push_48 rfl ?_
  refine ev_get (k := 1) hX (T := TX0) in_X0_push_X0 rfl rfl rfl (show Cond.fieldLink RX0 15 "FiveShogi$History" "size" "I" ∈ _ by decide +kernel) rfl dX0_push_49 ?_
  refine ev_bipush hX dX0_push_52 (v := 44) (by decide +kernel) ?_
  refine ev_imul hX dX0_push_54 ?_
  refine ev_bipush hX dX0_push_55 (v := 44) (by decide +kernel) ?_
  refine ev_copy hX rfl rfl (show Cond.methodLink RX0 19 arraycopyName ∈ _ by decide +kernel) (by decide +kernel) (by decide +kernel) (by decide +kernel) rfl (Nat.le_of_ble_eq_true rfl) (Nat.le_of_ble_eq_true rfl) dX0_push_57 (fun q2 => ?_)
  refine ev_aload_n hX dX0_push_60 rfl ?_
  refine ev_dup hX dX0_push_61 ?_
  refine ev_get (k := 1) hX (T := TX0) in_X0_push_X0 rfl rfl rfl (show Cond.fieldLink RX0 15 "FiveShogi$History" "size" "I" ∈ _ by decide +kernel) rfl dX0_push_62 ?_
  refine ev_iconst hX dX0_push_65 (v := 1) (by decide +kernel) ?_
  refine ev_iadd hX dX0_push_66 ?_
  refine ev_put (k := 1) hX (T := TX0) (ty := .int) in_X0_push_X0 tyX0 tyX0_ok nmX0 rfl rfl rfl (show Cond.fieldLink RX0 15 "FiveShogi$History" "size" "I" ∈ _ by decide +kernel) rfl (by decide +kernel) rfl rfl rfl dX0_push_67 ?_
  exact ev_vret hX hr dX0_push_70
set_option maxHeartbeats 4000000 in
set_option maxRecDepth 100000 in
theorem c_X0_push_14 (l : Launch) (D : va_G) (cI cC : ClassId) (td : Nat → Option Nat) (w : mvW) : ∀ z, f_X0_push_14 w = some z → mv_Cv l D vwCl cI cC tbX td yX0_push wsX0_push rm_X0_push shX w [.inr (.inl 9), .inr (.inl 14)] z := by
  refine mv_startv (own := RX0) rfl (by decide) rfl rfl (L0 := [some (.inr (.inl 9)), some (.inr (.inl 14))]) rfl (fun p e s m args below meth c A ad0 hX hr => ?_)
  rw [f_X0_push_14]
  refine ev_aload_n hX dX0_push_0 rfl ?_
  refine ev_ifnull hX dX0_push_1 ?_
  refine ev_aload_n hX dX0_push_4 rfl ?_
  refine ev_alen hX rfl (v := 44) (by decide +kernel) dX0_push_5 ?_
  refine ev_bipush hX dX0_push_6 (v := 44) (by decide +kernel) ?_
  refine ev_icmp_ge (tgt := 12) hX dX0_push_8 (by decide) ?_ ?_
  · refine ev_aload_n hX dX0_push_12 rfl ?_
    refine ev_get (k := 1) hX (T := TX0) in_X0_push_X0 rfl rfl rfl (show Cond.fieldLink RX0 15 "FiveShogi$History" "size" "I" ∈ _ by decide +kernel) rfl dX0_push_13 ?_
    refine ev_iconst hX dX0_push_16 (v := 4) (by decide +kernel) ?_
    refine ev_icmp_lt (tgt := 42) hX dX0_push_17 (by decide) ?_ ?_
    · refine ev_mask [true, true] (L' := [some (.inr (.inl 9)), some (.inr (.inl 14))]) rfl rfl ?_
      exact e_X0_push_14_42 hX hr w
    · refine ev_aload_n hX dX0_push_20 rfl ?_
      refine ev_getr (k := 0) hX (T := TX0) in_X0_push_X0 rfl rfl rfl (show Cond.fieldLink RX0 11 "FiveShogi$History" "states" "[I" ∈ _ by decide +kernel) rfl dX0_push_21 ?_
      refine ev_bipush hX dX0_push_24 (v := 44) (by decide +kernel) ?_
      refine ev_aload_n hX dX0_push_26 rfl ?_
      refine ev_getr (k := 0) hX (T := TX0) in_X0_push_X0 rfl rfl rfl (show Cond.fieldLink RX0 11 "FiveShogi$History" "states" "[I" ∈ _ by decide +kernel) rfl dX0_push_27 ?_
      refine ev_iconst hX dX0_push_30 (v := 0) (by decide +kernel) ?_
      refine ev_sipush hX dX0_push_31 (v := 132) (by decide +kernel) ?_
      refine ev_copy hX rfl rfl (show Cond.methodLink RX0 19 arraycopyName ∈ _ by decide +kernel) (by decide +kernel) (by decide +kernel) (by decide +kernel) rfl (Nat.le_of_ble_eq_true rfl) (Nat.le_of_ble_eq_true rfl) dX0_push_34 (fun q1 => ?_)
      refine ev_aload_n hX dX0_push_37 rfl ?_
      refine ev_iconst hX dX0_push_38 (v := 3) (by decide +kernel) ?_
      refine ev_put (k := 1) hX (T := TX0) (ty := .int) in_X0_push_X0 tyX0 tyX0_ok nmX0 rfl rfl rfl (show Cond.fieldLink RX0 15 "FiveShogi$History" "size" "I" ∈ _ by decide +kernel) rfl (by decide +kernel) rfl rfl rfl dX0_push_39 ?_
      refine ev_mask [true, true] (L' := [some (.inr (.inl 9)), some (.inr (.inl 14))]) rfl rfl ?_
      exact e_X0_push_14_42 hX hr (mv_up (mv_cp w 10 10 q1.1 q1.2.1 q1.2.2) 9 1 3)
  · exact ev_vret hX hr dX0_push_11
def rm_X4_recordChange : Room := { frames := 2, cells := 0, slots := 0, locals := 62 }
set_option maxRecDepth 20000 in
theorem in_X4_recordChange_X4 : ∀ w ∈ u_ws RX4 TX4 7, w ∈ wsX4_recordChange := by decide +kernel
set_option maxHeartbeats 4000000 in
set_option maxRecDepth 100000 in
theorem c_X4_recordChange (l : Launch) (D : va_G) (cI cC : ClassId) (td : Nat → Option Nat) (w : mvW) : ∀ z, f_X4_recordChange w = some z → mv_Cv l D vwCl cI cC tbX td yX4_recordChange wsX4_recordChange rm_X4_recordChange shX w [.inr (.inl 0)] z := by
  refine mv_startv (own := RX4) rfl (by decide) rfl rfl (L0 := [some (.inr (.inl 0))]) rfl (fun p e s m args below meth c A ad0 hX hr => ?_)
  rw [f_X4_recordChange]
  refine ev_aload_n hX dX4_recordChange_0 rfl ?_
  refine ev_getr (k := 0) hX (T := TX4) in_X4_recordChange_X4 rfl rfl rfl (show Cond.fieldLink RX4 12 "FiveShogi" "position" "LFiveShogi$Position;" ∈ _ by decide +kernel) rfl dX4_recordChange_1 ?_
  refine ev_aload_n hX dX4_recordChange_4 rfl ?_
  refine ev_getr (k := 4) hX (T := TX4) in_X4_recordChange_X4 rfl rfl rfl (show Cond.fieldLink RX4 39 "FiveShogi" "before" "[I" ∈ _ by decide +kernel) rfl dX4_recordChange_5 ?_
  refine ev_iconst hX dX4_recordChange_8 (v := 0) (by decide +kernel) ?_
  refine ev_callVv hX (k0 := 1) (As := [.inr (.inl 14), .inl 0]) (rm := rm_X2_copyTo) (c_X2_copyTo_14 l D cI cC td 0 w) (cwV 2 hX.ts gX4_recordChange_X2_copyTo rfl rfl rfl (by decide +kernel) ⟨Nat.le_of_ble_eq_true rfl, Nat.le_of_ble_eq_true rfl⟩) rfl rfl rfl rfl rfl rfl ⟨Nat.le_of_ble_eq_true rfl, Nat.le_of_ble_eq_true rfl⟩ dX4_recordChange_9 rfl (fun z1 hz1 => ?_)
  refine ev_aload_n hX dX4_recordChange_12 rfl ?_
  refine ev_getr (k := 2) hX (T := TX4) in_X4_recordChange_X4 rfl rfl rfl (show Cond.fieldLink RX4 28 "FiveShogi" "history" "LFiveShogi$History;" ∈ _ by decide +kernel) rfl dX4_recordChange_13 ?_
  refine ev_aload_n hX dX4_recordChange_16 rfl ?_
  refine ev_getr (k := 4) hX (T := TX4) in_X4_recordChange_X4 rfl rfl rfl (show Cond.fieldLink RX4 39 "FiveShogi" "before" "[I" ∈ _ by decide +kernel) rfl dX4_recordChange_17 ?_
  refine ev_callVv hX (k0 := 9) (As := [.inr (.inl 14)]) (rm := rm_X0_push) (c_X0_push_14 l D cI cC td z1) (cwV 1 hX.ts gX4_recordChange_X0_push rfl rfl rfl (by decide +kernel) ⟨Nat.le_of_ble_eq_true rfl, Nat.le_of_ble_eq_true rfl⟩) rfl rfl rfl rfl rfl rfl ⟨Nat.le_of_ble_eq_true rfl, Nat.le_of_ble_eq_true rfl⟩ dX4_recordChange_20 rfl (fun z2 hz2 => ?_)
  exact ev_vret hX hr dX4_recordChange_23
set_option maxHeartbeats 4000000 in
set_option maxRecDepth 100000 in
theorem c_X2_copyFrom_15 (l : Launch) (D : va_G) (cI cC : ClassId) (td : Nat → Option Nat) (a2 : Int32) (w : mvW) : ∀ z, f_X2_copyFrom_15 a2 w = some z → mv_Cv l D vwCl cI cC tbX td yX2_copyFrom wsX2_copyFrom rm_X2_copyFrom shX w [.inr (.inl 1), .inr (.inl 15), .inl a2] z := by
  refine mv_startv (own := RX2) rfl (by decide) rfl rfl (L0 := [some (.inr (.inl 1)), some (.inr (.inl 15)), some (.inl a2)]) rfl (fun p e s m args below meth c A ad0 hX hr => ?_)
  rw [f_X2_copyFrom_15]
  refine ev_aload_n hX dX2_copyFrom_0 rfl ?_
  refine ev_ifnull hX dX2_copyFrom_1 ?_
  refine ev_iload_n hX dX2_copyFrom_4 rfl ?_
  refine ev_if_lt (tgt := 29) hX dX2_copyFrom_5 (by decide) ?_ ?_
  · exact ev_vret hX hr dX2_copyFrom_29
  · refine ev_iload_n hX dX2_copyFrom_8 rfl ?_
    refine ev_aload_n hX dX2_copyFrom_9 rfl ?_
    refine ev_alen hX rfl (v := 44) (by decide +kernel) dX2_copyFrom_10 ?_
    refine ev_bipush hX dX2_copyFrom_11 (v := 44) (by decide +kernel) ?_
    refine ev_isub hX dX2_copyFrom_13 ?_
    refine ev_icmp_gt (tgt := 29) hX dX2_copyFrom_14 (by decide) ?_ ?_
    · exact ev_vret hX hr dX2_copyFrom_29
    · refine ev_aload_n hX dX2_copyFrom_17 rfl ?_
      refine ev_iload_n hX dX2_copyFrom_18 rfl ?_
      refine ev_aload_n hX dX2_copyFrom_19 rfl ?_
      refine ev_getr (k := 0) hX (T := TX2) in_X2_copyFrom_X2 rfl rfl rfl (show Cond.fieldLink RX2 11 "FiveShogi$Position" "state" "[I" ∈ _ by decide +kernel) rfl dX2_copyFrom_20 ?_
      refine ev_iconst hX dX2_copyFrom_23 (v := 0) (by decide +kernel) ?_
      refine ev_bipush hX dX2_copyFrom_24 (v := 44) (by decide +kernel) ?_
      refine ev_copy hX rfl rfl (show Cond.methodLink RX2 32 arraycopyName ∈ _ by decide +kernel) (by decide +kernel) (by decide +kernel) (by decide +kernel) rfl (Nat.le_of_ble_eq_true rfl) (Nat.le_of_ble_eq_true rfl) dX2_copyFrom_26 (fun q1 => ?_)
      exact ev_vret hX hr dX2_copyFrom_29
def rm_X4_restore : Room := { frames := 3, cells := 0, slots := 0, locals := 82 }
set_option maxRecDepth 20000 in
theorem in_X4_restore_X4 : ∀ w ∈ u_ws RX4 TX4 7, w ∈ wsX4_restore := by decide +kernel
set_option maxHeartbeats 4000000 in
set_option maxRecDepth 100000 in
theorem c_X4_restore (l : Launch) (D : va_G) (cI cC : ClassId) (td : Nat → Option Nat) (w : mvW) : ∀ z, f_X4_restore w = some z → mv_Ci l D vwCl cI cC tbX td yX4_restore wsX4_restore rm_X4_restore shX w [.inr (.inl 0)] z := by
  refine mv_starti (own := RX4) rfl (by decide) rfl rfl (L0 := [some (.inr (.inl 0))]) rfl (fun p e s m args below meth c A ad0 hX hr => ?_)
  rw [f_X4_restore]
  refine ev_aload_n hX dX4_restore_0 rfl ?_
  refine ev_get (k := 6) hX (T := TX4) in_X4_restore_X4 rfl rfl rfl (show Cond.fieldLink RX4 46 "FiveShogi" "hasSnapshot" "Z" ∈ _ by decide +kernel) rfl dX4_restore_1 ?_
  refine ev_if_ne (tgt := 11) hX dX4_restore_4 (by decide) ?_ ?_
  · refine ev_aload_n hX dX4_restore_11 rfl ?_
    refine ev_callVv hX (k0 := 0) (As := []) (rm := rm_X4_recordChange) (c_X4_recordChange l D cI cC td w) (cwV 0 hX.ts gX4_restore_X4_recordChange rfl rfl rfl (by decide +kernel) ⟨Nat.le_of_ble_eq_true rfl, Nat.le_of_ble_eq_true rfl⟩) rfl rfl rfl rfl rfl rfl ⟨Nat.le_of_ble_eq_true rfl, Nat.le_of_ble_eq_true rfl⟩ dX4_restore_12 rfl (fun z1 hz1 => ?_)
    refine ev_aload_n hX dX4_restore_15 rfl ?_
    refine ev_getr (k := 0) hX (T := TX4) in_X4_restore_X4 rfl rfl rfl (show Cond.fieldLink RX4 12 "FiveShogi" "position" "LFiveShogi$Position;" ∈ _ by decide +kernel) rfl dX4_restore_16 ?_
    refine ev_aload_n hX dX4_restore_19 rfl ?_
    refine ev_getr (k := 5) hX (T := TX4) in_X4_restore_X4 rfl rfl rfl (show Cond.fieldLink RX4 43 "FiveShogi" "snapshot" "[I" ∈ _ by decide +kernel) rfl dX4_restore_20 ?_
    refine ev_iconst hX dX4_restore_23 (v := 0) (by decide +kernel) ?_
    refine ev_callVv hX (k0 := 1) (As := [.inr (.inl 15), .inl 0]) (rm := rm_X2_copyFrom) (c_X2_copyFrom_15 l D cI cC td 0 z1) (cwV 2 hX.ts gX4_restore_X2_copyFrom rfl rfl rfl (by decide +kernel) ⟨Nat.le_of_ble_eq_true rfl, Nat.le_of_ble_eq_true rfl⟩) rfl rfl rfl rfl rfl rfl ⟨Nat.le_of_ble_eq_true rfl, Nat.le_of_ble_eq_true rfl⟩ dX4_restore_24 rfl (fun z2 hz2 => ?_)
    refine ev_aload_n hX dX4_restore_27 rfl ?_
    refine ev_getr (k := 0) hX (T := TX4) in_X4_restore_X4 rfl rfl rfl (show Cond.fieldLink RX4 12 "FiveShogi" "position" "LFiveShogi$Position;" ∈ _ by decide +kernel) rfl dX4_restore_28 ?_
    refine ev_callVi hX (k0 := 1) (As := []) (rm := rm_X2_menOnBoard) (c_X2_menOnBoard l D cI cC td z2) (cwV 0 hX.ts gX4_restore_X2_menOnBoard rfl rfl rfl (by decide +kernel) ⟨Nat.le_of_ble_eq_true rfl, Nat.le_of_ble_eq_true rfl⟩) rfl rfl rfl rfl rfl rfl ⟨Nat.le_of_ble_eq_true rfl, Nat.le_of_ble_eq_true rfl⟩ dX4_restore_31 rfl (fun z3 hz3 => ?_)
    exact ev_ireti hX hr dX4_restore_34
  · refine ev_sipush hX dX4_restore_7 (v := (-1005)) (by decide +kernel) ?_
    exact ev_ireti hX hr dX4_restore_10
def rm_X4_moveNumber : Room := { frames := 0, cells := 0, slots := 0, locals := 0 }
set_option maxHeartbeats 4000000 in
set_option maxRecDepth 100000 in
theorem c_X4_moveNumber (l : Launch) (D : va_G) (cI cC : ClassId) (td : Nat → Option Nat) (a0 : Int32) (a1 : Int32) (a2 : Int32) (w : mvW) : ∀ z, f_X4_moveNumber a0 a1 a2 w = some z → mv_Ci l D vwCl cI cC tbX td yX4_moveNumber wsX4_moveNumber rm_X4_moveNumber shX w [.inl a0, .inl a1, .inl a2] z := by
  refine mv_starti (own := RX4) rfl (by decide) rfl rfl (L0 := [some (.inl a0), some (.inl a1), some (.inl a2)]) rfl (fun p e s m args below meth c A ad0 hX hr => ?_)
  rw [f_X4_moveNumber]
  refine ev_bipush hX dX4_moveNumber_0 (v := 100) (by decide +kernel) ?_
  refine ev_iload_n hX dX4_moveNumber_2 rfl ?_
  refine ev_imul hX dX4_moveNumber_3 ?_
  refine ev_iload_n hX dX4_moveNumber_4 rfl ?_
  refine ev_iadd hX dX4_moveNumber_5 ?_
  refine ev_iload_n hX dX4_moveNumber_6 rfl ?_
  refine ev_if_eq (tgt := 16) hX dX4_moveNumber_7 (by decide) ?_ ?_
  · refine ev_iconst hX dX4_moveNumber_16 (v := 0) (by decide +kernel) ?_
    refine ev_iadd hX dX4_moveNumber_17 ?_
    exact ev_ireti hX hr dX4_moveNumber_18
  · refine ev_sipush hX dX4_moveNumber_10 (v := 10000) (by decide +kernel) ?_
    refine ev_goto (tgt := 17) hX dX4_moveNumber_13 (by decide) ?_
    refine ev_iadd hX dX4_moveNumber_17 ?_
    exact ev_ireti hX hr dX4_moveNumber_18
def rm_X3_addPlays : Room := { frames := 1, cells := 0, slots := 0, locals := 21 }
set_option maxRecDepth 20000 in
theorem in_X3_addPlays_X3 : ∀ w ∈ u_ws RX3 TX3 6, w ∈ wsX3_addPlays := by decide +kernel
set_option maxHeartbeats 4000000 in
set_option maxRecDepth 100000 in
theorem e_X3_addPlays_2 (hX : mv_X p s m args meth c D vwCl cI cC tbX td A cX3_addPlays 4 RX3 wsX3_addPlays) (hr : meth.sig.returnType = none) : ∀ (n : Nat) (x1 : Int32) (x2 : Int32) (x3 : Int32) (w : mvW), EV p l e (headSpec wsX3_addPlays rm_X3_addPlays).room s m args below meth c D vwCl cI cC td A (fun a => a = ad0) (mv_Qv below args s D vwCl cI cC shX ad0 A) 0 0 shX [some (.inr (.inl 4)), some (.inl x1), some (.inl x2), some (.inl x3)] [] 2 w (f_X3_addPlays_2 n x1 x2 x3 w) := by
  intro n
  induction n with
  | zero => intro x1 x2 x3 w; exact ev_none
  | succ n ih =>
    intro x1 x2 x3 w
    rw [f_X3_addPlays_2]
    refine ev_iload_n hX dX3_addPlays_2 rfl ?_
    refine ev_bipush hX dX3_addPlays_3 (v := 25) (by decide +kernel) ?_
    refine ev_icmp_ge (tgt := 63) hX dX3_addPlays_5 (by decide) ?_ ?_
    · exact ev_vret hX hr dX3_addPlays_63
    · refine ev_iload_n hX dX3_addPlays_8 rfl ?_
      refine ev_iload_n hX dX3_addPlays_9 rfl ?_
      refine ev_callNi hX (As := [.inl x1, .inl x3]) (rm := rm_X4_has) (c_X4_has l D cI cC td x1 x3 w) ⟨va_cnB (host := "FiveShogi") 2 hX.ts gX3_addPlays_X4_has_n76 rfl rfl rfl (hX.sta.2.1 (_, 76, _, _) (List.mem_of_getElem? (i := 12) rfl)) (hX.ts _ (show Cond.initialized RX4 ∈ _ by decide +kernel)) (by decide +kernel) ⟨Nat.le_of_ble_eq_true rfl, Nat.le_of_ble_eq_true rfl⟩, hX.ts _ (show Cond.static yX4_has ∈ _ by decide +kernel), trivial⟩ rfl rfl rfl ⟨Nat.le_of_ble_eq_true rfl, Nat.le_of_ble_eq_true rfl⟩ dX3_addPlays_10 rfl (fun z1 hz1 => ?_)
      refine ev_if_eq (tgt := 57) hX dX3_addPlays_13 (by decide) ?_ ?_
      · refine ev_iinc hX dX3_addPlays_57 rfl (v := 1) (by decide +kernel) (L' := [some (.inr (.inl 4)), some (.inl x1), some (.inl x2), some (.inl (x3 + 1))]) rfl ?_
        refine ev_goto (tgt := 2) hX dX3_addPlays_60 (by decide) ?_
        refine ev_mask [true, true, true, true] (L' := [some (.inr (.inl 4)), some (.inl x1), some (.inl x2), some (.inl (x3 + 1))]) rfl rfl ?_
        exact ih x1 x2 (x3 + 1) z1.2
      · refine ev_aload_n hX dX3_addPlays_16 rfl ?_
        refine ev_get (k := 5) hX (T := TX3) in_X3_addPlays_X3 rfl rfl rfl (show Cond.fieldLink RX3 24 "FiveShogi$Rules" "listSize" "I" ∈ _ by decide +kernel) rfl dX3_addPlays_17 ?_
        refine ev_if_lt (tgt := 57) hX dX3_addPlays_20 (by decide) ?_ ?_
        · refine ev_iinc hX dX3_addPlays_57 rfl (v := 1) (by decide +kernel) (L' := [some (.inr (.inl 4)), some (.inl x1), some (.inl x2), some (.inl (x3 + 1))]) rfl ?_
          refine ev_goto (tgt := 2) hX dX3_addPlays_60 (by decide) ?_
          refine ev_mask [true, true, true, true] (L' := [some (.inr (.inl 4)), some (.inl x1), some (.inl x2), some (.inl (x3 + 1))]) rfl rfl ?_
          exact ih x1 x2 (x3 + 1) z1.2
        · refine ev_aload_n hX dX3_addPlays_23 rfl ?_
          refine ev_get (k := 5) hX (T := TX3) in_X3_addPlays_X3 rfl rfl rfl (show Cond.fieldLink RX3 24 "FiveShogi$Rules" "listSize" "I" ∈ _ by decide +kernel) rfl dX3_addPlays_24 ?_
          refine ev_aload_n hX dX3_addPlays_27 rfl ?_
          refine ev_getr (k := 4) hX (T := TX3) in_X3_addPlays_X3 rfl rfl rfl (show Cond.fieldLink RX3 21 "FiveShogi$Rules" "list" "[I" ∈ _ by decide +kernel) rfl dX3_addPlays_28 ?_
          refine ev_alen hX rfl (v := 525) (by decide +kernel) dX3_addPlays_31 ?_
          refine ev_icmp_ge (tgt := 57) hX dX3_addPlays_32 (by decide) ?_ ?_
          · refine ev_iinc hX dX3_addPlays_57 rfl (v := 1) (by decide +kernel) (L' := [some (.inr (.inl 4)), some (.inl x1), some (.inl x2), some (.inl (x3 + 1))]) rfl ?_
            refine ev_goto (tgt := 2) hX dX3_addPlays_60 (by decide) ?_
            refine ev_mask [true, true, true, true] (L' := [some (.inr (.inl 4)), some (.inl x1), some (.inl x2), some (.inl (x3 + 1))]) rfl rfl ?_
            exact ih x1 x2 (x3 + 1) z1.2
          · refine ev_aload_n hX dX3_addPlays_35 rfl ?_
            refine ev_getr (k := 4) hX (T := TX3) in_X3_addPlays_X3 rfl rfl rfl (show Cond.fieldLink RX3 21 "FiveShogi$Rules" "list" "[I" ∈ _ by decide +kernel) rfl dX3_addPlays_36 ?_
            refine ev_aload_n hX dX3_addPlays_39 rfl ?_
            refine ev_get (k := 5) hX (T := TX3) in_X3_addPlays_X3 rfl rfl rfl (show Cond.fieldLink RX3 24 "FiveShogi$Rules" "listSize" "I" ∈ _ by decide +kernel) rfl dX3_addPlays_40 ?_
            refine ev_iload_n hX dX3_addPlays_43 rfl ?_
            refine ev_iload_n hX dX3_addPlays_44 rfl ?_
            refine ev_iadd hX dX3_addPlays_45 ?_
            refine ev_iast hX rfl dX3_addPlays_46 (fun j2 => ?_)
            refine ev_aload_n hX dX3_addPlays_47 rfl ?_
            refine ev_dup hX dX3_addPlays_48 ?_
            refine ev_get (k := 5) hX (T := TX3) in_X3_addPlays_X3 rfl rfl rfl (show Cond.fieldLink RX3 24 "FiveShogi$Rules" "listSize" "I" ∈ _ by decide +kernel) rfl dX3_addPlays_49 ?_
            refine ev_iconst hX dX3_addPlays_52 (v := 1) (by decide +kernel) ?_
            refine ev_iadd hX dX3_addPlays_53 ?_
            refine ev_put (k := 5) hX (T := TX3) (ty := .int) in_X3_addPlays_X3 tyX3 tyX3_ok nmX3 rfl rfl rfl (show Cond.fieldLink RX3 24 "FiveShogi$Rules" "listSize" "I" ∈ _ by decide +kernel) rfl (by decide +kernel) rfl rfl rfl dX3_addPlays_54 ?_
            refine ev_iinc hX dX3_addPlays_57 rfl (v := 1) (by decide +kernel) (L' := [some (.inr (.inl 4)), some (.inl x1), some (.inl x2), some (.inl (x3 + 1))]) rfl ?_
            refine ev_goto (tgt := 2) hX dX3_addPlays_60 (by decide) ?_
            refine ev_mask [true, true, true, true] (L' := [some (.inr (.inl 4)), some (.inl x1), some (.inl x2), some (.inl (x3 + 1))]) rfl rfl ?_
            exact ih x1 x2 (x3 + 1) (mv_up (mv_up z1.2 8 j2 (x2 + x3)) 4 5 (((mv_up z1.2 8 j2 (x2 + x3)) 4 5) + 1))
set_option maxHeartbeats 4000000 in
set_option maxRecDepth 100000 in
theorem c_X3_addPlays (l : Launch) (D : va_G) (cI cC : ClassId) (td : Nat → Option Nat) (a1 : Int32) (a2 : Int32) (w : mvW) : ∀ z, f_X3_addPlays a1 a2 w = some z → mv_Cv l D vwCl cI cC tbX td yX3_addPlays wsX3_addPlays rm_X3_addPlays shX w [.inr (.inl 4), .inl a1, .inl a2] z := by
  refine mv_startv (own := RX3) rfl (by decide) rfl rfl (L0 := [some (.inr (.inl 4)), some (.inl a1), some (.inl a2), none]) rfl (fun p e s m args below meth c A ad0 hX hr => ?_)
  rw [f_X3_addPlays]
  refine ev_iconst hX dX3_addPlays_0 (v := 0) (by decide +kernel) ?_
  refine ev_istore_n hX dX3_addPlays_1 rfl (L' := [some (.inr (.inl 4)), some (.inl a1), some (.inl a2), some (.inl 0)]) rfl ?_
  refine ev_mask [true, true, true, true] (L' := [some (.inr (.inl 4)), some (.inl a1), some (.inl a2), some (.inl 0)]) rfl rfl ?_
  exact e_X3_addPlays_2 hX hr 4096 a1 a2 0 w
def rm_X3_listPlays : Room := { frames := 2, cells := 0, slots := 0, locals := 44 }
set_option maxRecDepth 20000 in
theorem in_X3_listPlays_X3 : ∀ w ∈ u_ws RX3 TX3 6, w ∈ wsX3_listPlays := by decide +kernel
set_option maxHeartbeats 4000000 in
set_option maxRecDepth 100000 in
theorem e_X3_listPlays_67 (hX : mv_X p s m args meth c D vwCl cI cC tbX td A cX3_listPlays 2 RX3 wsX3_listPlays) (hr : meth.sig.returnType = (some .int)) : ∀ (n : Nat) (x1 : Int32) (w : mvW), EV p l e (headSpec wsX3_listPlays rm_X3_listPlays).room s m args below meth c D vwCl cI cC td A (fun a => a = ad0) (mv_Qi below args s D vwCl cI cC shX ad0 A) 0 0 shX [some (.inr (.inl 4)), some (.inl x1)] [] 67 w (f_X3_listPlays_67 n x1 w) := by
  intro n
  induction n with
  | zero => intro x1 w; exact ev_none
  | succ n ih =>
    intro x1 w
    rw [f_X3_listPlays_67]
    refine ev_iload_n hX dX3_listPlays_67 rfl ?_
    refine ev_iconst hX dX3_listPlays_68 (v := 5) (by decide +kernel) ?_
    refine ev_icmp_gt (tgt := 93) hX dX3_listPlays_69 (by decide) ?_ ?_
    · refine ev_aload_n hX dX3_listPlays_93 rfl ?_
      refine ev_get (k := 5) hX (T := TX3) in_X3_listPlays_X3 rfl rfl rfl (show Cond.fieldLink RX3 24 "FiveShogi$Rules" "listSize" "I" ∈ _ by decide +kernel) rfl dX3_listPlays_94 ?_
      exact ev_ireti hX hr dX3_listPlays_97
    · refine ev_aload_n hX dX3_listPlays_72 rfl ?_
      refine ev_aload_n hX dX3_listPlays_73 rfl ?_
      refine ev_getr (k := 3) hX (T := TX3) in_X3_listPlays_X3 rfl rfl rfl (show Cond.fieldLink RX3 18 "FiveShogi$Rules" "kindDrops" "[I" ∈ _ by decide +kernel) rfl dX3_listPlays_74 ?_
      refine ev_iload_n hX dX3_listPlays_77 rfl ?_
      refine ev_iald hX rfl dX3_listPlays_78 (fun j7 => ?_)
      refine ev_iload_n hX dX3_listPlays_79 rfl ?_
      refine ev_iconst hX dX3_listPlays_80 (v := 0) (by decide +kernel) ?_
      refine ev_callNi hX (As := [.inl x1, .inl 0]) (rm := rm_X4_dropNumber) (c_X4_dropNumber l D cI cC td x1 0 w) ⟨va_cnB (host := "FiveShogi") 2 hX.ts gX3_listPlays_X4_dropNumber_n117 rfl rfl rfl (hX.sta.2.1 (_, 117, _, _) (List.mem_of_getElem? (i := 15) rfl)) (hX.ts _ (show Cond.initialized RX4 ∈ _ by decide +kernel)) (by decide +kernel) ⟨Nat.le_of_ble_eq_true rfl, Nat.le_of_ble_eq_true rfl⟩, hX.ts _ (show Cond.static yX4_dropNumber ∈ _ by decide +kernel), trivial⟩ rfl rfl rfl ⟨Nat.le_of_ble_eq_true rfl, Nat.le_of_ble_eq_true rfl⟩ dX3_listPlays_81 rfl (fun z8 hz8 => ?_)
      refine ev_callVv hX (k0 := 4) (As := [.inl (w 7 j7), .inl z8.1]) (rm := rm_X3_addPlays) (c_X3_addPlays l D cI cC td (w 7 j7) z8.1 z8.2) (cwV 2 hX.ts gX3_listPlays_X3_addPlays rfl rfl rfl (by decide +kernel) ⟨Nat.le_of_ble_eq_true rfl, Nat.le_of_ble_eq_true rfl⟩) rfl rfl rfl rfl rfl rfl ⟨Nat.le_of_ble_eq_true rfl, Nat.le_of_ble_eq_true rfl⟩ dX3_listPlays_84 rfl (fun z9 hz9 => ?_)
      refine ev_iinc hX dX3_listPlays_87 rfl (v := 1) (by decide +kernel) (L' := [some (.inr (.inl 4)), some (.inl (x1 + 1))]) rfl ?_
      refine ev_goto (tgt := 67) hX dX3_listPlays_90 (by decide) ?_
      refine ev_mask [true, true] (L' := [some (.inr (.inl 4)), some (.inl (x1 + 1))]) rfl rfl ?_
      exact ih (x1 + 1) z9
set_option maxHeartbeats 4000000 in
set_option maxRecDepth 100000 in
theorem e_X3_listPlays_37 (hX : mv_X p s m args meth c D vwCl cI cC tbX td A cX3_listPlays 2 RX3 wsX3_listPlays) (hr : meth.sig.returnType = (some .int)) : ∀ (n : Nat) (x1 : Int32) (w : mvW), EV p l e (headSpec wsX3_listPlays rm_X3_listPlays).room s m args below meth c D vwCl cI cC td A (fun a => a = ad0) (mv_Qi below args s D vwCl cI cC shX ad0 A) 0 0 shX [some (.inr (.inl 4)), some (.inl x1)] [] 37 w (f_X3_listPlays_37 n x1 w) := by
  intro n
  induction n with
  | zero => intro x1 w; exact ev_none
  | succ n ih =>
    intro x1 w
    rw [f_X3_listPlays_37]
    refine ev_iload_n hX dX3_listPlays_37 rfl ?_
    refine ev_bipush hX dX3_listPlays_38 (v := 25) (by decide +kernel) ?_
    refine ev_icmp_ge (tgt := 65) hX dX3_listPlays_40 (by decide) ?_ ?_
    · refine ev_iconst hX dX3_listPlays_65 (v := 1) (by decide +kernel) ?_
      refine ev_istore_n hX dX3_listPlays_66 rfl (L' := [some (.inr (.inl 4)), some (.inl 1)]) rfl ?_
      refine ev_mask [true, true] (L' := [some (.inr (.inl 4)), some (.inl 1)]) rfl rfl ?_
      exact e_X3_listPlays_67 hX hr 4096 1 w
    · refine ev_aload_n hX dX3_listPlays_43 rfl ?_
      refine ev_aload_n hX dX3_listPlays_44 rfl ?_
      refine ev_getr (k := 2) hX (T := TX3) in_X3_listPlays_X3 rfl rfl rfl (show Cond.fieldLink RX3 15 "FiveShogi$Rules" "promotedMoves" "[I" ∈ _ by decide +kernel) rfl dX3_listPlays_45 ?_
      refine ev_iload_n hX dX3_listPlays_48 rfl ?_
      refine ev_iald hX rfl dX3_listPlays_49 (fun j4 => ?_)
      refine ev_iload_n hX dX3_listPlays_50 rfl ?_
      refine ev_iconst hX dX3_listPlays_51 (v := 0) (by decide +kernel) ?_
      refine ev_iconst hX dX3_listPlays_52 (v := 1) (by decide +kernel) ?_
      refine ev_callNi hX (As := [.inl x1, .inl 0, .inl 1]) (rm := rm_X4_moveNumber) (c_X4_moveNumber l D cI cC td x1 0 1 w) ⟨va_cnB (host := "FiveShogi") 3 hX.ts gX3_listPlays_X4_moveNumber_n110 rfl rfl rfl (hX.sta.2.1 (_, 110, _, _) (List.mem_of_getElem? (i := 19) rfl)) (hX.ts _ (show Cond.initialized RX4 ∈ _ by decide +kernel)) (by decide +kernel) ⟨Nat.le_of_ble_eq_true rfl, Nat.le_of_ble_eq_true rfl⟩, hX.ts _ (show Cond.static yX4_moveNumber ∈ _ by decide +kernel), trivial⟩ rfl rfl rfl ⟨Nat.le_of_ble_eq_true rfl, Nat.le_of_ble_eq_true rfl⟩ dX3_listPlays_53 rfl (fun z5 hz5 => ?_)
      refine ev_callVv hX (k0 := 4) (As := [.inl (w 6 j4), .inl z5.1]) (rm := rm_X3_addPlays) (c_X3_addPlays l D cI cC td (w 6 j4) z5.1 z5.2) (cwV 2 hX.ts gX3_listPlays_X3_addPlays rfl rfl rfl (by decide +kernel) ⟨Nat.le_of_ble_eq_true rfl, Nat.le_of_ble_eq_true rfl⟩) rfl rfl rfl rfl rfl rfl ⟨Nat.le_of_ble_eq_true rfl, Nat.le_of_ble_eq_true rfl⟩ dX3_listPlays_56 rfl (fun z6 hz6 => ?_)
      refine ev_iinc hX dX3_listPlays_59 rfl (v := 1) (by decide +kernel) (L' := [some (.inr (.inl 4)), some (.inl (x1 + 1))]) rfl ?_
      refine ev_goto (tgt := 37) hX dX3_listPlays_62 (by decide) ?_
      refine ev_mask [true, true] (L' := [some (.inr (.inl 4)), some (.inl (x1 + 1))]) rfl rfl ?_
      exact ih (x1 + 1) z6
set_option maxHeartbeats 4000000 in
set_option maxRecDepth 100000 in
theorem e_X3_listPlays_7 (hX : mv_X p s m args meth c D vwCl cI cC tbX td A cX3_listPlays 2 RX3 wsX3_listPlays) (hr : meth.sig.returnType = (some .int)) : ∀ (n : Nat) (x1 : Int32) (w : mvW), EV p l e (headSpec wsX3_listPlays rm_X3_listPlays).room s m args below meth c D vwCl cI cC td A (fun a => a = ad0) (mv_Qi below args s D vwCl cI cC shX ad0 A) 0 0 shX [some (.inr (.inl 4)), some (.inl x1)] [] 7 w (f_X3_listPlays_7 n x1 w) := by
  intro n
  induction n with
  | zero => intro x1 w; exact ev_none
  | succ n ih =>
    intro x1 w
    rw [f_X3_listPlays_7]
    refine ev_iload_n hX dX3_listPlays_7 rfl ?_
    refine ev_bipush hX dX3_listPlays_8 (v := 25) (by decide +kernel) ?_
    refine ev_icmp_ge (tgt := 35) hX dX3_listPlays_10 (by decide) ?_ ?_
    · refine ev_iconst hX dX3_listPlays_35 (v := 0) (by decide +kernel) ?_
      refine ev_istore_n hX dX3_listPlays_36 rfl (L' := [some (.inr (.inl 4)), some (.inl 0)]) rfl ?_
      refine ev_mask [true, true] (L' := [some (.inr (.inl 4)), some (.inl 0)]) rfl rfl ?_
      exact e_X3_listPlays_37 hX hr 4096 0 w
    · refine ev_aload_n hX dX3_listPlays_13 rfl ?_
      refine ev_aload_n hX dX3_listPlays_14 rfl ?_
      refine ev_getr (k := 1) hX (T := TX3) in_X3_listPlays_X3 rfl rfl rfl (show Cond.fieldLink RX3 9 "FiveShogi$Rules" "plainMoves" "[I" ∈ _ by decide +kernel) rfl dX3_listPlays_15 ?_
      refine ev_iload_n hX dX3_listPlays_18 rfl ?_
      refine ev_iald hX rfl dX3_listPlays_19 (fun j1 => ?_)
      refine ev_iload_n hX dX3_listPlays_20 rfl ?_
      refine ev_iconst hX dX3_listPlays_21 (v := 0) (by decide +kernel) ?_
      refine ev_iconst hX dX3_listPlays_22 (v := 0) (by decide +kernel) ?_
      refine ev_callNi hX (As := [.inl x1, .inl 0, .inl 0]) (rm := rm_X4_moveNumber) (c_X4_moveNumber l D cI cC td x1 0 0 w) ⟨va_cnB (host := "FiveShogi") 3 hX.ts gX3_listPlays_X4_moveNumber_n110 rfl rfl rfl (hX.sta.2.1 (_, 110, _, _) (List.mem_of_getElem? (i := 19) rfl)) (hX.ts _ (show Cond.initialized RX4 ∈ _ by decide +kernel)) (by decide +kernel) ⟨Nat.le_of_ble_eq_true rfl, Nat.le_of_ble_eq_true rfl⟩, hX.ts _ (show Cond.static yX4_moveNumber ∈ _ by decide +kernel), trivial⟩ rfl rfl rfl ⟨Nat.le_of_ble_eq_true rfl, Nat.le_of_ble_eq_true rfl⟩ dX3_listPlays_23 rfl (fun z2 hz2 => ?_)
      refine ev_callVv hX (k0 := 4) (As := [.inl (w 5 j1), .inl z2.1]) (rm := rm_X3_addPlays) (c_X3_addPlays l D cI cC td (w 5 j1) z2.1 z2.2) (cwV 2 hX.ts gX3_listPlays_X3_addPlays rfl rfl rfl (by decide +kernel) ⟨Nat.le_of_ble_eq_true rfl, Nat.le_of_ble_eq_true rfl⟩) rfl rfl rfl rfl rfl rfl ⟨Nat.le_of_ble_eq_true rfl, Nat.le_of_ble_eq_true rfl⟩ dX3_listPlays_26 rfl (fun z3 hz3 => ?_)
      refine ev_iinc hX dX3_listPlays_29 rfl (v := 1) (by decide +kernel) (L' := [some (.inr (.inl 4)), some (.inl (x1 + 1))]) rfl ?_
      refine ev_goto (tgt := 7) hX dX3_listPlays_32 (by decide) ?_
      refine ev_mask [true, true] (L' := [some (.inr (.inl 4)), some (.inl (x1 + 1))]) rfl rfl ?_
      exact ih (x1 + 1) z3
set_option maxHeartbeats 4000000 in
set_option maxRecDepth 100000 in
theorem c_X3_listPlays (l : Launch) (D : va_G) (cI cC : ClassId) (td : Nat → Option Nat) (w : mvW) : ∀ z, f_X3_listPlays w = some z → mv_Ci l D vwCl cI cC tbX td yX3_listPlays wsX3_listPlays rm_X3_listPlays shX w [.inr (.inl 4)] z := by
  refine mv_starti (own := RX3) rfl (by decide) rfl rfl (L0 := [some (.inr (.inl 4)), none]) rfl (fun p e s m args below meth c A ad0 hX hr => ?_)
  rw [f_X3_listPlays]
  refine ev_aload_n hX dX3_listPlays_0 rfl ?_
  refine ev_iconst hX dX3_listPlays_1 (v := 0) (by decide +kernel) ?_
  refine ev_put (k := 5) hX (T := TX3) (ty := .int) in_X3_listPlays_X3 tyX3 tyX3_ok nmX3 rfl rfl rfl (show Cond.fieldLink RX3 24 "FiveShogi$Rules" "listSize" "I" ∈ _ by decide +kernel) rfl (by decide +kernel) rfl rfl rfl dX3_listPlays_2 ?_
  refine ev_iconst hX dX3_listPlays_5 (v := 0) (by decide +kernel) ?_
  refine ev_istore_n hX dX3_listPlays_6 rfl (L' := [some (.inr (.inl 4)), some (.inl 0)]) rfl ?_
  refine ev_mask [true, true] (L' := [some (.inr (.inl 4)), some (.inl 0)]) rfl rfl ?_
  exact e_X3_listPlays_7 hX hr 4096 0 (mv_up w 4 5 0)
def rm_X3_listed : Room := { frames := 0, cells := 0, slots := 0, locals := 0 }
set_option maxRecDepth 20000 in
theorem in_X3_listed_X3 : ∀ w ∈ u_ws RX3 TX3 6, w ∈ wsX3_listed := by decide +kernel
set_option maxHeartbeats 4000000 in
set_option maxRecDepth 100000 in
theorem c_X3_listed (l : Launch) (D : va_G) (cI cC : ClassId) (td : Nat → Option Nat) (a1 : Int32) (w : mvW) : ∀ z, f_X3_listed a1 w = some z → mv_Ci l D vwCl cI cC tbX td yX3_listed wsX3_listed rm_X3_listed shX w [.inr (.inl 4), .inl a1] z := by
  refine mv_starti (own := RX3) rfl (by decide) rfl rfl (L0 := [some (.inr (.inl 4)), some (.inl a1)]) rfl (fun p e s m args below meth c A ad0 hX hr => ?_)
  rw [f_X3_listed]
  refine ev_iload_n hX dX3_listed_0 rfl ?_
  refine ev_if_lt (tgt := 30) hX dX3_listed_1 (by decide) ?_ ?_
  · refine ev_sipush hX dX3_listed_30 (v := (-1005)) (by decide +kernel) ?_
    exact ev_ireti hX hr dX3_listed_33
  · refine ev_iload_n hX dX3_listed_4 rfl ?_
    refine ev_aload_n hX dX3_listed_5 rfl ?_
    refine ev_get (k := 5) hX (T := TX3) in_X3_listed_X3 rfl rfl rfl (show Cond.fieldLink RX3 24 "FiveShogi$Rules" "listSize" "I" ∈ _ by decide +kernel) rfl dX3_listed_6 ?_
    refine ev_icmp_ge (tgt := 30) hX dX3_listed_9 (by decide) ?_ ?_
    · refine ev_sipush hX dX3_listed_30 (v := (-1005)) (by decide +kernel) ?_
      exact ev_ireti hX hr dX3_listed_33
    · refine ev_iload_n hX dX3_listed_12 rfl ?_
      refine ev_aload_n hX dX3_listed_13 rfl ?_
      refine ev_getr (k := 4) hX (T := TX3) in_X3_listed_X3 rfl rfl rfl (show Cond.fieldLink RX3 21 "FiveShogi$Rules" "list" "[I" ∈ _ by decide +kernel) rfl dX3_listed_14 ?_
      refine ev_alen hX rfl (v := 525) (by decide +kernel) dX3_listed_17 ?_
      refine ev_icmp_ge (tgt := 30) hX dX3_listed_18 (by decide) ?_ ?_
      · refine ev_sipush hX dX3_listed_30 (v := (-1005)) (by decide +kernel) ?_
        exact ev_ireti hX hr dX3_listed_33
      · refine ev_aload_n hX dX3_listed_21 rfl ?_
        refine ev_getr (k := 4) hX (T := TX3) in_X3_listed_X3 rfl rfl rfl (show Cond.fieldLink RX3 21 "FiveShogi$Rules" "list" "[I" ∈ _ by decide +kernel) rfl dX3_listed_22 ?_
        refine ev_iload_n hX dX3_listed_25 rfl ?_
        refine ev_iald hX rfl dX3_listed_26 (fun j1 => ?_)
        refine ev_goto (tgt := 33) hX dX3_listed_27 (by decide) ?_
        exact ev_ireti hX hr dX3_listed_33
def rm_X4_mate : Room := { frames := 7, cells := 0, slots := 0, locals := 169 }
set_option maxRecDepth 20000 in
theorem in_X4_mate_X4 : ∀ w ∈ u_ws RX4 TX4 7, w ∈ wsX4_mate := by decide +kernel
set_option maxHeartbeats 4000000 in
set_option maxRecDepth 100000 in
theorem e_X4_mate_18 (hX : mv_X p s m args meth c D vwCl cI cC tbX td A cX4_mate 6 RX4 wsX4_mate) (hr : meth.sig.returnType = (some .int)) : ∀ (n : Nat) (x1 : Int32) (x2 : Int32) (w : mvW), EV p l e (headSpec wsX4_mate rm_X4_mate).room s m args below meth c D vwCl cI cC td A (fun a => a = ad0) (mv_Qi below args s D vwCl cI cC shX ad0 A) 0 0 shX [some (.inr (.inl 0)), some (.inl x1), some (.inl x2), none, none, none] [] 18 w (f_X4_mate_18 n x1 x2 w) := by
  intro n
  induction n with
  | zero => intro x1 x2 w; exact ev_none
  | succ n ih =>
    intro x1 x2 w
    rw [f_X4_mate_18]
    refine ev_iload_n hX dX4_mate_18 rfl ?_
    refine ev_iload_n hX dX4_mate_19 rfl ?_
    refine ev_icmp_ge (tgt := 74) hX dX4_mate_20 (by decide) ?_ ?_
    · refine ev_sipush hX dX4_mate_74 (v := (-1005)) (by decide +kernel) ?_
      exact ev_ireti hX hr dX4_mate_77
    · refine ev_aload_n hX dX4_mate_23 rfl ?_
      refine ev_getr (k := 1) hX (T := TX4) in_X4_mate_X4 rfl rfl rfl (show Cond.fieldLink RX4 21 "FiveShogi" "rules" "LFiveShogi$Rules;" ∈ _ by decide +kernel) rfl dX4_mate_24 ?_
      refine ev_iload_n hX dX4_mate_27 rfl ?_
      refine ev_callVi hX (k0 := 4) (As := [.inl x2]) (rm := rm_X3_listed) (c_X3_listed l D cI cC td x2 w) (cwV 1 hX.ts gX4_mate_X3_listed rfl rfl rfl (by decide +kernel) ⟨Nat.le_of_ble_eq_true rfl, Nat.le_of_ble_eq_true rfl⟩) rfl rfl rfl rfl rfl rfl ⟨Nat.le_of_ble_eq_true rfl, Nat.le_of_ble_eq_true rfl⟩ dX4_mate_28 rfl (fun z3 hz3 => ?_)
      refine ev_istore_n hX dX4_mate_31 rfl (L' := [some (.inr (.inl 0)), some (.inl x1), some (.inl x2), some (.inl z3.1), none, none]) rfl ?_
      refine ev_aload_n hX dX4_mate_32 rfl ?_
      refine ev_getr (k := 0) hX (T := TX4) in_X4_mate_X4 rfl rfl rfl (show Cond.fieldLink RX4 12 "FiveShogi" "position" "LFiveShogi$Position;" ∈ _ by decide +kernel) rfl dX4_mate_33 ?_
      refine ev_iload_n hX dX4_mate_36 rfl ?_
      refine ev_callVi hX (k0 := 1) (As := [.inl z3.1]) (rm := rm_X2_apply) (c_X2_apply l D cI cC td z3.1 z3.2) (cwV 1 hX.ts gX4_mate_X2_apply rfl rfl rfl (by decide +kernel) ⟨Nat.le_of_ble_eq_true rfl, Nat.le_of_ble_eq_true rfl⟩) rfl rfl rfl rfl rfl rfl ⟨Nat.le_of_ble_eq_true rfl, Nat.le_of_ble_eq_true rfl⟩ dX4_mate_37 rfl (fun z4 hz4 => ?_)
      refine ev_istore hX dX4_mate_40 rfl (L' := [some (.inr (.inl 0)), some (.inl x1), some (.inl x2), some (.inl z3.1), some (.inl z4.1), none]) rfl ?_
      refine ev_aload_n hX dX4_mate_42 rfl ?_
      refine ev_getr (k := 1) hX (T := TX4) in_X4_mate_X4 rfl rfl rfl (show Cond.fieldLink RX4 21 "FiveShogi" "rules" "LFiveShogi$Rules;" ∈ _ by decide +kernel) rfl dX4_mate_43 ?_
      refine ev_callVi hX (k0 := 4) (As := []) (rm := rm_X3_isMated) (c_X3_isMated l D cI cC td z4.2) (cwV 0 hX.ts gX4_mate_X3_isMated rfl rfl rfl (by decide +kernel) ⟨Nat.le_of_ble_eq_true rfl, Nat.le_of_ble_eq_true rfl⟩) rfl rfl rfl rfl rfl rfl ⟨Nat.le_of_ble_eq_true rfl, Nat.le_of_ble_eq_true rfl⟩ dX4_mate_46 rfl (fun z5 hz5 => ?_)
      refine ev_istore hX dX4_mate_49 rfl (L' := [some (.inr (.inl 0)), some (.inl x1), some (.inl x2), some (.inl z3.1), some (.inl z4.1), some (.inl z5.1)]) rfl ?_
      refine ev_aload_n hX dX4_mate_51 rfl ?_
      refine ev_getr (k := 0) hX (T := TX4) in_X4_mate_X4 rfl rfl rfl (show Cond.fieldLink RX4 12 "FiveShogi" "position" "LFiveShogi$Position;" ∈ _ by decide +kernel) rfl dX4_mate_52 ?_
      refine ev_iload_n hX dX4_mate_55 rfl ?_
      refine ev_iload hX dX4_mate_56 rfl ?_
      refine ev_callVv hX (k0 := 1) (As := [.inl z3.1, .inl z4.1]) (rm := rm_X2_takeBack) (c_X2_takeBack l D cI cC td z3.1 z4.1 z5.2) (cwV 2 hX.ts gX4_mate_X2_takeBack rfl rfl rfl (by decide +kernel) ⟨Nat.le_of_ble_eq_true rfl, Nat.le_of_ble_eq_true rfl⟩) rfl rfl rfl rfl rfl rfl ⟨Nat.le_of_ble_eq_true rfl, Nat.le_of_ble_eq_true rfl⟩ dX4_mate_58 rfl (fun z6 hz6 => ?_)
      refine ev_iload hX dX4_mate_61 rfl ?_
      refine ev_if_eq (tgt := 68) hX dX4_mate_63 (by decide) ?_ ?_
      · refine ev_iinc hX dX4_mate_68 rfl (v := 1) (by decide +kernel) (L' := [some (.inr (.inl 0)), some (.inl x1), some (.inl (x2 + 1)), some (.inl z3.1), some (.inl z4.1), some (.inl z5.1)]) rfl ?_
        refine ev_goto (tgt := 18) hX dX4_mate_71 (by decide) ?_
        refine ev_mask [true, true, true, false, false, false] (L' := [some (.inr (.inl 0)), some (.inl x1), some (.inl (x2 + 1)), none, none, none]) rfl rfl ?_
        exact ih x1 (x2 + 1) z6
      · refine ev_iload_n hX dX4_mate_66 rfl ?_
        exact ev_ireti hX hr dX4_mate_67
set_option maxHeartbeats 4000000 in
set_option maxRecDepth 100000 in
theorem c_X4_mate (l : Launch) (D : va_G) (cI cC : ClassId) (td : Nat → Option Nat) (w : mvW) : ∀ z, f_X4_mate w = some z → mv_Ci l D vwCl cI cC tbX td yX4_mate wsX4_mate rm_X4_mate shX w [.inr (.inl 0)] z := by
  refine mv_starti (own := RX4) rfl (by decide) rfl rfl (L0 := [some (.inr (.inl 0)), none, none, none, none, none]) rfl (fun p e s m args below meth c A ad0 hX hr => ?_)
  rw [f_X4_mate]
  refine ev_aload_n hX dX4_mate_0 rfl ?_
  refine ev_getr (k := 1) hX (T := TX4) in_X4_mate_X4 rfl rfl rfl (show Cond.fieldLink RX4 21 "FiveShogi" "rules" "LFiveShogi$Rules;" ∈ _ by decide +kernel) rfl dX4_mate_1 ?_
  refine ev_callVi hX (k0 := 4) (As := []) (rm := rm_X3_findPlays) (c_X3_findPlays l D cI cC td w) (cwV 0 hX.ts gX4_mate_X3_findPlays rfl rfl rfl (by decide +kernel) ⟨Nat.le_of_ble_eq_true rfl, Nat.le_of_ble_eq_true rfl⟩) rfl rfl rfl rfl rfl rfl ⟨Nat.le_of_ble_eq_true rfl, Nat.le_of_ble_eq_true rfl⟩ dX4_mate_4 rfl (fun z1 hz1 => ?_)
  refine ev_pop hX dX4_mate_7 ?_
  refine ev_aload_n hX dX4_mate_8 rfl ?_
  refine ev_getr (k := 1) hX (T := TX4) in_X4_mate_X4 rfl rfl rfl (show Cond.fieldLink RX4 21 "FiveShogi" "rules" "LFiveShogi$Rules;" ∈ _ by decide +kernel) rfl dX4_mate_9 ?_
  refine ev_callVi hX (k0 := 4) (As := []) (rm := rm_X3_listPlays) (c_X3_listPlays l D cI cC td z1.2) (cwV 0 hX.ts gX4_mate_X3_listPlays rfl rfl rfl (by decide +kernel) ⟨Nat.le_of_ble_eq_true rfl, Nat.le_of_ble_eq_true rfl⟩) rfl rfl rfl rfl rfl rfl ⟨Nat.le_of_ble_eq_true rfl, Nat.le_of_ble_eq_true rfl⟩ dX4_mate_12 rfl (fun z2 hz2 => ?_)
  refine ev_istore_n hX dX4_mate_15 rfl (L' := [some (.inr (.inl 0)), some (.inl z2.1), none, none, none, none]) rfl ?_
  refine ev_iconst hX dX4_mate_16 (v := 0) (by decide +kernel) ?_
  refine ev_istore_n hX dX4_mate_17 rfl (L' := [some (.inr (.inl 0)), some (.inl z2.1), some (.inl 0), none, none, none]) rfl ?_
  refine ev_mask [true, true, true, false, false, false] (L' := [some (.inr (.inl 0)), some (.inl z2.1), some (.inl 0), none, none, none]) rfl rfl ?_
  exact e_X4_mate_18 hX hr 4096 z2.1 0 z2.2
def rm_X4_man : Room := { frames := 1, cells := 0, slots := 0, locals := 21 }
set_option maxRecDepth 20000 in
theorem in_X4_man_X4 : ∀ w ∈ u_ws RX4 TX4 7, w ∈ wsX4_man := by decide +kernel
set_option maxHeartbeats 4000000 in
set_option maxRecDepth 100000 in
theorem c_X4_man (l : Launch) (D : va_G) (cI cC : ClassId) (td : Nat → Option Nat) (a1 : Int32) (w : mvW) : ∀ z, f_X4_man a1 w = some z → mv_Ci l D vwCl cI cC tbX td yX4_man wsX4_man rm_X4_man shX w [.inr (.inl 0), .inl a1] z := by
  refine mv_starti (own := RX4) rfl (by decide) rfl rfl (L0 := [some (.inr (.inl 0)), some (.inl a1), none]) rfl (fun p e s m args below meth c A ad0 hX hr => ?_)
  rw [f_X4_man]
  refine ev_iload_n hX dX4_man_0 rfl ?_
  refine ev_callSi hX (As := [.inl a1]) (rm := rm_X4_isSquare) (c_X4_isSquare l D cI cC td a1 w) (cwS 1 hX.ts gX4_man_X4_isSquare rfl rfl rfl (by decide +kernel) ⟨Nat.le_of_ble_eq_true rfl, Nat.le_of_ble_eq_true rfl⟩) rfl rfl rfl ⟨Nat.le_of_ble_eq_true rfl, Nat.le_of_ble_eq_true rfl⟩ dX4_man_1 rfl (fun z1 hz1 => ?_)
  refine ev_if_ne (tgt := 11) hX dX4_man_4 (by decide) ?_ ?_
  · refine ev_aload_n hX dX4_man_11 rfl ?_
    refine ev_getr (k := 0) hX (T := TX4) in_X4_man_X4 rfl rfl rfl (show Cond.fieldLink RX4 12 "FiveShogi" "position" "LFiveShogi$Position;" ∈ _ by decide +kernel) rfl dX4_man_12 ?_
    refine ev_iload_n hX dX4_man_15 rfl ?_
    refine ev_callVi hX (k0 := 1) (As := [.inl a1]) (rm := rm_X2_manOn) (c_X2_manOn l D cI cC td a1 z1.2) (cwV 1 hX.ts gX4_man_X2_manOn rfl rfl rfl (by decide +kernel) ⟨Nat.le_of_ble_eq_true rfl, Nat.le_of_ble_eq_true rfl⟩) rfl rfl rfl rfl rfl rfl ⟨Nat.le_of_ble_eq_true rfl, Nat.le_of_ble_eq_true rfl⟩ dX4_man_16 rfl (fun z2 hz2 => ?_)
    refine ev_istore_n hX dX4_man_19 rfl (L' := [some (.inr (.inl 0)), some (.inl a1), some (.inl z2.1)]) rfl ?_
    refine ev_iload_n hX dX4_man_20 rfl ?_
    refine ev_bipush hX dX4_man_21 (v := 99) (by decide +kernel) ?_
    refine ev_icmp_ne (tgt := 32) hX dX4_man_23 (by decide) ?_ ?_
    · refine ev_iload_n hX dX4_man_32 rfl ?_
      exact ev_ireti hX hr dX4_man_33
    · refine ev_sipush hX dX4_man_26 (v := (-1005)) (by decide +kernel) ?_
      refine ev_goto (tgt := 33) hX dX4_man_29 (by decide) ?_
      exact ev_ireti hX hr dX4_man_33
  · refine ev_sipush hX dX4_man_7 (v := (-1001)) (by decide +kernel) ?_
    exact ev_ireti hX hr dX4_man_10
def rm_X4_put : Room := { frames := 3, cells := 0, slots := 0, locals := 82 }
set_option maxRecDepth 20000 in
theorem in_X4_put_X4 : ∀ w ∈ u_ws RX4 TX4 7, w ∈ wsX4_put := by decide +kernel
set_option maxHeartbeats 4000000 in
set_option maxRecDepth 100000 in
theorem e_X4_put_51 (hX : mv_X p s m args meth c D vwCl cI cC tbX td A cX4_put 4 RX4 wsX4_put) (hr : meth.sig.returnType = (some .int)) (x1 : Int32) (x2 : Int32) (w : mvW) : EV p l e (headSpec wsX4_put rm_X4_put).room s m args below meth c D vwCl cI cC td A (fun a => a = ad0) (mv_Qi below args s D vwCl cI cC shX ad0 A) 0 0 shX [some (.inr (.inl 0)), some (.inl x1), some (.inl x2), none] [] 51 w (f_X4_put_51 x1 x2 w) := by
  rw [f_X4_put_51]
  refine ev_aload_n hX dX4_put_51 rfl ?_
  refine ev_getr (k := 0) hX (T := TX4) in_X4_put_X4 rfl rfl rfl (show Cond.fieldLink RX4 12 "FiveShogi" "position" "LFiveShogi$Position;" ∈ _ by decide +kernel) rfl dX4_put_52 ?_
  refine ev_iload_n hX dX4_put_55 rfl ?_
  refine ev_callVi hX (k0 := 1) (As := [.inl x1]) (rm := rm_X2_manOn) (c_X2_manOn l D cI cC td x1 w) (cwV 1 hX.ts gX4_put_X2_manOn rfl rfl rfl (by decide +kernel) ⟨Nat.le_of_ble_eq_true rfl, Nat.le_of_ble_eq_true rfl⟩) rfl rfl rfl rfl rfl rfl ⟨Nat.le_of_ble_eq_true rfl, Nat.le_of_ble_eq_true rfl⟩ dX4_put_56 rfl (fun z6 hz6 => ?_)
  refine ev_iload_n hX dX4_put_59 rfl ?_
  refine ev_icmp_ne (tgt := 67) hX dX4_put_60 (by decide) ?_ ?_
  · refine ev_aload_n hX dX4_put_67 rfl ?_
    refine ev_callVv hX (k0 := 0) (As := []) (rm := rm_X4_recordChange) (c_X4_recordChange l D cI cC td z6.2) (cwV 0 hX.ts gX4_put_X4_recordChange rfl rfl rfl (by decide +kernel) ⟨Nat.le_of_ble_eq_true rfl, Nat.le_of_ble_eq_true rfl⟩) rfl rfl rfl rfl rfl rfl ⟨Nat.le_of_ble_eq_true rfl, Nat.le_of_ble_eq_true rfl⟩ dX4_put_68 rfl (fun z7 hz7 => ?_)
    refine ev_aload_n hX dX4_put_71 rfl ?_
    refine ev_getr (k := 0) hX (T := TX4) in_X4_put_X4 rfl rfl rfl (show Cond.fieldLink RX4 12 "FiveShogi" "position" "LFiveShogi$Position;" ∈ _ by decide +kernel) rfl dX4_put_72 ?_
    refine ev_iload_n hX dX4_put_75 rfl ?_
    refine ev_iload_n hX dX4_put_76 rfl ?_
    refine ev_callVv hX (k0 := 1) (As := [.inl x1, .inl x2]) (rm := rm_X2_place) (c_X2_place l D cI cC td x1 x2 z7) (cwV 2 hX.ts gX4_put_X2_place rfl rfl rfl (by decide +kernel) ⟨Nat.le_of_ble_eq_true rfl, Nat.le_of_ble_eq_true rfl⟩) rfl rfl rfl rfl rfl rfl ⟨Nat.le_of_ble_eq_true rfl, Nat.le_of_ble_eq_true rfl⟩ dX4_put_77 rfl (fun z8 hz8 => ?_)
    refine ev_aload_n hX dX4_put_80 rfl ?_
    refine ev_getr (k := 0) hX (T := TX4) in_X4_put_X4 rfl rfl rfl (show Cond.fieldLink RX4 12 "FiveShogi" "position" "LFiveShogi$Position;" ∈ _ by decide +kernel) rfl dX4_put_81 ?_
    refine ev_callVi hX (k0 := 1) (As := []) (rm := rm_X2_menOnBoard) (c_X2_menOnBoard l D cI cC td z8) (cwV 0 hX.ts gX4_put_X2_menOnBoard rfl rfl rfl (by decide +kernel) ⟨Nat.le_of_ble_eq_true rfl, Nat.le_of_ble_eq_true rfl⟩) rfl rfl rfl rfl rfl rfl ⟨Nat.le_of_ble_eq_true rfl, Nat.le_of_ble_eq_true rfl⟩ dX4_put_84 rfl (fun z9 hz9 => ?_)
    exact ev_ireti hX hr dX4_put_87
  · refine ev_sipush hX dX4_put_63 (v := (-1005)) (by decide +kernel) ?_
    exact ev_ireti hX hr dX4_put_66
set_option maxHeartbeats 4000000 in
set_option maxRecDepth 100000 in
theorem c_X4_put (l : Launch) (D : va_G) (cI cC : ClassId) (td : Nat → Option Nat) (a1 : Int32) (a2 : Int32) (w : mvW) : ∀ z, f_X4_put a1 a2 w = some z → mv_Ci l D vwCl cI cC tbX td yX4_put wsX4_put rm_X4_put shX w [.inr (.inl 0), .inl a1, .inl a2] z := by
  refine mv_starti (own := RX4) rfl (by decide) rfl rfl (L0 := [some (.inr (.inl 0)), some (.inl a1), some (.inl a2), none]) rfl (fun p e s m args below meth c A ad0 hX hr => ?_)
  rw [f_X4_put]
  refine ev_iload_n hX dX4_put_0 rfl ?_
  refine ev_callSi hX (As := [.inl a1]) (rm := rm_X4_isSquare) (c_X4_isSquare l D cI cC td a1 w) (cwS 1 hX.ts gX4_put_X4_isSquare rfl rfl rfl (by decide +kernel) ⟨Nat.le_of_ble_eq_true rfl, Nat.le_of_ble_eq_true rfl⟩) rfl rfl rfl ⟨Nat.le_of_ble_eq_true rfl, Nat.le_of_ble_eq_true rfl⟩ dX4_put_1 rfl (fun z1 hz1 => ?_)
  refine ev_if_eq (tgt := 14) hX dX4_put_4 (by decide) ?_ ?_
  · refine ev_sipush hX dX4_put_14 (v := (-1001)) (by decide +kernel) ?_
    exact ev_ireti hX hr dX4_put_17
  · refine ev_iload_n hX dX4_put_7 rfl ?_
    refine ev_callSi hX (As := [.inl a2]) (rm := rm_X4_isMan) (c_X4_isMan l D cI cC td a2 z1.2) (cwS 1 hX.ts gX4_put_X4_isMan rfl rfl rfl (by decide +kernel) ⟨Nat.le_of_ble_eq_true rfl, Nat.le_of_ble_eq_true rfl⟩) rfl rfl rfl ⟨Nat.le_of_ble_eq_true rfl, Nat.le_of_ble_eq_true rfl⟩ dX4_put_8 rfl (fun z2 hz2 => ?_)
    refine ev_if_ne (tgt := 18) hX dX4_put_11 (by decide) ?_ ?_
    · refine ev_aload_n hX dX4_put_18 rfl ?_
      refine ev_getr (k := 0) hX (T := TX4) in_X4_put_X4 rfl rfl rfl (show Cond.fieldLink RX4 12 "FiveShogi" "position" "LFiveShogi$Position;" ∈ _ by decide +kernel) rfl dX4_put_19 ?_
      refine ev_iload_n hX dX4_put_22 rfl ?_
      refine ev_callSi hX (As := [.inl a2]) (rm := rm_X4_sideOf) (c_X4_sideOf l D cI cC td a2 z2.2) (cwS 1 hX.ts gX4_put_X4_sideOf rfl rfl rfl (by decide +kernel) ⟨Nat.le_of_ble_eq_true rfl, Nat.le_of_ble_eq_true rfl⟩) rfl rfl rfl ⟨Nat.le_of_ble_eq_true rfl, Nat.le_of_ble_eq_true rfl⟩ dX4_put_23 rfl (fun z3 hz3 => ?_)
      refine ev_callVi hX (k0 := 1) (As := [.inl z3.1]) (rm := rm_X2_kingOf) (c_X2_kingOf l D cI cC td z3.1 z3.2) (cwV 1 hX.ts gX4_put_X2_kingOf rfl rfl rfl (by decide +kernel) ⟨Nat.le_of_ble_eq_true rfl, Nat.le_of_ble_eq_true rfl⟩) rfl rfl rfl rfl rfl rfl ⟨Nat.le_of_ble_eq_true rfl, Nat.le_of_ble_eq_true rfl⟩ dX4_put_26 rfl (fun z4 hz4 => ?_)
      refine ev_istore_n hX dX4_put_29 rfl (L' := [some (.inr (.inl 0)), some (.inl a1), some (.inl a2), some (.inl z4.1)]) rfl ?_
      refine ev_iload_n hX dX4_put_30 rfl ?_
      refine ev_callSi hX (As := [.inl a2]) (rm := rm_X4_kindOf) (c_X4_kindOf l D cI cC td a2 z4.2) (cwS 1 hX.ts gX4_put_X4_kindOf rfl rfl rfl (by decide +kernel) ⟨Nat.le_of_ble_eq_true rfl, Nat.le_of_ble_eq_true rfl⟩) rfl rfl rfl ⟨Nat.le_of_ble_eq_true rfl, Nat.le_of_ble_eq_true rfl⟩ dX4_put_31 rfl (fun z5 hz5 => ?_)
      refine ev_if_ne (tgt := 51) hX dX4_put_34 (by decide) ?_ ?_
      · refine ev_mask [true, true, true, false] (L' := [some (.inr (.inl 0)), some (.inl a1), some (.inl a2), none]) rfl rfl ?_
        exact e_X4_put_51 hX hr a1 a2 z5.2
      · refine ev_iload_n hX dX4_put_37 rfl ?_
        refine ev_iconst hX dX4_put_38 (v := (-1)) (by decide +kernel) ?_
        refine ev_icmp_eq (tgt := 51) hX dX4_put_39 (by decide) ?_ ?_
        · refine ev_mask [true, true, true, false] (L' := [some (.inr (.inl 0)), some (.inl a1), some (.inl a2), none]) rfl rfl ?_
          exact e_X4_put_51 hX hr a1 a2 z5.2
        · refine ev_iload_n hX dX4_put_42 rfl ?_
          refine ev_iload_n hX dX4_put_43 rfl ?_
          refine ev_icmp_eq (tgt := 51) hX dX4_put_44 (by decide) ?_ ?_
          · refine ev_mask [true, true, true, false] (L' := [some (.inr (.inl 0)), some (.inl a1), some (.inl a2), none]) rfl rfl ?_
            exact e_X4_put_51 hX hr a1 a2 z5.2
          · refine ev_sipush hX dX4_put_47 (v := (-1004)) (by decide +kernel) ?_
            exact ev_ireti hX hr dX4_put_50
    · refine ev_sipush hX dX4_put_14 (v := (-1001)) (by decide +kernel) ?_
      exact ev_ireti hX hr dX4_put_17
def rm_X4_hand : Room := { frames := 2, cells := 0, slots := 0, locals := 42 }
set_option maxRecDepth 20000 in
theorem in_X4_hand_X4 : ∀ w ∈ u_ws RX4 TX4 7, w ∈ wsX4_hand := by decide +kernel
set_option maxHeartbeats 4000000 in
set_option maxRecDepth 100000 in
theorem c_X4_hand (l : Launch) (D : va_G) (cI cC : ClassId) (td : Nat → Option Nat) (a1 : Int32) (a2 : Int32) (w : mvW) : ∀ z, f_X4_hand a1 a2 w = some z → mv_Ci l D vwCl cI cC tbX td yX4_hand wsX4_hand rm_X4_hand shX w [.inr (.inl 0), .inl a1, .inl a2] z := by
  refine mv_starti (own := RX4) rfl (by decide) rfl rfl (L0 := [some (.inr (.inl 0)), some (.inl a1), some (.inl a2)]) rfl (fun p e s m args below meth c A ad0 hX hr => ?_)
  rw [f_X4_hand]
  refine ev_iload_n hX dX4_hand_0 rfl ?_
  refine ev_callSi hX (As := [.inl a1]) (rm := rm_X4_isSide) (c_X4_isSide l D cI cC td a1 w) (cwS 1 hX.ts gX4_hand_X4_isSide rfl rfl rfl (by decide +kernel) ⟨Nat.le_of_ble_eq_true rfl, Nat.le_of_ble_eq_true rfl⟩) rfl rfl rfl ⟨Nat.le_of_ble_eq_true rfl, Nat.le_of_ble_eq_true rfl⟩ dX4_hand_1 rfl (fun z1 hz1 => ?_)
  refine ev_if_eq (tgt := 14) hX dX4_hand_4 (by decide) ?_ ?_
  · refine ev_sipush hX dX4_hand_14 (v := (-1001)) (by decide +kernel) ?_
    exact ev_ireti hX hr dX4_hand_17
  · refine ev_iload_n hX dX4_hand_7 rfl ?_
    refine ev_callSi hX (As := [.inl a2]) (rm := rm_X4_isHandKind) (c_X4_isHandKind l D cI cC td a2 z1.2) (cwS 1 hX.ts gX4_hand_X4_isHandKind rfl rfl rfl (by decide +kernel) ⟨Nat.le_of_ble_eq_true rfl, Nat.le_of_ble_eq_true rfl⟩) rfl rfl rfl ⟨Nat.le_of_ble_eq_true rfl, Nat.le_of_ble_eq_true rfl⟩ dX4_hand_8 rfl (fun z2 hz2 => ?_)
    refine ev_if_ne (tgt := 18) hX dX4_hand_11 (by decide) ?_ ?_
    · refine ev_aload_n hX dX4_hand_18 rfl ?_
      refine ev_getr (k := 0) hX (T := TX4) in_X4_hand_X4 rfl rfl rfl (show Cond.fieldLink RX4 12 "FiveShogi" "position" "LFiveShogi$Position;" ∈ _ by decide +kernel) rfl dX4_hand_19 ?_
      refine ev_iload_n hX dX4_hand_22 rfl ?_
      refine ev_iload_n hX dX4_hand_23 rfl ?_
      refine ev_callVi hX (k0 := 1) (As := [.inl a1, .inl a2]) (rm := rm_X2_inHand) (c_X2_inHand l D cI cC td a1 a2 z2.2) (cwV 2 hX.ts gX4_hand_X2_inHand rfl rfl rfl (by decide +kernel) ⟨Nat.le_of_ble_eq_true rfl, Nat.le_of_ble_eq_true rfl⟩) rfl rfl rfl rfl rfl rfl ⟨Nat.le_of_ble_eq_true rfl, Nat.le_of_ble_eq_true rfl⟩ dX4_hand_24 rfl (fun z3 hz3 => ?_)
      exact ev_ireti hX hr dX4_hand_27
    · refine ev_sipush hX dX4_hand_14 (v := (-1001)) (by decide +kernel) ?_
      exact ev_ireti hX hr dX4_hand_17
def rm_X4_setHand : Room := { frames := 3, cells := 0, slots := 0, locals := 82 }
set_option maxRecDepth 20000 in
theorem in_X4_setHand_X4 : ∀ w ∈ u_ws RX4 TX4 7, w ∈ wsX4_setHand := by decide +kernel
set_option maxHeartbeats 4000000 in
set_option maxRecDepth 100000 in
theorem c_X4_setHand (l : Launch) (D : va_G) (cI cC : ClassId) (td : Nat → Option Nat) (a1 : Int32) (a2 : Int32) (a3 : Int32) (w : mvW) : ∀ z, f_X4_setHand a1 a2 a3 w = some z → mv_Ci l D vwCl cI cC tbX td yX4_setHand wsX4_setHand rm_X4_setHand shX w [.inr (.inl 0), .inl a1, .inl a2, .inl a3] z := by
  refine mv_starti (own := RX4) rfl (by decide) rfl rfl (L0 := [some (.inr (.inl 0)), some (.inl a1), some (.inl a2), some (.inl a3), none]) rfl (fun p e s m args below meth c A ad0 hX hr => ?_)
  rw [f_X4_setHand]
  refine ev_iload_n hX dX4_setHand_0 rfl ?_
  refine ev_callSi hX (As := [.inl a1]) (rm := rm_X4_isSide) (c_X4_isSide l D cI cC td a1 w) (cwS 1 hX.ts gX4_setHand_X4_isSide rfl rfl rfl (by decide +kernel) ⟨Nat.le_of_ble_eq_true rfl, Nat.le_of_ble_eq_true rfl⟩) rfl rfl rfl ⟨Nat.le_of_ble_eq_true rfl, Nat.le_of_ble_eq_true rfl⟩ dX4_setHand_1 rfl (fun z1 hz1 => ?_)
  refine ev_if_eq (tgt := 14) hX dX4_setHand_4 (by decide) ?_ ?_
  · refine ev_sipush hX dX4_setHand_14 (v := (-1001)) (by decide +kernel) ?_
    exact ev_ireti hX hr dX4_setHand_17
  · refine ev_iload_n hX dX4_setHand_7 rfl ?_
    refine ev_callSi hX (As := [.inl a2]) (rm := rm_X4_isHandKind) (c_X4_isHandKind l D cI cC td a2 z1.2) (cwS 1 hX.ts gX4_setHand_X4_isHandKind rfl rfl rfl (by decide +kernel) ⟨Nat.le_of_ble_eq_true rfl, Nat.le_of_ble_eq_true rfl⟩) rfl rfl rfl ⟨Nat.le_of_ble_eq_true rfl, Nat.le_of_ble_eq_true rfl⟩ dX4_setHand_8 rfl (fun z2 hz2 => ?_)
    refine ev_if_ne (tgt := 18) hX dX4_setHand_11 (by decide) ?_ ?_
    · refine ev_iload_n hX dX4_setHand_18 rfl ?_
      refine ev_if_lt (tgt := 27) hX dX4_setHand_19 (by decide) ?_ ?_
      · refine ev_sipush hX dX4_setHand_27 (v := (-1002)) (by decide +kernel) ?_
        exact ev_ireti hX hr dX4_setHand_30
      · refine ev_iload_n hX dX4_setHand_22 rfl ?_
        refine ev_iconst hX dX4_setHand_23 (v := 4) (by decide +kernel) ?_
        refine ev_icmp_le (tgt := 31) hX dX4_setHand_24 (by decide) ?_ ?_
        · refine ev_aload_n hX dX4_setHand_31 rfl ?_
          refine ev_getr (k := 0) hX (T := TX4) in_X4_setHand_X4 rfl rfl rfl (show Cond.fieldLink RX4 12 "FiveShogi" "position" "LFiveShogi$Position;" ∈ _ by decide +kernel) rfl dX4_setHand_32 ?_
          refine ev_iload_n hX dX4_setHand_35 rfl ?_
          refine ev_iload_n hX dX4_setHand_36 rfl ?_
          refine ev_callVi hX (k0 := 1) (As := [.inl a1, .inl a2]) (rm := rm_X2_inHand) (c_X2_inHand l D cI cC td a1 a2 z2.2) (cwV 2 hX.ts gX4_setHand_X2_inHand rfl rfl rfl (by decide +kernel) ⟨Nat.le_of_ble_eq_true rfl, Nat.le_of_ble_eq_true rfl⟩) rfl rfl rfl rfl rfl rfl ⟨Nat.le_of_ble_eq_true rfl, Nat.le_of_ble_eq_true rfl⟩ dX4_setHand_37 rfl (fun z3 hz3 => ?_)
          refine ev_istore hX dX4_setHand_40 rfl (L' := [some (.inr (.inl 0)), some (.inl a1), some (.inl a2), some (.inl a3), some (.inl z3.1)]) rfl ?_
          refine ev_iload hX dX4_setHand_42 rfl ?_
          refine ev_iload_n hX dX4_setHand_44 rfl ?_
          refine ev_icmp_ne (tgt := 52) hX dX4_setHand_45 (by decide) ?_ ?_
          · refine ev_aload_n hX dX4_setHand_52 rfl ?_
            refine ev_callVv hX (k0 := 0) (As := []) (rm := rm_X4_recordChange) (c_X4_recordChange l D cI cC td z3.2) (cwV 0 hX.ts gX4_setHand_X4_recordChange rfl rfl rfl (by decide +kernel) ⟨Nat.le_of_ble_eq_true rfl, Nat.le_of_ble_eq_true rfl⟩) rfl rfl rfl rfl rfl rfl ⟨Nat.le_of_ble_eq_true rfl, Nat.le_of_ble_eq_true rfl⟩ dX4_setHand_53 rfl (fun z4 hz4 => ?_)
            refine ev_aload_n hX dX4_setHand_56 rfl ?_
            refine ev_getr (k := 0) hX (T := TX4) in_X4_setHand_X4 rfl rfl rfl (show Cond.fieldLink RX4 12 "FiveShogi" "position" "LFiveShogi$Position;" ∈ _ by decide +kernel) rfl dX4_setHand_57 ?_
            refine ev_iload_n hX dX4_setHand_60 rfl ?_
            refine ev_iload_n hX dX4_setHand_61 rfl ?_
            refine ev_iload_n hX dX4_setHand_62 rfl ?_
            refine ev_callVv hX (k0 := 1) (As := [.inl a1, .inl a2, .inl a3]) (rm := rm_X2_setInHand) (c_X2_setInHand l D cI cC td a1 a2 a3 z4) (cwV 3 hX.ts gX4_setHand_X2_setInHand rfl rfl rfl (by decide +kernel) ⟨Nat.le_of_ble_eq_true rfl, Nat.le_of_ble_eq_true rfl⟩) rfl rfl rfl rfl rfl rfl ⟨Nat.le_of_ble_eq_true rfl, Nat.le_of_ble_eq_true rfl⟩ dX4_setHand_63 rfl (fun z5 hz5 => ?_)
            refine ev_iload hX dX4_setHand_66 rfl ?_
            exact ev_ireti hX hr dX4_setHand_68
          · refine ev_sipush hX dX4_setHand_48 (v := (-1005)) (by decide +kernel) ?_
            exact ev_ireti hX hr dX4_setHand_51
        · refine ev_sipush hX dX4_setHand_27 (v := (-1002)) (by decide +kernel) ?_
          exact ev_ireti hX hr dX4_setHand_30
    · refine ev_sipush hX dX4_setHand_14 (v := (-1001)) (by decide +kernel) ?_
      exact ev_ireti hX hr dX4_setHand_17
def rm_X3_whyNoMove : Room := { frames := 3, cells := 0, slots := 0, locals := 76 }
set_option maxRecDepth 20000 in
theorem in_X3_whyNoMove_X3 : ∀ w ∈ u_ws RX3 TX3 6, w ∈ wsX3_whyNoMove := by decide +kernel
set_option maxHeartbeats 4000000 in
set_option maxRecDepth 100000 in
theorem e_X3_whyNoMove_92 (hX : mv_X p s m args meth c D vwCl cI cC tbX td A cX3_whyNoMove 5 RX3 wsX3_whyNoMove) (hr : meth.sig.returnType = (some .int)) (x1 : Int32) (x2 : Int32) (w : mvW) : EV p l e (headSpec wsX3_whyNoMove rm_X3_whyNoMove).room s m args below meth c D vwCl cI cC td A (fun a => a = ad0) (mv_Qi below args s D vwCl cI cC shX ad0 A) 0 0 shX [some (.inr (.inl 4)), some (.inl x1), some (.inl x2), none, none] [] 92 w (f_X3_whyNoMove_92 x1 x2 w) := by
  rw [f_X3_whyNoMove_92]
  refine ev_aload_n hX dX3_whyNoMove_92 rfl ?_
  refine ev_iload_n hX dX3_whyNoMove_93 rfl ?_
  refine ev_callVi hX (k0 := 4) (As := [.inl x1]) (rm := rm_X3_safeTargets) (c_X3_safeTargets l D cI cC td x1 w) (cwV 1 hX.ts gX3_whyNoMove_X3_safeTargets rfl rfl rfl (by decide +kernel) ⟨Nat.le_of_ble_eq_true rfl, Nat.le_of_ble_eq_true rfl⟩) rfl rfl rfl rfl rfl rfl ⟨Nat.le_of_ble_eq_true rfl, Nat.le_of_ble_eq_true rfl⟩ dX3_whyNoMove_94 rfl (fun z11 hz11 => ?_)
  refine ev_iload_n hX dX3_whyNoMove_97 rfl ?_
  refine ev_callNi hX (As := [.inl z11.1, .inl x2]) (rm := rm_X4_has) (c_X4_has l D cI cC td z11.1 x2 z11.2) ⟨va_cnB (host := "FiveShogi") 2 hX.ts gX3_whyNoMove_X4_has_n76 rfl rfl rfl (hX.sta.2.1 (_, 76, _, _) (List.mem_of_getElem? (i := 12) rfl)) (hX.ts _ (show Cond.initialized RX4 ∈ _ by decide +kernel)) (by decide +kernel) ⟨Nat.le_of_ble_eq_true rfl, Nat.le_of_ble_eq_true rfl⟩, hX.ts _ (show Cond.static yX4_has ∈ _ by decide +kernel), trivial⟩ rfl rfl rfl ⟨Nat.le_of_ble_eq_true rfl, Nat.le_of_ble_eq_true rfl⟩ dX3_whyNoMove_98 rfl (fun z12 hz12 => ?_)
  refine ev_if_eq (tgt := 108) hX dX3_whyNoMove_101 (by decide) ?_ ?_
  · refine ev_bipush hX dX3_whyNoMove_108 (v := 6) (by decide +kernel) ?_
    exact ev_ireti hX hr dX3_whyNoMove_110
  · refine ev_iconst hX dX3_whyNoMove_104 (v := 0) (by decide +kernel) ?_
    refine ev_goto (tgt := 110) hX dX3_whyNoMove_105 (by decide) ?_
    exact ev_ireti hX hr dX3_whyNoMove_110
set_option maxHeartbeats 4000000 in
set_option maxRecDepth 100000 in
theorem e_X3_whyNoMove_74 (hX : mv_X p s m args meth c D vwCl cI cC tbX td A cX3_whyNoMove 5 RX3 wsX3_whyNoMove) (hr : meth.sig.returnType = (some .int)) (x1 : Int32) (x2 : Int32) (x3 : Int32) (w : mvW) : EV p l e (headSpec wsX3_whyNoMove rm_X3_whyNoMove).room s m args below meth c D vwCl cI cC td A (fun a => a = ad0) (mv_Qi below args s D vwCl cI cC shX ad0 A) 0 0 shX [some (.inr (.inl 4)), some (.inl x1), some (.inl x2), some (.inl x3), none] [] 74 w (f_X3_whyNoMove_74 x1 x2 x3 w) := by
  rw [f_X3_whyNoMove_74]
  refine ev_iload_n hX dX3_whyNoMove_74 rfl ?_
  refine ev_if_ne (tgt := 92) hX dX3_whyNoMove_75 (by decide) ?_ ?_
  · refine ev_mask [true, true, true, false, false] (L' := [some (.inr (.inl 4)), some (.inl x1), some (.inl x2), none, none]) rfl rfl ?_
    exact e_X3_whyNoMove_92 hX hr x1 x2 w
  · refine ev_aload_n hX dX3_whyNoMove_78 rfl ?_
    refine ev_iload_n hX dX3_whyNoMove_79 rfl ?_
    refine ev_callVi hX (k0 := 4) (As := [.inl x1]) (rm := rm_X3_forcingSquares) (c_X3_forcingSquares l D cI cC td x1 w) (cwV 1 hX.ts gX3_whyNoMove_X3_forcingSquares rfl rfl rfl (by decide +kernel) ⟨Nat.le_of_ble_eq_true rfl, Nat.le_of_ble_eq_true rfl⟩) rfl rfl rfl rfl rfl rfl ⟨Nat.le_of_ble_eq_true rfl, Nat.le_of_ble_eq_true rfl⟩ dX3_whyNoMove_80 rfl (fun z9 hz9 => ?_)
    refine ev_iload_n hX dX3_whyNoMove_83 rfl ?_
    refine ev_callNi hX (As := [.inl z9.1, .inl x2]) (rm := rm_X4_has) (c_X4_has l D cI cC td z9.1 x2 z9.2) ⟨va_cnB (host := "FiveShogi") 2 hX.ts gX3_whyNoMove_X4_has_n76 rfl rfl rfl (hX.sta.2.1 (_, 76, _, _) (List.mem_of_getElem? (i := 12) rfl)) (hX.ts _ (show Cond.initialized RX4 ∈ _ by decide +kernel)) (by decide +kernel) ⟨Nat.le_of_ble_eq_true rfl, Nat.le_of_ble_eq_true rfl⟩, hX.ts _ (show Cond.static yX4_has ∈ _ by decide +kernel), trivial⟩ rfl rfl rfl ⟨Nat.le_of_ble_eq_true rfl, Nat.le_of_ble_eq_true rfl⟩ dX3_whyNoMove_84 rfl (fun z10 hz10 => ?_)
    refine ev_if_eq (tgt := 92) hX dX3_whyNoMove_87 (by decide) ?_ ?_
    · refine ev_mask [true, true, true, false, false] (L' := [some (.inr (.inl 4)), some (.inl x1), some (.inl x2), none, none]) rfl rfl ?_
      exact e_X3_whyNoMove_92 hX hr x1 x2 z10.2
    · refine ev_iconst hX dX3_whyNoMove_90 (v := 5) (by decide +kernel) ?_
      exact ev_ireti hX hr dX3_whyNoMove_91
set_option maxHeartbeats 4000000 in
set_option maxRecDepth 100000 in
theorem c_X3_whyNoMove (l : Launch) (D : va_G) (cI cC : ClassId) (td : Nat → Option Nat) (a1 : Int32) (a2 : Int32) (a3 : Int32) (w : mvW) : ∀ z, f_X3_whyNoMove a1 a2 a3 w = some z → mv_Ci l D vwCl cI cC tbX td yX3_whyNoMove wsX3_whyNoMove rm_X3_whyNoMove shX w [.inr (.inl 4), .inl a1, .inl a2, .inl a3] z := by
  refine mv_starti (own := RX3) rfl (by decide) rfl rfl (L0 := [some (.inr (.inl 4)), some (.inl a1), some (.inl a2), some (.inl a3), none]) rfl (fun p e s m args below meth c A ad0 hX hr => ?_)
  rw [f_X3_whyNoMove]
  refine ev_aload_n hX dX3_whyNoMove_0 rfl ?_
  refine ev_getr (k := 0) hX (T := TX3) in_X3_whyNoMove_X3 rfl rfl rfl (show Cond.fieldLink RX3 28 "FiveShogi$Rules" "position" "LFiveShogi$Position;" ∈ _ by decide +kernel) rfl dX3_whyNoMove_1 ?_
  refine ev_callVi hX (k0 := 1) (As := []) (rm := rm_X2_sideToPlay) (c_X2_sideToPlay l D cI cC td w) (cwV 0 hX.ts gX3_whyNoMove_X2_sideToPlay rfl rfl rfl (by decide +kernel) ⟨Nat.le_of_ble_eq_true rfl, Nat.le_of_ble_eq_true rfl⟩) rfl rfl rfl rfl rfl rfl ⟨Nat.le_of_ble_eq_true rfl, Nat.le_of_ble_eq_true rfl⟩ dX3_whyNoMove_4 rfl (fun z1 hz1 => ?_)
  refine ev_istore hX dX3_whyNoMove_7 rfl (L' := [some (.inr (.inl 4)), some (.inl a1), some (.inl a2), some (.inl a3), some (.inl z1.1)]) rfl ?_
  refine ev_aload_n hX dX3_whyNoMove_9 rfl ?_
  refine ev_getr (k := 0) hX (T := TX3) in_X3_whyNoMove_X3 rfl rfl rfl (show Cond.fieldLink RX3 28 "FiveShogi$Rules" "position" "LFiveShogi$Position;" ∈ _ by decide +kernel) rfl dX3_whyNoMove_10 ?_
  refine ev_iload_n hX dX3_whyNoMove_13 rfl ?_
  refine ev_callVi hX (k0 := 1) (As := [.inl a1]) (rm := rm_X2_manOn) (c_X2_manOn l D cI cC td a1 z1.2) (cwV 1 hX.ts gX3_whyNoMove_X2_manOn rfl rfl rfl (by decide +kernel) ⟨Nat.le_of_ble_eq_true rfl, Nat.le_of_ble_eq_true rfl⟩) rfl rfl rfl rfl rfl rfl ⟨Nat.le_of_ble_eq_true rfl, Nat.le_of_ble_eq_true rfl⟩ dX3_whyNoMove_14 rfl (fun z2 hz2 => ?_)
  refine ev_callNi hX (As := [.inl z2.1]) (rm := rm_X4_sideOf) (c_X4_sideOf l D cI cC td z2.1 z2.2) ⟨va_cnB (host := "FiveShogi") 1 hX.ts gX3_whyNoMove_X4_sideOf_n70 rfl rfl rfl (hX.sta.2.1 (_, 70, _, _) (List.mem_of_getElem? (i := 17) rfl)) (hX.ts _ (show Cond.initialized RX4 ∈ _ by decide +kernel)) (by decide +kernel) ⟨Nat.le_of_ble_eq_true rfl, Nat.le_of_ble_eq_true rfl⟩, hX.ts _ (show Cond.static yX4_sideOf ∈ _ by decide +kernel), trivial⟩ rfl rfl rfl ⟨Nat.le_of_ble_eq_true rfl, Nat.le_of_ble_eq_true rfl⟩ dX3_whyNoMove_17 rfl (fun z3 hz3 => ?_)
  refine ev_iload hX dX3_whyNoMove_20 rfl ?_
  refine ev_icmp_eq (tgt := 27) hX dX3_whyNoMove_22 (by decide) ?_ ?_
  · refine ev_aload_n hX dX3_whyNoMove_27 rfl ?_
    refine ev_getr (k := 0) hX (T := TX3) in_X3_whyNoMove_X3 rfl rfl rfl (show Cond.fieldLink RX3 28 "FiveShogi$Rules" "position" "LFiveShogi$Position;" ∈ _ by decide +kernel) rfl dX3_whyNoMove_28 ?_
    refine ev_iload_n hX dX3_whyNoMove_31 rfl ?_
    refine ev_callVi hX (k0 := 1) (As := [.inl a1]) (rm := rm_X2_attackedFrom) (c_X2_attackedFrom l D cI cC td a1 z3.2) (cwV 1 hX.ts gX3_whyNoMove_X2_attackedFrom rfl rfl rfl (by decide +kernel) ⟨Nat.le_of_ble_eq_true rfl, Nat.le_of_ble_eq_true rfl⟩) rfl rfl rfl rfl rfl rfl ⟨Nat.le_of_ble_eq_true rfl, Nat.le_of_ble_eq_true rfl⟩ dX3_whyNoMove_32 rfl (fun z4 hz4 => ?_)
    refine ev_iload_n hX dX3_whyNoMove_35 rfl ?_
    refine ev_callNi hX (As := [.inl z4.1, .inl a2]) (rm := rm_X4_has) (c_X4_has l D cI cC td z4.1 a2 z4.2) ⟨va_cnB (host := "FiveShogi") 2 hX.ts gX3_whyNoMove_X4_has_n76 rfl rfl rfl (hX.sta.2.1 (_, 76, _, _) (List.mem_of_getElem? (i := 12) rfl)) (hX.ts _ (show Cond.initialized RX4 ∈ _ by decide +kernel)) (by decide +kernel) ⟨Nat.le_of_ble_eq_true rfl, Nat.le_of_ble_eq_true rfl⟩, hX.ts _ (show Cond.static yX4_has ∈ _ by decide +kernel), trivial⟩ rfl rfl rfl ⟨Nat.le_of_ble_eq_true rfl, Nat.le_of_ble_eq_true rfl⟩ dX3_whyNoMove_36 rfl (fun z5 hz5 => ?_)
    refine ev_if_ne (tgt := 44) hX dX3_whyNoMove_39 (by decide) ?_ ?_
    · refine ev_aload_n hX dX3_whyNoMove_44 rfl ?_
      refine ev_iload hX dX3_whyNoMove_45 rfl ?_
      refine ev_iload_n hX dX3_whyNoMove_47 rfl ?_
      refine ev_callVi hX (k0 := 4) (As := [.inl z1.1, .inl a2]) (rm := rm_X3_canEnter) (c_X3_canEnter l D cI cC td z1.1 a2 z5.2) (cwV 2 hX.ts gX3_whyNoMove_X3_canEnter rfl rfl rfl (by decide +kernel) ⟨Nat.le_of_ble_eq_true rfl, Nat.le_of_ble_eq_true rfl⟩) rfl rfl rfl rfl rfl rfl ⟨Nat.le_of_ble_eq_true rfl, Nat.le_of_ble_eq_true rfl⟩ dX3_whyNoMove_48 rfl (fun z6 hz6 => ?_)
      refine ev_if_ne (tgt := 56) hX dX3_whyNoMove_51 (by decide) ?_ ?_
      · refine ev_iload_n hX dX3_whyNoMove_56 rfl ?_
        refine ev_if_eq (tgt := 74) hX dX3_whyNoMove_57 (by decide) ?_ ?_
        · refine ev_mask [true, true, true, true, false] (L' := [some (.inr (.inl 4)), some (.inl a1), some (.inl a2), some (.inl a3), none]) rfl rfl ?_
          exact e_X3_whyNoMove_74 hX hr a1 a2 a3 z6.2
        · refine ev_aload_n hX dX3_whyNoMove_60 rfl ?_
          refine ev_iload_n hX dX3_whyNoMove_61 rfl ?_
          refine ev_callVi hX (k0 := 4) (As := [.inl a1]) (rm := rm_X3_promotingSquares) (c_X3_promotingSquares l D cI cC td a1 z6.2) (cwV 1 hX.ts gX3_whyNoMove_X3_promotingSquares rfl rfl rfl (by decide +kernel) ⟨Nat.le_of_ble_eq_true rfl, Nat.le_of_ble_eq_true rfl⟩) rfl rfl rfl rfl rfl rfl ⟨Nat.le_of_ble_eq_true rfl, Nat.le_of_ble_eq_true rfl⟩ dX3_whyNoMove_62 rfl (fun z7 hz7 => ?_)
          refine ev_iload_n hX dX3_whyNoMove_65 rfl ?_
          refine ev_callNi hX (As := [.inl z7.1, .inl a2]) (rm := rm_X4_has) (c_X4_has l D cI cC td z7.1 a2 z7.2) ⟨va_cnB (host := "FiveShogi") 2 hX.ts gX3_whyNoMove_X4_has_n76 rfl rfl rfl (hX.sta.2.1 (_, 76, _, _) (List.mem_of_getElem? (i := 12) rfl)) (hX.ts _ (show Cond.initialized RX4 ∈ _ by decide +kernel)) (by decide +kernel) ⟨Nat.le_of_ble_eq_true rfl, Nat.le_of_ble_eq_true rfl⟩, hX.ts _ (show Cond.static yX4_has ∈ _ by decide +kernel), trivial⟩ rfl rfl rfl ⟨Nat.le_of_ble_eq_true rfl, Nat.le_of_ble_eq_true rfl⟩ dX3_whyNoMove_66 rfl (fun z8 hz8 => ?_)
          refine ev_if_ne (tgt := 74) hX dX3_whyNoMove_69 (by decide) ?_ ?_
          · refine ev_mask [true, true, true, true, false] (L' := [some (.inr (.inl 4)), some (.inl a1), some (.inl a2), some (.inl a3), none]) rfl rfl ?_
            exact e_X3_whyNoMove_74 hX hr a1 a2 a3 z8.2
          · refine ev_iconst hX dX3_whyNoMove_72 (v := 4) (by decide +kernel) ?_
            exact ev_ireti hX hr dX3_whyNoMove_73
      · refine ev_iconst hX dX3_whyNoMove_54 (v := 3) (by decide +kernel) ?_
        exact ev_ireti hX hr dX3_whyNoMove_55
    · refine ev_iconst hX dX3_whyNoMove_42 (v := 2) (by decide +kernel) ?_
      exact ev_ireti hX hr dX3_whyNoMove_43
  · refine ev_iconst hX dX3_whyNoMove_25 (v := 1) (by decide +kernel) ?_
    exact ev_ireti hX hr dX3_whyNoMove_26
def rm_X3_whyNoDrop : Room := { frames := 5, cells := 0, slots := 0, locals := 124 }
set_option maxRecDepth 20000 in
theorem in_X3_whyNoDrop_X3 : ∀ w ∈ u_ws RX3 TX3 6, w ∈ wsX3_whyNoDrop := by decide +kernel
set_option maxHeartbeats 4000000 in
set_option maxRecDepth 100000 in
theorem e_X3_whyNoDrop_74 (hX : mv_X p s m args meth c D vwCl cI cC tbX td A cX3_whyNoDrop 4 RX3 wsX3_whyNoDrop) (hr : meth.sig.returnType = (some .int)) (x1 : Int32) (x2 : Int32) (w : mvW) : EV p l e (headSpec wsX3_whyNoDrop rm_X3_whyNoDrop).room s m args below meth c D vwCl cI cC td A (fun a => a = ad0) (mv_Qi below args s D vwCl cI cC shX ad0 A) 0 0 shX [some (.inr (.inl 4)), some (.inl x1), some (.inl x2), none] [] 74 w (f_X3_whyNoDrop_74 x1 x2 w) := by
  rw [f_X3_whyNoDrop_74]
  refine ev_aload_n hX dX3_whyNoDrop_74 rfl ?_
  refine ev_callVi hX (k0 := 4) (As := []) (rm := rm_X3_safeDrops) (c_X3_safeDrops l D cI cC td w) (cwV 0 hX.ts gX3_whyNoDrop_X3_safeDrops rfl rfl rfl (by decide +kernel) ⟨Nat.le_of_ble_eq_true rfl, Nat.le_of_ble_eq_true rfl⟩) rfl rfl rfl rfl rfl rfl ⟨Nat.le_of_ble_eq_true rfl, Nat.le_of_ble_eq_true rfl⟩ dX3_whyNoDrop_75 rfl (fun z8 hz8 => ?_)
  refine ev_iload_n hX dX3_whyNoDrop_78 rfl ?_
  refine ev_callNi hX (As := [.inl z8.1, .inl x2]) (rm := rm_X4_has) (c_X4_has l D cI cC td z8.1 x2 z8.2) ⟨va_cnB (host := "FiveShogi") 2 hX.ts gX3_whyNoDrop_X4_has_n76 rfl rfl rfl (hX.sta.2.1 (_, 76, _, _) (List.mem_of_getElem? (i := 12) rfl)) (hX.ts _ (show Cond.initialized RX4 ∈ _ by decide +kernel)) (by decide +kernel) ⟨Nat.le_of_ble_eq_true rfl, Nat.le_of_ble_eq_true rfl⟩, hX.ts _ (show Cond.static yX4_has ∈ _ by decide +kernel), trivial⟩ rfl rfl rfl ⟨Nat.le_of_ble_eq_true rfl, Nat.le_of_ble_eq_true rfl⟩ dX3_whyNoDrop_79 rfl (fun z9 hz9 => ?_)
  refine ev_if_ne (tgt := 87) hX dX3_whyNoDrop_82 (by decide) ?_ ?_
  · refine ev_iload_n hX dX3_whyNoDrop_87 rfl ?_
    refine ev_iconst hX dX3_whyNoDrop_88 (v := 5) (by decide +kernel) ?_
    refine ev_icmp_ne (tgt := 108) hX dX3_whyNoDrop_89 (by decide) ?_ ?_
    · refine ev_iconst hX dX3_whyNoDrop_108 (v := 0) (by decide +kernel) ?_
      exact ev_ireti hX hr dX3_whyNoDrop_109
    · refine ev_aload_n hX dX3_whyNoDrop_92 rfl ?_
      refine ev_iload_n hX dX3_whyNoDrop_93 rfl ?_
      refine ev_callNi hX (As := [.inl x2]) (rm := rm_X4_bit) (c_X4_bit l D cI cC td x2 z9.2) ⟨va_cnB (host := "FiveShogi") 1 hX.ts gX3_whyNoDrop_X4_bit_n104 rfl rfl rfl (hX.sta.2.1 (_, 104, _, _) (List.mem_of_getElem? (i := 14) rfl)) (hX.ts _ (show Cond.initialized RX4 ∈ _ by decide +kernel)) (by decide +kernel) ⟨Nat.le_of_ble_eq_true rfl, Nat.le_of_ble_eq_true rfl⟩, hX.ts _ (show Cond.static yX4_bit ∈ _ by decide +kernel), trivial⟩ rfl rfl rfl ⟨Nat.le_of_ble_eq_true rfl, Nat.le_of_ble_eq_true rfl⟩ dX3_whyNoDrop_94 rfl (fun z10 hz10 => ?_)
      refine ev_callVi hX (k0 := 4) (As := [.inl z10.1]) (rm := rm_X3_withoutMates) (c_X3_withoutMates l D cI cC td z10.1 z10.2) (cwV 1 hX.ts gX3_whyNoDrop_X3_withoutMates rfl rfl rfl (by decide +kernel) ⟨Nat.le_of_ble_eq_true rfl, Nat.le_of_ble_eq_true rfl⟩) rfl rfl rfl rfl rfl rfl ⟨Nat.le_of_ble_eq_true rfl, Nat.le_of_ble_eq_true rfl⟩ dX3_whyNoDrop_97 rfl (fun z11 hz11 => ?_)
      refine ev_if_ne (tgt := 108) hX dX3_whyNoDrop_100 (by decide) ?_ ?_
      · refine ev_iconst hX dX3_whyNoDrop_108 (v := 0) (by decide +kernel) ?_
        exact ev_ireti hX hr dX3_whyNoDrop_109
      · refine ev_bipush hX dX3_whyNoDrop_103 (v := 6) (by decide +kernel) ?_
        refine ev_goto (tgt := 109) hX dX3_whyNoDrop_105 (by decide) ?_
        exact ev_ireti hX hr dX3_whyNoDrop_109
  · refine ev_iconst hX dX3_whyNoDrop_85 (v := 5) (by decide +kernel) ?_
    exact ev_ireti hX hr dX3_whyNoDrop_86
set_option maxHeartbeats 4000000 in
set_option maxRecDepth 100000 in
theorem e_X3_whyNoDrop_55 (hX : mv_X p s m args meth c D vwCl cI cC tbX td A cX3_whyNoDrop 4 RX3 wsX3_whyNoDrop) (hr : meth.sig.returnType = (some .int)) (x1 : Int32) (x2 : Int32) (x3 : Int32) (w : mvW) : EV p l e (headSpec wsX3_whyNoDrop rm_X3_whyNoDrop).room s m args below meth c D vwCl cI cC td A (fun a => a = ad0) (mv_Qi below args s D vwCl cI cC shX ad0 A) 0 0 shX [some (.inr (.inl 4)), some (.inl x1), some (.inl x2), some (.inl x3)] [] 55 w (f_X3_whyNoDrop_55 x1 x2 x3 w) := by
  rw [f_X3_whyNoDrop_55]
  refine ev_iload_n hX dX3_whyNoDrop_55 rfl ?_
  refine ev_iconst hX dX3_whyNoDrop_56 (v := 5) (by decide +kernel) ?_
  refine ev_icmp_ne (tgt := 74) hX dX3_whyNoDrop_57 (by decide) ?_ ?_
  · refine ev_mask [true, true, true, false] (L' := [some (.inr (.inl 4)), some (.inl x1), some (.inl x2), none]) rfl rfl ?_
    exact e_X3_whyNoDrop_74 hX hr x1 x2 w
  · refine ev_aload_n hX dX3_whyNoDrop_60 rfl ?_
    refine ev_iload_n hX dX3_whyNoDrop_61 rfl ?_
    refine ev_callVi hX (k0 := 4) (As := [.inl x3]) (rm := rm_X3_pawnColumns) (c_X3_pawnColumns l D cI cC td x3 w) (cwV 1 hX.ts gX3_whyNoDrop_X3_pawnColumns rfl rfl rfl (by decide +kernel) ⟨Nat.le_of_ble_eq_true rfl, Nat.le_of_ble_eq_true rfl⟩) rfl rfl rfl rfl rfl rfl ⟨Nat.le_of_ble_eq_true rfl, Nat.le_of_ble_eq_true rfl⟩ dX3_whyNoDrop_62 rfl (fun z6 hz6 => ?_)
    refine ev_iload_n hX dX3_whyNoDrop_65 rfl ?_
    refine ev_callNi hX (As := [.inl z6.1, .inl x2]) (rm := rm_X4_has) (c_X4_has l D cI cC td z6.1 x2 z6.2) ⟨va_cnB (host := "FiveShogi") 2 hX.ts gX3_whyNoDrop_X4_has_n76 rfl rfl rfl (hX.sta.2.1 (_, 76, _, _) (List.mem_of_getElem? (i := 12) rfl)) (hX.ts _ (show Cond.initialized RX4 ∈ _ by decide +kernel)) (by decide +kernel) ⟨Nat.le_of_ble_eq_true rfl, Nat.le_of_ble_eq_true rfl⟩, hX.ts _ (show Cond.static yX4_has ∈ _ by decide +kernel), trivial⟩ rfl rfl rfl ⟨Nat.le_of_ble_eq_true rfl, Nat.le_of_ble_eq_true rfl⟩ dX3_whyNoDrop_66 rfl (fun z7 hz7 => ?_)
    refine ev_if_eq (tgt := 74) hX dX3_whyNoDrop_69 (by decide) ?_ ?_
    · refine ev_mask [true, true, true, false] (L' := [some (.inr (.inl 4)), some (.inl x1), some (.inl x2), none]) rfl rfl ?_
      exact e_X3_whyNoDrop_74 hX hr x1 x2 z7.2
    · refine ev_iconst hX dX3_whyNoDrop_72 (v := 4) (by decide +kernel) ?_
      exact ev_ireti hX hr dX3_whyNoDrop_73
set_option maxHeartbeats 4000000 in
set_option maxRecDepth 100000 in
theorem c_X3_whyNoDrop (l : Launch) (D : va_G) (cI cC : ClassId) (td : Nat → Option Nat) (a1 : Int32) (a2 : Int32) (w : mvW) : ∀ z, f_X3_whyNoDrop a1 a2 w = some z → mv_Ci l D vwCl cI cC tbX td yX3_whyNoDrop wsX3_whyNoDrop rm_X3_whyNoDrop shX w [.inr (.inl 4), .inl a1, .inl a2] z := by
  refine mv_starti (own := RX3) rfl (by decide) rfl rfl (L0 := [some (.inr (.inl 4)), some (.inl a1), some (.inl a2), none]) rfl (fun p e s m args below meth c A ad0 hX hr => ?_)
  rw [f_X3_whyNoDrop]
  refine ev_aload_n hX dX3_whyNoDrop_0 rfl ?_
  refine ev_getr (k := 0) hX (T := TX3) in_X3_whyNoDrop_X3 rfl rfl rfl (show Cond.fieldLink RX3 28 "FiveShogi$Rules" "position" "LFiveShogi$Position;" ∈ _ by decide +kernel) rfl dX3_whyNoDrop_1 ?_
  refine ev_callVi hX (k0 := 1) (As := []) (rm := rm_X2_sideToPlay) (c_X2_sideToPlay l D cI cC td w) (cwV 0 hX.ts gX3_whyNoDrop_X2_sideToPlay rfl rfl rfl (by decide +kernel) ⟨Nat.le_of_ble_eq_true rfl, Nat.le_of_ble_eq_true rfl⟩) rfl rfl rfl rfl rfl rfl ⟨Nat.le_of_ble_eq_true rfl, Nat.le_of_ble_eq_true rfl⟩ dX3_whyNoDrop_4 rfl (fun z1 hz1 => ?_)
  refine ev_istore_n hX dX3_whyNoDrop_7 rfl (L' := [some (.inr (.inl 4)), some (.inl a1), some (.inl a2), some (.inl z1.1)]) rfl ?_
  refine ev_aload_n hX dX3_whyNoDrop_8 rfl ?_
  refine ev_getr (k := 0) hX (T := TX3) in_X3_whyNoDrop_X3 rfl rfl rfl (show Cond.fieldLink RX3 28 "FiveShogi$Rules" "position" "LFiveShogi$Position;" ∈ _ by decide +kernel) rfl dX3_whyNoDrop_9 ?_
  refine ev_iload_n hX dX3_whyNoDrop_12 rfl ?_
  refine ev_iload_n hX dX3_whyNoDrop_13 rfl ?_
  refine ev_callVi hX (k0 := 1) (As := [.inl z1.1, .inl a1]) (rm := rm_X2_inHand) (c_X2_inHand l D cI cC td z1.1 a1 z1.2) (cwV 2 hX.ts gX3_whyNoDrop_X2_inHand rfl rfl rfl (by decide +kernel) ⟨Nat.le_of_ble_eq_true rfl, Nat.le_of_ble_eq_true rfl⟩) rfl rfl rfl rfl rfl rfl ⟨Nat.le_of_ble_eq_true rfl, Nat.le_of_ble_eq_true rfl⟩ dX3_whyNoDrop_14 rfl (fun z2 hz2 => ?_)
  refine ev_if_ne (tgt := 22) hX dX3_whyNoDrop_17 (by decide) ?_ ?_
  · refine ev_aload_n hX dX3_whyNoDrop_22 rfl ?_
    refine ev_getr (k := 0) hX (T := TX3) in_X3_whyNoDrop_X3 rfl rfl rfl (show Cond.fieldLink RX3 28 "FiveShogi$Rules" "position" "LFiveShogi$Position;" ∈ _ by decide +kernel) rfl dX3_whyNoDrop_23 ?_
    refine ev_iload_n hX dX3_whyNoDrop_26 rfl ?_
    refine ev_callVi hX (k0 := 1) (As := [.inl a2]) (rm := rm_X2_manOn) (c_X2_manOn l D cI cC td a2 z2.2) (cwV 1 hX.ts gX3_whyNoDrop_X2_manOn rfl rfl rfl (by decide +kernel) ⟨Nat.le_of_ble_eq_true rfl, Nat.le_of_ble_eq_true rfl⟩) rfl rfl rfl rfl rfl rfl ⟨Nat.le_of_ble_eq_true rfl, Nat.le_of_ble_eq_true rfl⟩ dX3_whyNoDrop_27 rfl (fun z3 hz3 => ?_)
    refine ev_bipush hX dX3_whyNoDrop_30 (v := 99) (by decide +kernel) ?_
    refine ev_icmp_eq (tgt := 37) hX dX3_whyNoDrop_32 (by decide) ?_ ?_
    · refine ev_iload_n hX dX3_whyNoDrop_37 rfl ?_
      refine ev_iconst hX dX3_whyNoDrop_38 (v := 5) (by decide +kernel) ?_
      refine ev_icmp_ne (tgt := 55) hX dX3_whyNoDrop_39 (by decide) ?_ ?_
      · refine ev_mask [true, true, true, true] (L' := [some (.inr (.inl 4)), some (.inl a1), some (.inl a2), some (.inl z1.1)]) rfl rfl ?_
        exact e_X3_whyNoDrop_55 hX hr a1 a2 z1.1 z3.2
      · refine ev_iload_n hX dX3_whyNoDrop_42 rfl ?_
        refine ev_callNi hX (As := [.inl z1.1]) (rm := rm_X4_lastRow) (c_X4_lastRow l D cI cC td z1.1 z3.2) ⟨va_cnB (host := "FiveShogi") 1 hX.ts gX3_whyNoDrop_X4_lastRow_n95 rfl rfl rfl (hX.sta.2.1 (_, 95, _, _) (List.mem_of_getElem? (i := 11) rfl)) (hX.ts _ (show Cond.initialized RX4 ∈ _ by decide +kernel)) (by decide +kernel) ⟨Nat.le_of_ble_eq_true rfl, Nat.le_of_ble_eq_true rfl⟩, hX.ts _ (show Cond.static yX4_lastRow ∈ _ by decide +kernel), trivial⟩ rfl rfl rfl ⟨Nat.le_of_ble_eq_true rfl, Nat.le_of_ble_eq_true rfl⟩ dX3_whyNoDrop_43 rfl (fun z4 hz4 => ?_)
        refine ev_iload_n hX dX3_whyNoDrop_46 rfl ?_
        refine ev_callNi hX (As := [.inl z4.1, .inl a2]) (rm := rm_X4_has) (c_X4_has l D cI cC td z4.1 a2 z4.2) ⟨va_cnB (host := "FiveShogi") 2 hX.ts gX3_whyNoDrop_X4_has_n76 rfl rfl rfl (hX.sta.2.1 (_, 76, _, _) (List.mem_of_getElem? (i := 12) rfl)) (hX.ts _ (show Cond.initialized RX4 ∈ _ by decide +kernel)) (by decide +kernel) ⟨Nat.le_of_ble_eq_true rfl, Nat.le_of_ble_eq_true rfl⟩, hX.ts _ (show Cond.static yX4_has ∈ _ by decide +kernel), trivial⟩ rfl rfl rfl ⟨Nat.le_of_ble_eq_true rfl, Nat.le_of_ble_eq_true rfl⟩ dX3_whyNoDrop_47 rfl (fun z5 hz5 => ?_)
        refine ev_if_eq (tgt := 55) hX dX3_whyNoDrop_50 (by decide) ?_ ?_
        · refine ev_mask [true, true, true, true] (L' := [some (.inr (.inl 4)), some (.inl a1), some (.inl a2), some (.inl z1.1)]) rfl rfl ?_
          exact e_X3_whyNoDrop_55 hX hr a1 a2 z1.1 z5.2
        · refine ev_iconst hX dX3_whyNoDrop_53 (v := 3) (by decide +kernel) ?_
          exact ev_ireti hX hr dX3_whyNoDrop_54
    · refine ev_iconst hX dX3_whyNoDrop_35 (v := 2) (by decide +kernel) ?_
      exact ev_ireti hX hr dX3_whyNoDrop_36
  · refine ev_iconst hX dX3_whyNoDrop_20 (v := 1) (by decide +kernel) ?_
    exact ev_ireti hX hr dX3_whyNoDrop_21
def rm_X3_allows : Room := { frames := 6, cells := 0, slots := 0, locals := 147 }
set_option maxHeartbeats 4000000 in
set_option maxRecDepth 100000 in
theorem c_X3_allows (l : Launch) (D : va_G) (cI cC : ClassId) (td : Nat → Option Nat) (a1 : Int32) (w : mvW) : ∀ z, f_X3_allows a1 w = some z → mv_Ci l D vwCl cI cC tbX td yX3_allows wsX3_allows rm_X3_allows shX w [.inr (.inl 4), .inl a1] z := by
  refine mv_starti (own := RX3) rfl (by decide) rfl rfl (L0 := [some (.inr (.inl 4)), some (.inl a1), none, none]) rfl (fun p e s m args below meth c A ad0 hX hr => ?_)
  rw [f_X3_allows]
  refine ev_iload_n hX dX3_allows_0 rfl ?_
  refine ev_bipush hX dX3_allows_1 (v := 100) (by decide +kernel) ?_
  refine ev_irem hX dX3_allows_3 (by decide) ?_
  refine ev_istore_n hX dX3_allows_4 rfl (L' := [some (.inr (.inl 4)), some (.inl a1), some (.inl (a1 - a1 / 100 * 100)), none]) rfl ?_
  refine ev_iload_n hX dX3_allows_5 rfl ?_
  refine ev_if_lt (tgt := 16) hX dX3_allows_6 (by decide) ?_ ?_
  · refine ev_iconst hX dX3_allows_16 (v := 0) (by decide +kernel) ?_
    exact ev_iretz0 hX hr dX3_allows_17
  · refine ev_iload_n hX dX3_allows_9 rfl ?_
    refine ev_callNi hX (As := [.inl (a1 - a1 / 100 * 100)]) (rm := rm_X4_isSquare) (c_X4_isSquare l D cI cC td (a1 - a1 / 100 * 100) w) ⟨va_cnB (host := "FiveShogi") 1 hX.ts gX3_allows_X4_isSquare_n53 rfl rfl rfl (hX.sta.2.1 (_, 53, _, _) (List.mem_of_getElem? (i := 7) rfl)) (hX.ts _ (show Cond.initialized RX4 ∈ _ by decide +kernel)) (by decide +kernel) ⟨Nat.le_of_ble_eq_true rfl, Nat.le_of_ble_eq_true rfl⟩, hX.ts _ (show Cond.static yX4_isSquare ∈ _ by decide +kernel), trivial⟩ rfl rfl rfl ⟨Nat.le_of_ble_eq_true rfl, Nat.le_of_ble_eq_true rfl⟩ dX3_allows_10 rfl (fun z1 hz1 => ?_)
    refine ev_if_ne (tgt := 18) hX dX3_allows_13 (by decide) ?_ ?_
    · refine ev_iload_n hX dX3_allows_18 rfl ?_
      refine ev_sipush hX dX3_allows_19 (v := 20000) (by decide +kernel) ?_
      refine ev_icmp_lt (tgt := 56) hX dX3_allows_22 (by decide) ?_ ?_
      · refine ev_iload_n hX dX3_allows_56 rfl ?_
        refine ev_sipush hX dX3_allows_57 (v := 10000) (by decide +kernel) ?_
        refine ev_irem hX dX3_allows_60 (by decide) ?_
        refine ev_bipush hX dX3_allows_61 (v := 100) (by decide +kernel) ?_
        refine ev_idiv hX dX3_allows_63 (by decide) ?_
        refine ev_istore_n hX dX3_allows_64 rfl (L' := [some (.inr (.inl 4)), some (.inl a1), some (.inl (a1 - a1 / 100 * 100)), some (.inl ((a1 - a1 / 10000 * 10000) / 100))]) rfl ?_
        refine ev_iload_n hX dX3_allows_65 rfl ?_
        refine ev_callNi hX (As := [.inl ((a1 - a1 / 10000 * 10000) / 100)]) (rm := rm_X4_isSquare) (c_X4_isSquare l D cI cC td ((a1 - a1 / 10000 * 10000) / 100) z1.2) ⟨va_cnB (host := "FiveShogi") 1 hX.ts gX3_allows_X4_isSquare_n53 rfl rfl rfl (hX.sta.2.1 (_, 53, _, _) (List.mem_of_getElem? (i := 7) rfl)) (hX.ts _ (show Cond.initialized RX4 ∈ _ by decide +kernel)) (by decide +kernel) ⟨Nat.le_of_ble_eq_true rfl, Nat.le_of_ble_eq_true rfl⟩, hX.ts _ (show Cond.static yX4_isSquare ∈ _ by decide +kernel), trivial⟩ rfl rfl rfl ⟨Nat.le_of_ble_eq_true rfl, Nat.le_of_ble_eq_true rfl⟩ dX3_allows_66 rfl (fun z2 hz2 => ?_)
        refine ev_if_eq (tgt := 97) hX dX3_allows_69 (by decide) ?_ ?_
        · refine ev_iconst hX dX3_allows_97 (v := 0) (by decide +kernel) ?_
          exact ev_iretz0 hX hr dX3_allows_98
        · refine ev_aload_n hX dX3_allows_72 rfl ?_
          refine ev_iload_n hX dX3_allows_73 rfl ?_
          refine ev_iload_n hX dX3_allows_74 rfl ?_
          refine ev_iload_n hX dX3_allows_75 rfl ?_
          refine ev_sipush hX dX3_allows_76 (v := 10000) (by decide +kernel) ?_
          refine ev_icmp_lt (tgt := 86) hX dX3_allows_79 (by decide) ?_ ?_
          · refine ev_iconst hX dX3_allows_86 (v := 0) (by decide +kernel) ?_
            refine ev_callVi hX (k0 := 4) (As := [.inl ((a1 - a1 / 10000 * 10000) / 100), .inl (a1 - a1 / 100 * 100), .inl 0]) (rm := rm_X3_whyNoMove) (c_X3_whyNoMove l D cI cC td ((a1 - a1 / 10000 * 10000) / 100) (a1 - a1 / 100 * 100) 0 z2.2) (cwV 3 hX.ts gX3_allows_X3_whyNoMove rfl rfl rfl (by decide +kernel) ⟨Nat.le_of_ble_eq_true rfl, Nat.le_of_ble_eq_true rfl⟩) rfl rfl rfl rfl rfl rfl ⟨Nat.le_of_ble_eq_true rfl, Nat.le_of_ble_eq_true rfl⟩ dX3_allows_87 rfl (fun z3 hz3 => ?_)
            refine ev_if_ne (tgt := 97) hX dX3_allows_90 (by decide) ?_ ?_
            · refine ev_iconst hX dX3_allows_97 (v := 0) (by decide +kernel) ?_
              exact ev_iretz0 hX hr dX3_allows_98
            · refine ev_iconst hX dX3_allows_93 (v := 1) (by decide +kernel) ?_
              refine ev_goto (tgt := 98) hX dX3_allows_94 (by decide) ?_
              exact ev_iretz1 hX hr dX3_allows_98
          · refine ev_iconst hX dX3_allows_82 (v := 1) (by decide +kernel) ?_
            refine ev_goto (tgt := 87) hX dX3_allows_83 (by decide) ?_
            refine ev_callVi hX (k0 := 4) (As := [.inl ((a1 - a1 / 10000 * 10000) / 100), .inl (a1 - a1 / 100 * 100), .inl 1]) (rm := rm_X3_whyNoMove) (c_X3_whyNoMove l D cI cC td ((a1 - a1 / 10000 * 10000) / 100) (a1 - a1 / 100 * 100) 1 z2.2) (cwV 3 hX.ts gX3_allows_X3_whyNoMove rfl rfl rfl (by decide +kernel) ⟨Nat.le_of_ble_eq_true rfl, Nat.le_of_ble_eq_true rfl⟩) rfl rfl rfl rfl rfl rfl ⟨Nat.le_of_ble_eq_true rfl, Nat.le_of_ble_eq_true rfl⟩ dX3_allows_87 rfl (fun z4 hz4 => ?_)
            refine ev_if_ne (tgt := 97) hX dX3_allows_90 (by decide) ?_ ?_
            · refine ev_iconst hX dX3_allows_97 (v := 0) (by decide +kernel) ?_
              exact ev_iretz0 hX hr dX3_allows_98
            · refine ev_iconst hX dX3_allows_93 (v := 1) (by decide +kernel) ?_
              refine ev_goto (tgt := 98) hX dX3_allows_94 (by decide) ?_
              exact ev_iretz1 hX hr dX3_allows_98
      · refine ev_iload_n hX dX3_allows_25 rfl ?_
        refine ev_sipush hX dX3_allows_26 (v := 20000) (by decide +kernel) ?_
        refine ev_isub hX dX3_allows_29 ?_
        refine ev_bipush hX dX3_allows_30 (v := 100) (by decide +kernel) ?_
        refine ev_idiv hX dX3_allows_32 (by decide) ?_
        refine ev_istore_n hX dX3_allows_33 rfl (L' := [some (.inr (.inl 4)), some (.inl a1), some (.inl (a1 - a1 / 100 * 100)), some (.inl ((a1 - 20000) / 100))]) rfl ?_
        refine ev_iload_n hX dX3_allows_34 rfl ?_
        refine ev_callNi hX (As := [.inl ((a1 - 20000) / 100)]) (rm := rm_X4_isHandKind) (c_X4_isHandKind l D cI cC td ((a1 - 20000) / 100) z1.2) ⟨va_cnB (host := "FiveShogi") 1 hX.ts gX3_allows_X4_isHandKind_n57 rfl rfl rfl (hX.sta.2.1 (_, 57, _, _) (List.mem_of_getElem? (i := 8) rfl)) (hX.ts _ (show Cond.initialized RX4 ∈ _ by decide +kernel)) (by decide +kernel) ⟨Nat.le_of_ble_eq_true rfl, Nat.le_of_ble_eq_true rfl⟩, hX.ts _ (show Cond.static yX4_isHandKind ∈ _ by decide +kernel), trivial⟩ rfl rfl rfl ⟨Nat.le_of_ble_eq_true rfl, Nat.le_of_ble_eq_true rfl⟩ dX3_allows_35 rfl (fun z5 hz5 => ?_)
        refine ev_if_eq (tgt := 54) hX dX3_allows_38 (by decide) ?_ ?_
        · refine ev_iconst hX dX3_allows_54 (v := 0) (by decide +kernel) ?_
          exact ev_iretz0 hX hr dX3_allows_55
        · refine ev_aload_n hX dX3_allows_41 rfl ?_
          refine ev_iload_n hX dX3_allows_42 rfl ?_
          refine ev_iload_n hX dX3_allows_43 rfl ?_
          refine ev_callVi hX (k0 := 4) (As := [.inl ((a1 - 20000) / 100), .inl (a1 - a1 / 100 * 100)]) (rm := rm_X3_whyNoDrop) (c_X3_whyNoDrop l D cI cC td ((a1 - 20000) / 100) (a1 - a1 / 100 * 100) z5.2) (cwV 2 hX.ts gX3_allows_X3_whyNoDrop rfl rfl rfl (by decide +kernel) ⟨Nat.le_of_ble_eq_true rfl, Nat.le_of_ble_eq_true rfl⟩) rfl rfl rfl rfl rfl rfl ⟨Nat.le_of_ble_eq_true rfl, Nat.le_of_ble_eq_true rfl⟩ dX3_allows_44 rfl (fun z6 hz6 => ?_)
          refine ev_if_ne (tgt := 54) hX dX3_allows_47 (by decide) ?_ ?_
          · refine ev_iconst hX dX3_allows_54 (v := 0) (by decide +kernel) ?_
            exact ev_iretz0 hX hr dX3_allows_55
          · refine ev_iconst hX dX3_allows_50 (v := 1) (by decide +kernel) ?_
            refine ev_goto (tgt := 55) hX dX3_allows_51 (by decide) ?_
            exact ev_iretz1 hX hr dX3_allows_55
    · refine ev_iconst hX dX3_allows_16 (v := 0) (by decide +kernel) ?_
      exact ev_iretz0 hX hr dX3_allows_17
def rm_X2_play : Room := { frames := 4, cells := 0, slots := 0, locals := 94 }
set_option maxRecDepth 20000 in
theorem in_X2_play_X2 : ∀ w ∈ u_ws RX2 TX2 2, w ∈ wsX2_play := by decide +kernel
set_option maxHeartbeats 4000000 in
set_option maxRecDepth 100000 in
theorem e_X2_play_34 (hX : mv_X p s m args meth c D vwCl cI cC tbX td A cX2_play 3 RX2 wsX2_play) (hr : meth.sig.returnType = (some .int)) (x1 : Int32) (x2 : Int32) (w : mvW) : EV p l e (headSpec wsX2_play rm_X2_play).room s m args below meth c D vwCl cI cC td A (fun a => a = ad0) (mv_Qi below args s D vwCl cI cC shX ad0 A) 0 0 shX [some (.inr (.inl 1)), some (.inl x1), some (.inl x2)] [] 34 w (f_X2_play_34 x1 x2 w) := by
  rw [f_X2_play_34]
  refine ev_iload_n hX dX2_play_34 rfl ?_
  refine ev_sipush hX dX2_play_35 (v := 20000) (by decide +kernel) ?_
  refine ev_icmp_lt (tgt := 55) hX dX2_play_38 (by decide) ?_ ?_
  · refine ev_iload_n hX dX2_play_55 rfl ?_
    refine ev_sipush hX dX2_play_56 (v := 10000) (by decide +kernel) ?_
    refine ev_icmp_lt (tgt := 73) hX dX2_play_59 (by decide) ?_ ?_
    · refine ev_iload_n hX dX2_play_73 rfl ?_
      exact ev_ireti hX hr dX2_play_74
    · refine ev_aload_n hX dX2_play_62 rfl ?_
      refine ev_getr (k := 0) hX (T := TX2) in_X2_play_X2 rfl rfl rfl (show Cond.fieldLink RX2 11 "FiveShogi$Position" "state" "[I" ∈ _ by decide +kernel) rfl dX2_play_63 ?_
      refine ev_bipush hX dX2_play_66 (v := 42) (by decide +kernel) ?_
      refine ev_dup2 hX dX2_play_68 ?_
      refine ev_ialdc (j := 42) hX rfl (by decide +kernel) dX2_play_69 ?_
      refine ev_iconst hX dX2_play_70 (v := 1) (by decide +kernel) ?_
      refine ev_iadd hX dX2_play_71 ?_
      refine ev_iastc (j := 42) hX rfl (by decide +kernel) dX2_play_72 ?_
      refine ev_iload_n hX dX2_play_73 rfl ?_
      exact ev_ireti hX hr dX2_play_74
  · refine ev_aload_n hX dX2_play_41 rfl ?_
    refine ev_getr (k := 0) hX (T := TX2) in_X2_play_X2 rfl rfl rfl (show Cond.fieldLink RX2 11 "FiveShogi$Position" "state" "[I" ∈ _ by decide +kernel) rfl dX2_play_42 ?_
    refine ev_bipush hX dX2_play_45 (v := 43) (by decide +kernel) ?_
    refine ev_dup2 hX dX2_play_47 ?_
    refine ev_ialdc (j := 43) hX rfl (by decide +kernel) dX2_play_48 ?_
    refine ev_iconst hX dX2_play_49 (v := 1) (by decide +kernel) ?_
    refine ev_iadd hX dX2_play_50 ?_
    refine ev_iastc (j := 43) hX rfl (by decide +kernel) dX2_play_51 ?_
    refine ev_goto (tgt := 73) hX dX2_play_52 (by decide) ?_
    refine ev_iload_n hX dX2_play_73 rfl ?_
    exact ev_ireti hX hr dX2_play_74
set_option maxHeartbeats 4000000 in
set_option maxRecDepth 100000 in
theorem c_X2_play (l : Launch) (D : va_G) (cI cC : ClassId) (td : Nat → Option Nat) (a1 : Int32) (w : mvW) : ∀ z, f_X2_play a1 w = some z → mv_Ci l D vwCl cI cC tbX td yX2_play wsX2_play rm_X2_play shX w [.inr (.inl 1), .inl a1] z := by
  refine mv_starti (own := RX2) rfl (by decide) rfl rfl (L0 := [some (.inr (.inl 1)), some (.inl a1), none]) rfl (fun p e s m args below meth c A ad0 hX hr => ?_)
  rw [f_X2_play]
  refine ev_aload_n hX dX2_play_0 rfl ?_
  refine ev_iload_n hX dX2_play_1 rfl ?_
  refine ev_callVi hX (k0 := 1) (As := [.inl a1]) (rm := rm_X2_apply) (c_X2_apply l D cI cC td a1 w) (cwV 1 hX.ts gX2_play_X2_apply rfl rfl rfl (by decide +kernel) ⟨Nat.le_of_ble_eq_true rfl, Nat.le_of_ble_eq_true rfl⟩) rfl rfl rfl rfl rfl rfl ⟨Nat.le_of_ble_eq_true rfl, Nat.le_of_ble_eq_true rfl⟩ dX2_play_2 rfl (fun z1 hz1 => ?_)
  refine ev_istore_n hX dX2_play_5 rfl (L' := [some (.inr (.inl 1)), some (.inl a1), some (.inl z1.1)]) rfl ?_
  refine ev_aload_n hX dX2_play_6 rfl ?_
  refine ev_getr (k := 0) hX (T := TX2) in_X2_play_X2 rfl rfl rfl (show Cond.fieldLink RX2 11 "FiveShogi$Position" "state" "[I" ∈ _ by decide +kernel) rfl dX2_play_7 ?_
  refine ev_bipush hX dX2_play_10 (v := 40) (by decide +kernel) ?_
  refine ev_dup2 hX dX2_play_12 ?_
  refine ev_ialdc (j := 40) hX rfl (by decide +kernel) dX2_play_13 ?_
  refine ev_iconst hX dX2_play_14 (v := 1) (by decide +kernel) ?_
  refine ev_iadd hX dX2_play_15 ?_
  refine ev_iastc (j := 40) hX rfl (by decide +kernel) dX2_play_16 ?_
  refine ev_iload_n hX dX2_play_17 rfl ?_
  refine ev_bipush hX dX2_play_18 (v := 99) (by decide +kernel) ?_
  refine ev_icmp_eq (tgt := 34) hX dX2_play_20 (by decide) ?_ ?_
  · refine ev_mask [true, true, true] (L' := [some (.inr (.inl 1)), some (.inl a1), some (.inl z1.1)]) rfl rfl ?_
    exact e_X2_play_34 hX hr a1 z1.1 (mv_up z1.2 2 40 ((z1.2 2 40) + 1))
  · refine ev_aload_n hX dX2_play_23 rfl ?_
    refine ev_getr (k := 0) hX (T := TX2) in_X2_play_X2 rfl rfl rfl (show Cond.fieldLink RX2 11 "FiveShogi$Position" "state" "[I" ∈ _ by decide +kernel) rfl dX2_play_24 ?_
    refine ev_bipush hX dX2_play_27 (v := 41) (by decide +kernel) ?_
    refine ev_dup2 hX dX2_play_29 ?_
    refine ev_ialdc (j := 41) hX rfl (by decide +kernel) dX2_play_30 ?_
    refine ev_iconst hX dX2_play_31 (v := 1) (by decide +kernel) ?_
    refine ev_iadd hX dX2_play_32 ?_
    refine ev_iastc (j := 41) hX rfl (by decide +kernel) dX2_play_33 ?_
    refine ev_mask [true, true, true] (L' := [some (.inr (.inl 1)), some (.inl a1), some (.inl z1.1)]) rfl rfl ?_
    exact e_X2_play_34 hX hr a1 z1.1 (mv_up (mv_up z1.2 2 40 ((z1.2 2 40) + 1)) 2 41 (((mv_up z1.2 2 40 ((z1.2 2 40) + 1)) 2 41) + 1))
def rm_X4_make : Room := { frames := 7, cells := 0, slots := 0, locals := 170 }
set_option maxRecDepth 20000 in
theorem in_X4_make_X4 : ∀ w ∈ u_ws RX4 TX4 7, w ∈ wsX4_make := by decide +kernel
set_option maxHeartbeats 4000000 in
set_option maxRecDepth 100000 in
theorem c_X4_make (l : Launch) (D : va_G) (cI cC : ClassId) (td : Nat → Option Nat) (a1 : Int32) (w : mvW) : ∀ z, f_X4_make a1 w = some z → mv_Ci l D vwCl cI cC tbX td yX4_make wsX4_make rm_X4_make shX w [.inr (.inl 0), .inl a1] z := by
  refine mv_starti (own := RX4) rfl (by decide) rfl rfl (L0 := [some (.inr (.inl 0)), some (.inl a1)]) rfl (fun p e s m args below meth c A ad0 hX hr => ?_)
  rw [f_X4_make]
  refine ev_aload_n hX dX4_make_0 rfl ?_
  refine ev_getr (k := 1) hX (T := TX4) in_X4_make_X4 rfl rfl rfl (show Cond.fieldLink RX4 21 "FiveShogi" "rules" "LFiveShogi$Rules;" ∈ _ by decide +kernel) rfl dX4_make_1 ?_
  refine ev_iload_n hX dX4_make_4 rfl ?_
  refine ev_callVi hX (k0 := 4) (As := [.inl a1]) (rm := rm_X3_allows) (c_X3_allows l D cI cC td a1 w) (cwV 1 hX.ts gX4_make_X3_allows rfl rfl rfl (by decide +kernel) ⟨Nat.le_of_ble_eq_true rfl, Nat.le_of_ble_eq_true rfl⟩) rfl rfl rfl rfl rfl rfl ⟨Nat.le_of_ble_eq_true rfl, Nat.le_of_ble_eq_true rfl⟩ dX4_make_5 rfl (fun z1 hz1 => ?_)
  refine ev_if_ne (tgt := 15) hX dX4_make_8 (by decide) ?_ ?_
  · refine ev_aload_n hX dX4_make_15 rfl ?_
    refine ev_callVv hX (k0 := 0) (As := []) (rm := rm_X4_recordChange) (c_X4_recordChange l D cI cC td z1.2) (cwV 0 hX.ts gX4_make_X4_recordChange rfl rfl rfl (by decide +kernel) ⟨Nat.le_of_ble_eq_true rfl, Nat.le_of_ble_eq_true rfl⟩) rfl rfl rfl rfl rfl rfl ⟨Nat.le_of_ble_eq_true rfl, Nat.le_of_ble_eq_true rfl⟩ dX4_make_16 rfl (fun z2 hz2 => ?_)
    refine ev_aload_n hX dX4_make_19 rfl ?_
    refine ev_getr (k := 0) hX (T := TX4) in_X4_make_X4 rfl rfl rfl (show Cond.fieldLink RX4 12 "FiveShogi" "position" "LFiveShogi$Position;" ∈ _ by decide +kernel) rfl dX4_make_20 ?_
    refine ev_iload_n hX dX4_make_23 rfl ?_
    refine ev_callVi hX (k0 := 1) (As := [.inl a1]) (rm := rm_X2_play) (c_X2_play l D cI cC td a1 z2) (cwV 1 hX.ts gX4_make_X2_play rfl rfl rfl (by decide +kernel) ⟨Nat.le_of_ble_eq_true rfl, Nat.le_of_ble_eq_true rfl⟩) rfl rfl rfl rfl rfl rfl ⟨Nat.le_of_ble_eq_true rfl, Nat.le_of_ble_eq_true rfl⟩ dX4_make_24 rfl (fun z3 hz3 => ?_)
    refine ev_pop hX dX4_make_27 ?_
    refine ev_aload_n hX dX4_make_28 rfl ?_
    refine ev_getr (k := 1) hX (T := TX4) in_X4_make_X4 rfl rfl rfl (show Cond.fieldLink RX4 21 "FiveShogi" "rules" "LFiveShogi$Rules;" ∈ _ by decide +kernel) rfl dX4_make_29 ?_
    refine ev_callVi hX (k0 := 4) (As := []) (rm := rm_X3_isInCheck) (c_X3_isInCheck l D cI cC td z3.2) (cwV 0 hX.ts gX4_make_X3_isInCheck rfl rfl rfl (by decide +kernel) ⟨Nat.le_of_ble_eq_true rfl, Nat.le_of_ble_eq_true rfl⟩) rfl rfl rfl rfl rfl rfl ⟨Nat.le_of_ble_eq_true rfl, Nat.le_of_ble_eq_true rfl⟩ dX4_make_32 rfl (fun z4 hz4 => ?_)
    refine ev_callSi hX (As := [.inl z4.1]) (rm := rm_X4_asNumber) (c_X4_asNumber l D cI cC td z4.1 z4.2) (cwS 1 hX.ts gX4_make_X4_asNumber rfl rfl rfl (by decide +kernel) ⟨Nat.le_of_ble_eq_true rfl, Nat.le_of_ble_eq_true rfl⟩) rfl rfl rfl ⟨Nat.le_of_ble_eq_true rfl, Nat.le_of_ble_eq_true rfl⟩ dX4_make_35 rfl (fun z5 hz5 => ?_)
    exact ev_ireti hX hr dX4_make_38
  · refine ev_sipush hX dX4_make_11 (v := (-1004)) (by decide +kernel) ?_
    exact ev_ireti hX hr dX4_make_14
def rm_X4_attackers : Room := { frames := 1, cells := 0, slots := 0, locals := 30 }
set_option maxRecDepth 20000 in
theorem in_X4_attackers_X4 : ∀ w ∈ u_ws RX4 TX4 7, w ∈ wsX4_attackers := by decide +kernel
set_option maxHeartbeats 4000000 in
set_option maxRecDepth 100000 in
theorem c_X4_attackers (l : Launch) (D : va_G) (cI cC : ClassId) (td : Nat → Option Nat) (a1 : Int32) (a2 : Int32) (w : mvW) : ∀ z, f_X4_attackers a1 a2 w = some z → mv_Ci l D vwCl cI cC tbX td yX4_attackers wsX4_attackers rm_X4_attackers shX w [.inr (.inl 0), .inl a1, .inl a2] z := by
  refine mv_starti (own := RX4) rfl (by decide) rfl rfl (L0 := [some (.inr (.inl 0)), some (.inl a1), some (.inl a2)]) rfl (fun p e s m args below meth c A ad0 hX hr => ?_)
  rw [f_X4_attackers]
  refine ev_iload_n hX dX4_attackers_0 rfl ?_
  refine ev_callSi hX (As := [.inl a1]) (rm := rm_X4_isSide) (c_X4_isSide l D cI cC td a1 w) (cwS 1 hX.ts gX4_attackers_X4_isSide rfl rfl rfl (by decide +kernel) ⟨Nat.le_of_ble_eq_true rfl, Nat.le_of_ble_eq_true rfl⟩) rfl rfl rfl ⟨Nat.le_of_ble_eq_true rfl, Nat.le_of_ble_eq_true rfl⟩ dX4_attackers_1 rfl (fun z1 hz1 => ?_)
  refine ev_if_eq (tgt := 14) hX dX4_attackers_4 (by decide) ?_ ?_
  · refine ev_sipush hX dX4_attackers_14 (v := (-1001)) (by decide +kernel) ?_
    exact ev_ireti hX hr dX4_attackers_17
  · refine ev_iload_n hX dX4_attackers_7 rfl ?_
    refine ev_callSi hX (As := [.inl a2]) (rm := rm_X4_isSquare) (c_X4_isSquare l D cI cC td a2 z1.2) (cwS 1 hX.ts gX4_attackers_X4_isSquare rfl rfl rfl (by decide +kernel) ⟨Nat.le_of_ble_eq_true rfl, Nat.le_of_ble_eq_true rfl⟩) rfl rfl rfl ⟨Nat.le_of_ble_eq_true rfl, Nat.le_of_ble_eq_true rfl⟩ dX4_attackers_8 rfl (fun z2 hz2 => ?_)
    refine ev_if_ne (tgt := 18) hX dX4_attackers_11 (by decide) ?_ ?_
    · refine ev_aload_n hX dX4_attackers_18 rfl ?_
      refine ev_getr (k := 0) hX (T := TX4) in_X4_attackers_X4 rfl rfl rfl (show Cond.fieldLink RX4 12 "FiveShogi" "position" "LFiveShogi$Position;" ∈ _ by decide +kernel) rfl dX4_attackers_19 ?_
      refine ev_iload_n hX dX4_attackers_22 rfl ?_
      refine ev_iload_n hX dX4_attackers_23 rfl ?_
      refine ev_callVi hX (k0 := 1) (As := [.inl a1, .inl a2]) (rm := rm_X2_countAttackers) (c_X2_countAttackers l D cI cC td a1 a2 z2.2) (cwV 2 hX.ts gX4_attackers_X2_countAttackers rfl rfl rfl (by decide +kernel) ⟨Nat.le_of_ble_eq_true rfl, Nat.le_of_ble_eq_true rfl⟩) rfl rfl rfl rfl rfl rfl ⟨Nat.le_of_ble_eq_true rfl, Nat.le_of_ble_eq_true rfl⟩ dX4_attackers_24 rfl (fun z3 hz3 => ?_)
      exact ev_ireti hX hr dX4_attackers_27
    · refine ev_sipush hX dX4_attackers_14 (v := (-1001)) (by decide +kernel) ?_
      exact ev_ireti hX hr dX4_attackers_17
def rm_X4_attacked : Room := { frames := 2, cells := 0, slots := 0, locals := 49 }
set_option maxRecDepth 20000 in
theorem in_X4_attacked_X4 : ∀ w ∈ u_ws RX4 TX4 7, w ∈ wsX4_attacked := by decide +kernel
set_option maxHeartbeats 4000000 in
set_option maxRecDepth 100000 in
theorem c_X4_attacked (l : Launch) (D : va_G) (cI cC : ClassId) (td : Nat → Option Nat) (a1 : Int32) (w : mvW) : ∀ z, f_X4_attacked a1 w = some z → mv_Ci l D vwCl cI cC tbX td yX4_attacked wsX4_attacked rm_X4_attacked shX w [.inr (.inl 0), .inl a1] z := by
  refine mv_starti (own := RX4) rfl (by decide) rfl rfl (L0 := [some (.inr (.inl 0)), some (.inl a1)]) rfl (fun p e s m args below meth c A ad0 hX hr => ?_)
  rw [f_X4_attacked]
  refine ev_iload_n hX dX4_attacked_0 rfl ?_
  refine ev_callSi hX (As := [.inl a1]) (rm := rm_X4_isSquare) (c_X4_isSquare l D cI cC td a1 w) (cwS 1 hX.ts gX4_attacked_X4_isSquare rfl rfl rfl (by decide +kernel) ⟨Nat.le_of_ble_eq_true rfl, Nat.le_of_ble_eq_true rfl⟩) rfl rfl rfl ⟨Nat.le_of_ble_eq_true rfl, Nat.le_of_ble_eq_true rfl⟩ dX4_attacked_1 rfl (fun z1 hz1 => ?_)
  refine ev_if_ne (tgt := 11) hX dX4_attacked_4 (by decide) ?_ ?_
  · refine ev_aload_n hX dX4_attacked_11 rfl ?_
    refine ev_getr (k := 0) hX (T := TX4) in_X4_attacked_X4 rfl rfl rfl (show Cond.fieldLink RX4 12 "FiveShogi" "position" "LFiveShogi$Position;" ∈ _ by decide +kernel) rfl dX4_attacked_12 ?_
    refine ev_iload_n hX dX4_attacked_15 rfl ?_
    refine ev_callVi hX (k0 := 1) (As := [.inl a1]) (rm := rm_X2_manOn) (c_X2_manOn l D cI cC td a1 z1.2) (cwV 1 hX.ts gX4_attacked_X2_manOn rfl rfl rfl (by decide +kernel) ⟨Nat.le_of_ble_eq_true rfl, Nat.le_of_ble_eq_true rfl⟩) rfl rfl rfl rfl rfl rfl ⟨Nat.le_of_ble_eq_true rfl, Nat.le_of_ble_eq_true rfl⟩ dX4_attacked_16 rfl (fun z2 hz2 => ?_)
    refine ev_bipush hX dX4_attacked_19 (v := 99) (by decide +kernel) ?_
    refine ev_icmp_ne (tgt := 30) hX dX4_attacked_21 (by decide) ?_ ?_
    · refine ev_aload_n hX dX4_attacked_30 rfl ?_
      refine ev_getr (k := 0) hX (T := TX4) in_X4_attacked_X4 rfl rfl rfl (show Cond.fieldLink RX4 12 "FiveShogi" "position" "LFiveShogi$Position;" ∈ _ by decide +kernel) rfl dX4_attacked_31 ?_
      refine ev_iload_n hX dX4_attacked_34 rfl ?_
      refine ev_callVi hX (k0 := 1) (As := [.inl a1]) (rm := rm_X2_attackedFrom) (c_X2_attackedFrom l D cI cC td a1 z2.2) (cwV 1 hX.ts gX4_attacked_X2_attackedFrom rfl rfl rfl (by decide +kernel) ⟨Nat.le_of_ble_eq_true rfl, Nat.le_of_ble_eq_true rfl⟩) rfl rfl rfl rfl rfl rfl ⟨Nat.le_of_ble_eq_true rfl, Nat.le_of_ble_eq_true rfl⟩ dX4_attacked_35 rfl (fun z3 hz3 => ?_)
      exact ev_ireti hX hr dX4_attacked_38
    · refine ev_sipush hX dX4_attacked_24 (v := (-1005)) (by decide +kernel) ?_
      refine ev_goto (tgt := 38) hX dX4_attacked_27 (by decide) ?_
      exact ev_ireti hX hr dX4_attacked_38
  · refine ev_sipush hX dX4_attacked_7 (v := (-1001)) (by decide +kernel) ?_
    exact ev_ireti hX hr dX4_attacked_10
def rm_X3_dropSquares : Room := { frames := 0, cells := 0, slots := 0, locals := 0 }
set_option maxRecDepth 20000 in
theorem in_X3_dropSquares_X3 : ∀ w ∈ u_ws RX3 TX3 6, w ∈ wsX3_dropSquares := by decide +kernel
set_option maxHeartbeats 4000000 in
set_option maxRecDepth 100000 in
theorem c_X3_dropSquares (l : Launch) (D : va_G) (cI cC : ClassId) (td : Nat → Option Nat) (a1 : Int32) (w : mvW) : ∀ z, f_X3_dropSquares a1 w = some z → mv_Ci l D vwCl cI cC tbX td yX3_dropSquares wsX3_dropSquares rm_X3_dropSquares shX w [.inr (.inl 4), .inl a1] z := by
  refine mv_starti (own := RX3) rfl (by decide) rfl rfl (L0 := [some (.inr (.inl 4)), some (.inl a1)]) rfl (fun p e s m args below meth c A ad0 hX hr => ?_)
  rw [f_X3_dropSquares]
  refine ev_iload_n hX dX3_dropSquares_0 rfl ?_
  refine ev_if_lt (tgt := 22) hX dX3_dropSquares_1 (by decide) ?_ ?_
  · refine ev_iconst hX dX3_dropSquares_22 (v := 0) (by decide +kernel) ?_
    exact ev_ireti hX hr dX3_dropSquares_23
  · refine ev_iload_n hX dX3_dropSquares_4 rfl ?_
    refine ev_aload_n hX dX3_dropSquares_5 rfl ?_
    refine ev_getr (k := 3) hX (T := TX3) in_X3_dropSquares_X3 rfl rfl rfl (show Cond.fieldLink RX3 18 "FiveShogi$Rules" "kindDrops" "[I" ∈ _ by decide +kernel) rfl dX3_dropSquares_6 ?_
    refine ev_alen hX rfl (v := 6) (by decide +kernel) dX3_dropSquares_9 ?_
    refine ev_icmp_ge (tgt := 22) hX dX3_dropSquares_10 (by decide) ?_ ?_
    · refine ev_iconst hX dX3_dropSquares_22 (v := 0) (by decide +kernel) ?_
      exact ev_ireti hX hr dX3_dropSquares_23
    · refine ev_aload_n hX dX3_dropSquares_13 rfl ?_
      refine ev_getr (k := 3) hX (T := TX3) in_X3_dropSquares_X3 rfl rfl rfl (show Cond.fieldLink RX3 18 "FiveShogi$Rules" "kindDrops" "[I" ∈ _ by decide +kernel) rfl dX3_dropSquares_14 ?_
      refine ev_iload_n hX dX3_dropSquares_17 rfl ?_
      refine ev_iald hX rfl dX3_dropSquares_18 (fun j1 => ?_)
      refine ev_goto (tgt := 23) hX dX3_dropSquares_19 (by decide) ?_
      exact ev_ireti hX hr dX3_dropSquares_23
end
