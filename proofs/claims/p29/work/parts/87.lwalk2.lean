section
variable {p : Program} {l : Launch} {e : Env} {s : State} {m : MethodId} {args : Array Value} {below : List Frame} {meth : Method} {c : Code} {D : va_G} {cI cC : ClassId} {td : Nat → Option Nat} {A : Nat → Prop} {ad0 : Nat → Nat}
set_option maxHeartbeats 4000000 in
set_option maxRecDepth 100000 in
theorem c_X4_isSquare_Y (l : Launch) (D : va_G) (cI cC : ClassId) (td : Nat → Option Nat) (a0 : Int32) (w : mvW) : ∀ z, f_X4_isSquare a0 w = some z → mv_Ci l D vwCl cI cC tbX td yX4_isSquare wsX4_isSquare rm_X4_isSquare shY w [.inl a0] z := by
  refine mv_starti (own := RX4) rfl (by decide) rfl rfl (L0 := [some (.inl a0)]) rfl (fun p e s m args below meth c A ad0 hX hr => ?_)
  rw [f_X4_isSquare]
  refine ev_iload_n hX dX4_isSquare_0 rfl ?_
  refine ev_if_lt (tgt := 14) hX dX4_isSquare_1 (by decide) ?_ ?_
  · refine ev_iconst hX dX4_isSquare_14 (v := 0) (by decide +kernel) ?_
    exact ev_iretz0 hX hr dX4_isSquare_15
  · refine ev_iload_n hX dX4_isSquare_4 rfl ?_
    refine ev_bipush hX dX4_isSquare_5 (v := 25) (by decide +kernel) ?_
    refine ev_icmp_ge (tgt := 14) hX dX4_isSquare_7 (by decide) ?_ ?_
    · refine ev_iconst hX dX4_isSquare_14 (v := 0) (by decide +kernel) ?_
      exact ev_iretz0 hX hr dX4_isSquare_15
    · refine ev_iconst hX dX4_isSquare_10 (v := 1) (by decide +kernel) ?_
      refine ev_goto (tgt := 15) hX dX4_isSquare_11 (by decide) ?_
      exact ev_iretz1 hX hr dX4_isSquare_15
set_option maxHeartbeats 4000000 in
set_option maxRecDepth 100000 in
theorem c_X2_manOn_Y (l : Launch) (D : va_G) (cI cC : ClassId) (td : Nat → Option Nat) (a1 : Int32) (w : mvW) : ∀ z, f_X2_manOn a1 w = some z → mv_Ci l D vwCl cI cC tbX td yX2_manOn wsX2_manOn rm_X2_manOn shY w [.inr (.inl 1), .inl a1] z := by
  refine mv_starti (own := RX2) rfl (by decide) rfl rfl (L0 := [some (.inr (.inl 1)), some (.inl a1)]) rfl (fun p e s m args below meth c A ad0 hX hr => ?_)
  rw [f_X2_manOn]
  refine ev_iload_n hX dX2_manOn_0 rfl ?_
  refine ev_if_lt (tgt := 19) hX dX2_manOn_1 (by decide) ?_ ?_
  · refine ev_bipush hX dX2_manOn_19 (v := 99) (by decide +kernel) ?_
    exact ev_ireti hX hr dX2_manOn_21
  · refine ev_iload_n hX dX2_manOn_4 rfl ?_
    refine ev_bipush hX dX2_manOn_5 (v := 25) (by decide +kernel) ?_
    refine ev_icmp_ge (tgt := 19) hX dX2_manOn_7 (by decide) ?_ ?_
    · refine ev_bipush hX dX2_manOn_19 (v := 99) (by decide +kernel) ?_
      exact ev_ireti hX hr dX2_manOn_21
    · refine ev_aload_n hX dX2_manOn_10 rfl ?_
      refine ev_getr (k := 0) hX (T := TX2) in_X2_manOn_X2 rfl rfl rfl (show Cond.fieldLink RX2 11 "FiveShogi$Position" "state" "[I" ∈ _ by decide +kernel) rfl dX2_manOn_11 ?_
      refine ev_iload_n hX dX2_manOn_14 rfl ?_
      refine ev_iald hX rfl dX2_manOn_15 (fun j1 => ?_)
      refine ev_goto (tgt := 21) hX dX2_manOn_16 (by decide) ?_
      exact ev_ireti hX hr dX2_manOn_21
set_option maxHeartbeats 4000000 in
set_option maxRecDepth 100000 in
theorem e_X2_attackedFrom_Y_71 (hX : mv_X p s m args meth c D vwCl cI cC tbX td A cX2_attackedFrom 9 RX2 wsX2_attackedFrom) (hr : meth.sig.returnType = (some .int)) (k33 : Int32 → Int32 → Int32 → Int32 → mvW → Option (Int32 × mvW)) (hk33 : ∀ (x1 : Int32) (x2 : Int32) (x3 : Int32) (x4 : Int32) (w : mvW), EV p l e (headSpec wsX2_attackedFrom rm_X2_attackedFrom).room s m args below meth c D vwCl cI cC td A (fun a => a = ad0) (mv_Qi below args s D vwCl cI cC shY ad0 A) 0 0 shY [some (.inr (.inl 1)), some (.inl x1), some (.inl x2), some (.inl x3), some (.inl x4), none, none, none, none] [] 33 w (k33 x1 x2 x3 x4 w)) (k46 : Int32 → Int32 → Int32 → Int32 → Int32 → Int32 → mvW → Option (Int32 × mvW)) (hk46 : ∀ (x1 : Int32) (x2 : Int32) (x3 : Int32) (x4 : Int32) (x5 : Int32) (x6 : Int32) (w : mvW), EV p l e (headSpec wsX2_attackedFrom rm_X2_attackedFrom).room s m args below meth c D vwCl cI cC td A (fun a => a = ad0) (mv_Qi below args s D vwCl cI cC shY ad0 A) 0 0 shY [some (.inr (.inl 1)), some (.inl x1), some (.inl x2), some (.inl x3), some (.inl x4), some (.inl x5), some (.inl x6), none, none] [] 46 w (k46 x1 x2 x3 x4 x5 x6 w)) (x1 : Int32) (x2 : Int32) (x3 : Int32) (x4 : Int32) (x5 : Int32) (x6 : Int32) (s0 : Int32) (w : mvW) : EV p l e (headSpec wsX2_attackedFrom rm_X2_attackedFrom).room s m args below meth c D vwCl cI cC td A (fun a => a = ad0) (mv_Qi below args s D vwCl cI cC shY ad0 A) 0 0 shY [some (.inr (.inl 1)), some (.inl x1), some (.inl x2), some (.inl x3), some (.inl x4), some (.inl x5), some (.inl x6), none, none] [.inl s0] 71 w (f_X2_attackedFrom_71 k33 k46 x1 x2 x3 x4 x5 x6 s0 w) := by
  rw [f_X2_attackedFrom_71]
  refine ev_istore hX dX2_attackedFrom_71 rfl (L' := [some (.inr (.inl 1)), some (.inl x1), some (.inl x2), some (.inl x3), some (.inl x4), some (.inl x5), some (.inl x6), some (.inl s0), none]) rfl ?_
  refine ev_iload hX dX2_attackedFrom_73 rfl ?_
  refine ev_bipush hX dX2_attackedFrom_75 (v := 8) (by decide +kernel) ?_
  refine ev_imul hX dX2_attackedFrom_77 ?_
  refine ev_iload hX dX2_attackedFrom_78 rfl ?_
  refine ev_iadd hX dX2_attackedFrom_80 ?_
  refine ev_istore hX dX2_attackedFrom_81 rfl (L' := [some (.inr (.inl 1)), some (.inl x1), some (.inl x2), some (.inl x3), some (.inl x4), some (.inl x5), some (.inl x6), some (.inl s0), some (.inl ((x5 * 8) + x4))]) rfl ?_
  refine ev_iload hX dX2_attackedFrom_83 rfl ?_
  refine ev_iload hX dX2_attackedFrom_85 rfl ?_
  refine ev_ishr hX dX2_attackedFrom_87 ?_
  refine ev_iconst hX dX2_attackedFrom_88 (v := 1) (by decide +kernel) ?_
  refine ev_iand hX dX2_attackedFrom_89 ?_
  refine ev_if_eq (tgt := 163) hX dX2_attackedFrom_90 (by decide) ?_ ?_
  · refine ev_iinc hX dX2_attackedFrom_163 rfl (v := 1) (by decide +kernel) (L' := [some (.inr (.inl 1)), some (.inl x1), some (.inl x2), some (.inl x3), some (.inl (x4 + 1)), some (.inl x5), some (.inl x6), some (.inl s0), some (.inl ((x5 * 8) + x4))]) rfl ?_
    refine ev_goto (tgt := 33) hX dX2_attackedFrom_166 (by decide) ?_
    refine ev_mask [true, true, true, true, true, false, false, false, false] (L' := [some (.inr (.inl 1)), some (.inl x1), some (.inl x2), some (.inl x3), some (.inl (x4 + 1)), none, none, none, none]) rfl rfl ?_
    exact hk33 x1 x2 x3 (x4 + 1) w
  · refine ev_iload hX dX2_attackedFrom_93 rfl ?_
    refine ev_if_lt (tgt := 163) hX dX2_attackedFrom_95 (by decide) ?_ ?_
    · refine ev_iinc hX dX2_attackedFrom_163 rfl (v := 1) (by decide +kernel) (L' := [some (.inr (.inl 1)), some (.inl x1), some (.inl x2), some (.inl x3), some (.inl (x4 + 1)), some (.inl x5), some (.inl x6), some (.inl s0), some (.inl ((x5 * 8) + x4))]) rfl ?_
      refine ev_goto (tgt := 33) hX dX2_attackedFrom_166 (by decide) ?_
      refine ev_mask [true, true, true, true, true, false, false, false, false] (L' := [some (.inr (.inl 1)), some (.inl x1), some (.inl x2), some (.inl x3), some (.inl (x4 + 1)), none, none, none, none]) rfl rfl ?_
      exact hk33 x1 x2 x3 (x4 + 1) w
    · refine ev_iload hX dX2_attackedFrom_98 rfl ?_
      refine ev_aload_n hX dX2_attackedFrom_100 rfl ?_
      refine ev_getr (k := 1) hX (T := TX2) in_X2_attackedFrom_X2 rfl rfl rfl (show Cond.fieldLink RX2 15 "FiveShogi$Position" "beside" "[I" ∈ _ by decide +kernel) rfl dX2_attackedFrom_101 ?_
      refine ev_alen hX rfl (v := 200) (by decide +kernel) dX2_attackedFrom_104 ?_
      refine ev_icmp_lt (tgt := 111) hX dX2_attackedFrom_105 (by decide) ?_ ?_
      · refine ev_aload_n hX dX2_attackedFrom_111 rfl ?_
        refine ev_getr (k := 1) hX (T := TX2) in_X2_attackedFrom_X2 rfl rfl rfl (show Cond.fieldLink RX2 15 "FiveShogi$Position" "beside" "[I" ∈ _ by decide +kernel) rfl dX2_attackedFrom_112 ?_
        refine ev_iload hX dX2_attackedFrom_115 rfl ?_
        refine ev_iald hX rfl dX2_attackedFrom_117 (fun j4 => ?_)
        refine ev_istore hX dX2_attackedFrom_118 rfl (L' := [some (.inr (.inl 1)), some (.inl x1), some (.inl x2), some (.inl x3), some (.inl x4), some (.inl (w 3 j4)), some (.inl x6), some (.inl s0), some (.inl ((x5 * 8) + x4))]) rfl ?_
        refine ev_iload hX dX2_attackedFrom_120 rfl ?_
        refine ev_if_lt (tgt := 163) hX dX2_attackedFrom_122 (by decide) ?_ ?_
        · refine ev_iinc hX dX2_attackedFrom_163 rfl (v := 1) (by decide +kernel) (L' := [some (.inr (.inl 1)), some (.inl x1), some (.inl x2), some (.inl x3), some (.inl (x4 + 1)), some (.inl (w 3 j4)), some (.inl x6), some (.inl s0), some (.inl ((x5 * 8) + x4))]) rfl ?_
          refine ev_goto (tgt := 33) hX dX2_attackedFrom_166 (by decide) ?_
          refine ev_mask [true, true, true, true, true, false, false, false, false] (L' := [some (.inr (.inl 1)), some (.inl x1), some (.inl x2), some (.inl x3), some (.inl (x4 + 1)), none, none, none, none]) rfl rfl ?_
          exact hk33 x1 x2 x3 (x4 + 1) w
        · refine ev_iload hX dX2_attackedFrom_125 rfl ?_
          refine ev_bipush hX dX2_attackedFrom_127 (v := 25) (by decide +kernel) ?_
          refine ev_icmp_lt (tgt := 135) hX dX2_attackedFrom_129 (by decide) ?_ ?_
          · refine ev_iload_n hX dX2_attackedFrom_135 rfl ?_
            refine ev_iconst hX dX2_attackedFrom_136 (v := 1) (by decide +kernel) ?_
            refine ev_iload hX dX2_attackedFrom_137 rfl ?_
            refine ev_ishl hX dX2_attackedFrom_139 ?_
            refine ev_ior hX dX2_attackedFrom_140 ?_
            refine ev_istore_n hX dX2_attackedFrom_141 rfl (L' := [some (.inr (.inl 1)), some (.inl x1), some (.inl x2), some (.inl (x3 ||| (1 <<< ((w 3 j4) &&& 31)))), some (.inl x4), some (.inl (w 3 j4)), some (.inl x6), some (.inl s0), some (.inl ((x5 * 8) + x4))]) rfl ?_
            refine ev_aload_n hX dX2_attackedFrom_142 rfl ?_
            refine ev_getr (k := 0) hX (T := TX2) in_X2_attackedFrom_X2 rfl rfl rfl (show Cond.fieldLink RX2 11 "FiveShogi$Position" "state" "[I" ∈ _ by decide +kernel) rfl dX2_attackedFrom_143 ?_
            refine ev_iload hX dX2_attackedFrom_146 rfl ?_
            refine ev_iald hX rfl dX2_attackedFrom_148 (fun j5 => ?_)
            refine ev_bipush hX dX2_attackedFrom_149 (v := 99) (by decide +kernel) ?_
            refine ev_icmp_eq (tgt := 157) hX dX2_attackedFrom_151 (by decide) ?_ ?_
            · refine ev_iinc hX dX2_attackedFrom_157 rfl (v := 1) (by decide +kernel) (L' := [some (.inr (.inl 1)), some (.inl x1), some (.inl x2), some (.inl (x3 ||| (1 <<< ((w 3 j4) &&& 31)))), some (.inl x4), some (.inl (w 3 j4)), some (.inl (x6 + 1)), some (.inl s0), some (.inl ((x5 * 8) + x4))]) rfl ?_
              refine ev_goto (tgt := 46) hX dX2_attackedFrom_160 (by decide) ?_
              refine ev_mask [true, true, true, true, true, true, true, false, false] (L' := [some (.inr (.inl 1)), some (.inl x1), some (.inl x2), some (.inl (x3 ||| (1 <<< ((w 3 j4) &&& 31)))), some (.inl x4), some (.inl (w 3 j4)), some (.inl (x6 + 1)), none, none]) rfl rfl ?_
              exact hk46 x1 x2 (x3 ||| (1 <<< ((w 3 j4) &&& 31))) x4 (w 3 j4) (x6 + 1) w
            · refine ev_goto (tgt := 163) hX dX2_attackedFrom_154 (by decide) ?_
              refine ev_iinc hX dX2_attackedFrom_163 rfl (v := 1) (by decide +kernel) (L' := [some (.inr (.inl 1)), some (.inl x1), some (.inl x2), some (.inl (x3 ||| (1 <<< ((w 3 j4) &&& 31)))), some (.inl (x4 + 1)), some (.inl (w 3 j4)), some (.inl x6), some (.inl s0), some (.inl ((x5 * 8) + x4))]) rfl ?_
              refine ev_goto (tgt := 33) hX dX2_attackedFrom_166 (by decide) ?_
              refine ev_mask [true, true, true, true, true, false, false, false, false] (L' := [some (.inr (.inl 1)), some (.inl x1), some (.inl x2), some (.inl (x3 ||| (1 <<< ((w 3 j4) &&& 31)))), some (.inl (x4 + 1)), none, none, none, none]) rfl rfl ?_
              exact hk33 x1 x2 (x3 ||| (1 <<< ((w 3 j4) &&& 31))) (x4 + 1) w
          · refine ev_goto (tgt := 163) hX dX2_attackedFrom_132 (by decide) ?_
            refine ev_iinc hX dX2_attackedFrom_163 rfl (v := 1) (by decide +kernel) (L' := [some (.inr (.inl 1)), some (.inl x1), some (.inl x2), some (.inl x3), some (.inl (x4 + 1)), some (.inl (w 3 j4)), some (.inl x6), some (.inl s0), some (.inl ((x5 * 8) + x4))]) rfl ?_
            refine ev_goto (tgt := 33) hX dX2_attackedFrom_166 (by decide) ?_
            refine ev_mask [true, true, true, true, true, false, false, false, false] (L' := [some (.inr (.inl 1)), some (.inl x1), some (.inl x2), some (.inl x3), some (.inl (x4 + 1)), none, none, none, none]) rfl rfl ?_
            exact hk33 x1 x2 x3 (x4 + 1) w
      · refine ev_goto (tgt := 163) hX dX2_attackedFrom_108 (by decide) ?_
        refine ev_iinc hX dX2_attackedFrom_163 rfl (v := 1) (by decide +kernel) (L' := [some (.inr (.inl 1)), some (.inl x1), some (.inl x2), some (.inl x3), some (.inl (x4 + 1)), some (.inl x5), some (.inl x6), some (.inl s0), some (.inl ((x5 * 8) + x4))]) rfl ?_
        refine ev_goto (tgt := 33) hX dX2_attackedFrom_166 (by decide) ?_
        refine ev_mask [true, true, true, true, true, false, false, false, false] (L' := [some (.inr (.inl 1)), some (.inl x1), some (.inl x2), some (.inl x3), some (.inl (x4 + 1)), none, none, none, none]) rfl rfl ?_
        exact hk33 x1 x2 x3 (x4 + 1) w
set_option maxHeartbeats 4000000 in
set_option maxRecDepth 100000 in
theorem e_X2_attackedFrom_Y_46 (hX : mv_X p s m args meth c D vwCl cI cC tbX td A cX2_attackedFrom 9 RX2 wsX2_attackedFrom) (hr : meth.sig.returnType = (some .int)) (k33 : Int32 → Int32 → Int32 → Int32 → mvW → Option (Int32 × mvW)) (hk33 : ∀ (x1 : Int32) (x2 : Int32) (x3 : Int32) (x4 : Int32) (w : mvW), EV p l e (headSpec wsX2_attackedFrom rm_X2_attackedFrom).room s m args below meth c D vwCl cI cC td A (fun a => a = ad0) (mv_Qi below args s D vwCl cI cC shY ad0 A) 0 0 shY [some (.inr (.inl 1)), some (.inl x1), some (.inl x2), some (.inl x3), some (.inl x4), none, none, none, none] [] 33 w (k33 x1 x2 x3 x4 w)) : ∀ (n : Nat) (x1 : Int32) (x2 : Int32) (x3 : Int32) (x4 : Int32) (x5 : Int32) (x6 : Int32) (w : mvW), EV p l e (headSpec wsX2_attackedFrom rm_X2_attackedFrom).room s m args below meth c D vwCl cI cC td A (fun a => a = ad0) (mv_Qi below args s D vwCl cI cC shY ad0 A) 0 0 shY [some (.inr (.inl 1)), some (.inl x1), some (.inl x2), some (.inl x3), some (.inl x4), some (.inl x5), some (.inl x6), none, none] [] 46 w (f_X2_attackedFrom_46 k33 n x1 x2 x3 x4 x5 x6 w) := by
  intro n
  induction n with
  | zero => intro x1 x2 x3 x4 x5 x6 w; exact ev_none
  | succ n ih =>
    intro x1 x2 x3 x4 x5 x6 w
    rw [f_X2_attackedFrom_46]
    refine ev_iload hX dX2_attackedFrom_46 rfl ?_
    refine ev_iconst hX dX2_attackedFrom_48 (v := 5) (by decide +kernel) ?_
    refine ev_icmp_ge (tgt := 163) hX dX2_attackedFrom_49 (by decide) ?_ ?_
    · refine ev_iinc hX dX2_attackedFrom_163 rfl (v := 1) (by decide +kernel) (L' := [some (.inr (.inl 1)), some (.inl x1), some (.inl x2), some (.inl x3), some (.inl (x4 + 1)), some (.inl x5), some (.inl x6), none, none]) rfl ?_
      refine ev_goto (tgt := 33) hX dX2_attackedFrom_166 (by decide) ?_
      refine ev_mask [true, true, true, true, true, false, false, false, false] (L' := [some (.inr (.inl 1)), some (.inl x1), some (.inl x2), some (.inl x3), some (.inl (x4 + 1)), none, none, none, none]) rfl rfl ?_
      exact hk33 x1 x2 x3 (x4 + 1) w
    · refine ev_iload hX dX2_attackedFrom_52 rfl ?_
      refine ev_iconst hX dX2_attackedFrom_54 (v := 1) (by decide +kernel) ?_
      refine ev_icmp_ne (tgt := 66) hX dX2_attackedFrom_55 (by decide) ?_ ?_
      · refine ev_getsN (j := 3) (host := "FiveShogi") hX rfl (List.mem_of_getElem? (i := 2) rfl) dX2_attackedFrom_66 ?_
        refine ev_iload_n hX dX2_attackedFrom_69 rfl ?_
        refine ev_tald (xs := tb_SLIDES) hX rfl dX2_attackedFrom_70 (fun j2 => ?_)
        refine ev_mask [true, true, true, true, true, true, true, false, false] (L' := [some (.inr (.inl 1)), some (.inl x1), some (.inl x2), some (.inl x3), some (.inl x4), some (.inl x5), some (.inl x6), none, none]) rfl rfl ?_
        exact e_X2_attackedFrom_Y_71 hX hr k33 hk33 (fun x1' x2' x3' x4' x5' x6' w' => f_X2_attackedFrom_46 k33 n x1' x2' x3' x4' x5' x6' w') (fun x1' x2' x3' x4' x5' x6' w' => ih x1' x2' x3' x4' x5' x6' w') x1 x2 x3 x4 x5 x6 (tb_SLIDES.getD j2 0) w
      · refine ev_getsN (j := 2) (host := "FiveShogi") hX rfl (List.mem_of_getElem? (i := 1) rfl) dX2_attackedFrom_58 ?_
        refine ev_iload_n hX dX2_attackedFrom_61 rfl ?_
        refine ev_tald (xs := tb_STEPS) hX rfl dX2_attackedFrom_62 (fun j3 => ?_)
        refine ev_goto (tgt := 71) hX dX2_attackedFrom_63 (by decide) ?_
        refine ev_mask [true, true, true, true, true, true, true, false, false] (L' := [some (.inr (.inl 1)), some (.inl x1), some (.inl x2), some (.inl x3), some (.inl x4), some (.inl x5), some (.inl x6), none, none]) rfl rfl ?_
        exact e_X2_attackedFrom_Y_71 hX hr k33 hk33 (fun x1' x2' x3' x4' x5' x6' w' => f_X2_attackedFrom_46 k33 n x1' x2' x3' x4' x5' x6' w') (fun x1' x2' x3' x4' x5' x6' w' => ih x1' x2' x3' x4' x5' x6' w') x1 x2 x3 x4 x5 x6 (tb_STEPS.getD j3 0) w
set_option maxHeartbeats 4000000 in
set_option maxRecDepth 100000 in
theorem e_X2_attackedFrom_Y_33 (hX : mv_X p s m args meth c D vwCl cI cC tbX td A cX2_attackedFrom 9 RX2 wsX2_attackedFrom) (hr : meth.sig.returnType = (some .int)) : ∀ (n : Nat) (x1 : Int32) (x2 : Int32) (x3 : Int32) (x4 : Int32) (w : mvW), EV p l e (headSpec wsX2_attackedFrom rm_X2_attackedFrom).room s m args below meth c D vwCl cI cC td A (fun a => a = ad0) (mv_Qi below args s D vwCl cI cC shY ad0 A) 0 0 shY [some (.inr (.inl 1)), some (.inl x1), some (.inl x2), some (.inl x3), some (.inl x4), none, none, none, none] [] 33 w (f_X2_attackedFrom_33 n x1 x2 x3 x4 w) := by
  intro n
  induction n with
  | zero => intro x1 x2 x3 x4 w; exact ev_none
  | succ n ih =>
    intro x1 x2 x3 x4 w
    rw [f_X2_attackedFrom_33]
    refine ev_iload hX dX2_attackedFrom_33 rfl ?_
    refine ev_bipush hX dX2_attackedFrom_35 (v := 8) (by decide +kernel) ?_
    refine ev_icmp_ge (tgt := 169) hX dX2_attackedFrom_37 (by decide) ?_ ?_
    · refine ev_iload_n hX dX2_attackedFrom_169 rfl ?_
      exact ev_ireti hX hr dX2_attackedFrom_170
    · refine ev_iload_n hX dX2_attackedFrom_40 rfl ?_
      refine ev_istore hX dX2_attackedFrom_41 rfl (L' := [some (.inr (.inl 1)), some (.inl x1), some (.inl x2), some (.inl x3), some (.inl x4), some (.inl x1), none, none, none]) rfl ?_
      refine ev_iconst hX dX2_attackedFrom_43 (v := 1) (by decide +kernel) ?_
      refine ev_istore hX dX2_attackedFrom_44 rfl (L' := [some (.inr (.inl 1)), some (.inl x1), some (.inl x2), some (.inl x3), some (.inl x4), some (.inl x1), some (.inl 1), none, none]) rfl ?_
      refine ev_mask [true, true, true, true, true, true, true, false, false] (L' := [some (.inr (.inl 1)), some (.inl x1), some (.inl x2), some (.inl x3), some (.inl x4), some (.inl x1), some (.inl 1), none, none]) rfl rfl ?_
      exact e_X2_attackedFrom_Y_46 hX hr (fun x1' x2' x3' x4' w' => f_X2_attackedFrom_33 n x1' x2' x3' x4' w') (fun x1' x2' x3' x4' w' => ih x1' x2' x3' x4' w') 4096 x1 x2 x3 x4 x1 1 w
set_option maxHeartbeats 4000000 in
set_option maxRecDepth 100000 in
theorem c_X2_attackedFrom_Y (l : Launch) (D : va_G) (cI cC : ClassId) (td : Nat → Option Nat) (a1 : Int32) (w : mvW) : ∀ z, f_X2_attackedFrom a1 w = some z → mv_Ci l D vwCl cI cC tbX td yX2_attackedFrom wsX2_attackedFrom rm_X2_attackedFrom shY w [.inr (.inl 1), .inl a1] z := by
  refine mv_starti (own := RX2) rfl (by decide) rfl rfl (L0 := [some (.inr (.inl 1)), some (.inl a1), none, none, none, none, none, none, none]) rfl (fun p e s m args below meth c A ad0 hX hr => ?_)
  rw [f_X2_attackedFrom]
  refine ev_aload_n hX dX2_attackedFrom_0 rfl ?_
  refine ev_iload_n hX dX2_attackedFrom_1 rfl ?_
  refine ev_callVi hX (k0 := 1) (As := [.inl a1]) (rm := rm_X2_manOn) (c_X2_manOn_Y l D cI cC td a1 w) (cwV 1 hX.ts gX2_attackedFrom_X2_manOn rfl rfl rfl (by decide +kernel) ⟨Nat.le_of_ble_eq_true rfl, Nat.le_of_ble_eq_true rfl⟩) rfl rfl rfl rfl rfl rfl ⟨Nat.le_of_ble_eq_true rfl, Nat.le_of_ble_eq_true rfl⟩ dX2_attackedFrom_2 rfl (fun z1 hz1 => ?_)
  refine ev_istore_n hX dX2_attackedFrom_5 rfl (L' := [some (.inr (.inl 1)), some (.inl a1), some (.inl z1.1), none, none, none, none, none, none]) rfl ?_
  refine ev_iload_n hX dX2_attackedFrom_6 rfl ?_
  refine ev_if_lt (tgt := 26) hX dX2_attackedFrom_7 (by decide) ?_ ?_
  · refine ev_iconst hX dX2_attackedFrom_26 (v := 0) (by decide +kernel) ?_
    exact ev_ireti hX hr dX2_attackedFrom_27
  · refine ev_iload_n hX dX2_attackedFrom_10 rfl ?_
    refine ev_getsN (j := 2) (host := "FiveShogi") hX rfl (List.mem_of_getElem? (i := 1) rfl) dX2_attackedFrom_11 ?_
    refine ev_tlen hX rfl (v := 20) (by decide +kernel) dX2_attackedFrom_14 ?_
    refine ev_icmp_ge (tgt := 26) hX dX2_attackedFrom_15 (by decide) ?_ ?_
    · refine ev_iconst hX dX2_attackedFrom_26 (v := 0) (by decide +kernel) ?_
      exact ev_ireti hX hr dX2_attackedFrom_27
    · refine ev_iload_n hX dX2_attackedFrom_18 rfl ?_
      refine ev_getsN (j := 3) (host := "FiveShogi") hX rfl (List.mem_of_getElem? (i := 2) rfl) dX2_attackedFrom_19 ?_
      refine ev_tlen hX rfl (v := 20) (by decide +kernel) dX2_attackedFrom_22 ?_
      refine ev_icmp_lt (tgt := 28) hX dX2_attackedFrom_23 (by decide) ?_ ?_
      · refine ev_iconst hX dX2_attackedFrom_28 (v := 0) (by decide +kernel) ?_
        refine ev_istore_n hX dX2_attackedFrom_29 rfl (L' := [some (.inr (.inl 1)), some (.inl a1), some (.inl z1.1), some (.inl 0), none, none, none, none, none]) rfl ?_
        refine ev_iconst hX dX2_attackedFrom_30 (v := 0) (by decide +kernel) ?_
        refine ev_istore hX dX2_attackedFrom_31 rfl (L' := [some (.inr (.inl 1)), some (.inl a1), some (.inl z1.1), some (.inl 0), some (.inl 0), none, none, none, none]) rfl ?_
        refine ev_mask [true, true, true, true, true, false, false, false, false] (L' := [some (.inr (.inl 1)), some (.inl a1), some (.inl z1.1), some (.inl 0), some (.inl 0), none, none, none, none]) rfl rfl ?_
        exact e_X2_attackedFrom_Y_33 hX hr 4096 a1 z1.1 0 0 z1.2
      · refine ev_iconst hX dX2_attackedFrom_26 (v := 0) (by decide +kernel) ?_
        exact ev_ireti hX hr dX2_attackedFrom_27
set_option maxHeartbeats 4000000 in
set_option maxRecDepth 100000 in
theorem c_X4_attacked_Y (l : Launch) (D : va_G) (cI cC : ClassId) (td : Nat → Option Nat) (a1 : Int32) (w : mvW) : ∀ z, f_X4_attacked a1 w = some z → mv_Ci l D vwCl cI cC tbX td yX4_attacked wsX4_attacked rm_X4_attacked shY w [.inr (.inl 0), .inl a1] z := by
  refine mv_starti (own := RX4) rfl (by decide) rfl rfl (L0 := [some (.inr (.inl 0)), some (.inl a1)]) rfl (fun p e s m args below meth c A ad0 hX hr => ?_)
  rw [f_X4_attacked]
  refine ev_iload_n hX dX4_attacked_0 rfl ?_
  refine ev_callSi hX (As := [.inl a1]) (rm := rm_X4_isSquare) (c_X4_isSquare_Y l D cI cC td a1 w) (cwS 1 hX.ts gX4_attacked_X4_isSquare rfl rfl rfl (by decide +kernel) ⟨Nat.le_of_ble_eq_true rfl, Nat.le_of_ble_eq_true rfl⟩) rfl rfl rfl ⟨Nat.le_of_ble_eq_true rfl, Nat.le_of_ble_eq_true rfl⟩ dX4_attacked_1 rfl (fun z1 hz1 => ?_)
  refine ev_if_ne (tgt := 11) hX dX4_attacked_4 (by decide) ?_ ?_
  · refine ev_aload_n hX dX4_attacked_11 rfl ?_
    refine ev_getr (k := 0) hX (T := TX4) in_X4_attacked_X4 rfl rfl rfl (show Cond.fieldLink RX4 12 "FiveShogi" "position" "LFiveShogi$Position;" ∈ _ by decide +kernel) rfl dX4_attacked_12 ?_
    refine ev_iload_n hX dX4_attacked_15 rfl ?_
    refine ev_callVi hX (k0 := 1) (As := [.inl a1]) (rm := rm_X2_manOn) (c_X2_manOn_Y l D cI cC td a1 z1.2) (cwV 1 hX.ts gX4_attacked_X2_manOn rfl rfl rfl (by decide +kernel) ⟨Nat.le_of_ble_eq_true rfl, Nat.le_of_ble_eq_true rfl⟩) rfl rfl rfl rfl rfl rfl ⟨Nat.le_of_ble_eq_true rfl, Nat.le_of_ble_eq_true rfl⟩ dX4_attacked_16 rfl (fun z2 hz2 => ?_)
    refine ev_bipush hX dX4_attacked_19 (v := 99) (by decide +kernel) ?_
    refine ev_icmp_ne (tgt := 30) hX dX4_attacked_21 (by decide) ?_ ?_
    · refine ev_aload_n hX dX4_attacked_30 rfl ?_
      refine ev_getr (k := 0) hX (T := TX4) in_X4_attacked_X4 rfl rfl rfl (show Cond.fieldLink RX4 12 "FiveShogi" "position" "LFiveShogi$Position;" ∈ _ by decide +kernel) rfl dX4_attacked_31 ?_
      refine ev_iload_n hX dX4_attacked_34 rfl ?_
      refine ev_callVi hX (k0 := 1) (As := [.inl a1]) (rm := rm_X2_attackedFrom) (c_X2_attackedFrom_Y l D cI cC td a1 z2.2) (cwV 1 hX.ts gX4_attacked_X2_attackedFrom rfl rfl rfl (by decide +kernel) ⟨Nat.le_of_ble_eq_true rfl, Nat.le_of_ble_eq_true rfl⟩) rfl rfl rfl rfl rfl rfl ⟨Nat.le_of_ble_eq_true rfl, Nat.le_of_ble_eq_true rfl⟩ dX4_attacked_35 rfl (fun z3 hz3 => ?_)
      exact ev_ireti hX hr dX4_attacked_38
    · refine ev_sipush hX dX4_attacked_24 (v := (-1005)) (by decide +kernel) ?_
      refine ev_goto (tgt := 38) hX dX4_attacked_27 (by decide) ?_
      exact ev_ireti hX hr dX4_attacked_38
  · refine ev_sipush hX dX4_attacked_7 (v := (-1001)) (by decide +kernel) ?_
    exact ev_ireti hX hr dX4_attacked_10
set_option maxHeartbeats 4000000 in
set_option maxRecDepth 100000 in
theorem c_X4_isSide_Y (l : Launch) (D : va_G) (cI cC : ClassId) (td : Nat → Option Nat) (a0 : Int32) (w : mvW) : ∀ z, f_X4_isSide a0 w = some z → mv_Ci l D vwCl cI cC tbX td yX4_isSide wsX4_isSide rm_X4_isSide shY w [.inl a0] z := by
  refine mv_starti (own := RX4) rfl (by decide) rfl rfl (L0 := [some (.inl a0)]) rfl (fun p e s m args below meth c A ad0 hX hr => ?_)
  rw [f_X4_isSide]
  refine ev_iload_n hX dX4_isSide_0 rfl ?_
  refine ev_if_lt (tgt := 13) hX dX4_isSide_1 (by decide) ?_ ?_
  · refine ev_iconst hX dX4_isSide_13 (v := 0) (by decide +kernel) ?_
    exact ev_iretz0 hX hr dX4_isSide_14
  · refine ev_iload_n hX dX4_isSide_4 rfl ?_
    refine ev_iconst hX dX4_isSide_5 (v := 2) (by decide +kernel) ?_
    refine ev_icmp_ge (tgt := 13) hX dX4_isSide_6 (by decide) ?_ ?_
    · refine ev_iconst hX dX4_isSide_13 (v := 0) (by decide +kernel) ?_
      exact ev_iretz0 hX hr dX4_isSide_14
    · refine ev_iconst hX dX4_isSide_9 (v := 1) (by decide +kernel) ?_
      refine ev_goto (tgt := 14) hX dX4_isSide_10 (by decide) ?_
      exact ev_iretz1 hX hr dX4_isSide_14
set_option maxHeartbeats 4000000 in
set_option maxRecDepth 100000 in
theorem e_X2_countAttackers_Y_140 (hX : mv_X p s m args meth c D vwCl cI cC tbX td A cX2_countAttackers 11 RX2 wsX2_countAttackers) (hr : meth.sig.returnType = (some .int)) (k5 : Int32 → Int32 → Int32 → Int32 → mvW → Option (Int32 × mvW)) (hk5 : ∀ (x1 : Int32) (x2 : Int32) (x3 : Int32) (x4 : Int32) (w : mvW), EV p l e (headSpec wsX2_countAttackers rm_X2_countAttackers).room s m args below meth c D vwCl cI cC td A (fun a => a = ad0) (mv_Qi below args s D vwCl cI cC shY ad0 A) 0 0 shY [some (.inr (.inl 1)), some (.inl x1), some (.inl x2), some (.inl x3), some (.inl x4), none, none, none, none, none, none] [] 5 w (k5 x1 x2 x3 x4 w)) (x1 : Int32) (x2 : Int32) (x3 : Int32) (x4 : Int32) (x5 : Int32) (x9 : Int32) (s0 : Int32) (w : mvW) : EV p l e (headSpec wsX2_countAttackers rm_X2_countAttackers).room s m args below meth c D vwCl cI cC td A (fun a => a = ad0) (mv_Qi below args s D vwCl cI cC shY ad0 A) 0 0 shY [some (.inr (.inl 1)), some (.inl x1), some (.inl x2), some (.inl x3), some (.inl x4), some (.inl x5), none, none, none, some (.inl x9), none] [.inl s0] 140 w (f_X2_countAttackers_140 k5 x1 x2 x3 x4 x5 x9 s0 w) := by
  rw [f_X2_countAttackers_140]
  refine ev_istore hX dX2_countAttackers_140 rfl (L' := [some (.inr (.inl 1)), some (.inl x1), some (.inl x2), some (.inl x3), some (.inl x4), some (.inl x5), none, none, none, some (.inl x9), some (.inl s0)]) rfl ?_
  refine ev_iload hX dX2_countAttackers_142 rfl ?_
  refine ev_bipush hX dX2_countAttackers_144 (v := 10) (by decide +kernel) ?_
  refine ev_idiv hX dX2_countAttackers_146 (by decide) ?_
  refine ev_iload_n hX dX2_countAttackers_147 rfl ?_
  refine ev_icmp_ne (tgt := 173) hX dX2_countAttackers_148 (by decide) ?_ ?_
  · refine ev_iinc hX dX2_countAttackers_173 rfl (v := 1) (by decide +kernel) (L' := [some (.inr (.inl 1)), some (.inl x1), some (.inl x2), some (.inl x3), some (.inl (x4 + 1)), some (.inl x5), none, none, none, some (.inl x9), some (.inl s0)]) rfl ?_
    refine ev_goto (tgt := 5) hX dX2_countAttackers_176 (by decide) ?_
    refine ev_mask [true, true, true, true, true, false, false, false, false, false, false] (L' := [some (.inr (.inl 1)), some (.inl x1), some (.inl x2), some (.inl x3), some (.inl (x4 + 1)), none, none, none, none, none, none]) rfl rfl ?_
    exact hk5 x1 x2 x3 (x4 + 1) w
  · refine ev_iload hX dX2_countAttackers_151 rfl ?_
    refine ev_iload hX dX2_countAttackers_153 rfl ?_
    refine ev_ishr hX dX2_countAttackers_155 ?_
    refine ev_iconst hX dX2_countAttackers_156 (v := 1) (by decide +kernel) ?_
    refine ev_iand hX dX2_countAttackers_157 ?_
    refine ev_if_eq (tgt := 173) hX dX2_countAttackers_158 (by decide) ?_ ?_
    · refine ev_iinc hX dX2_countAttackers_173 rfl (v := 1) (by decide +kernel) (L' := [some (.inr (.inl 1)), some (.inl x1), some (.inl x2), some (.inl x3), some (.inl (x4 + 1)), some (.inl x5), none, none, none, some (.inl x9), some (.inl s0)]) rfl ?_
      refine ev_goto (tgt := 5) hX dX2_countAttackers_176 (by decide) ?_
      refine ev_mask [true, true, true, true, true, false, false, false, false, false, false] (L' := [some (.inr (.inl 1)), some (.inl x1), some (.inl x2), some (.inl x3), some (.inl (x4 + 1)), none, none, none, none, none, none]) rfl rfl ?_
      exact hk5 x1 x2 x3 (x4 + 1) w
    · refine ev_iinc hX dX2_countAttackers_161 rfl (v := 1) (by decide +kernel) (L' := [some (.inr (.inl 1)), some (.inl x1), some (.inl x2), some (.inl (x3 + 1)), some (.inl x4), some (.inl x5), none, none, none, some (.inl x9), some (.inl s0)]) rfl ?_
      refine ev_goto (tgt := 173) hX dX2_countAttackers_164 (by decide) ?_
      refine ev_iinc hX dX2_countAttackers_173 rfl (v := 1) (by decide +kernel) (L' := [some (.inr (.inl 1)), some (.inl x1), some (.inl x2), some (.inl (x3 + 1)), some (.inl (x4 + 1)), some (.inl x5), none, none, none, some (.inl x9), some (.inl s0)]) rfl ?_
      refine ev_goto (tgt := 5) hX dX2_countAttackers_176 (by decide) ?_
      refine ev_mask [true, true, true, true, true, false, false, false, false, false, false] (L' := [some (.inr (.inl 1)), some (.inl x1), some (.inl x2), some (.inl (x3 + 1)), some (.inl (x4 + 1)), none, none, none, none, none, none]) rfl rfl ?_
      exact hk5 x1 x2 (x3 + 1) (x4 + 1) w
set_option maxHeartbeats 4000000 in
set_option maxRecDepth 100000 in
theorem e_X2_countAttackers_Y_67 (hX : mv_X p s m args meth c D vwCl cI cC tbX td A cX2_countAttackers 11 RX2 wsX2_countAttackers) (hr : meth.sig.returnType = (some .int)) (k5 : Int32 → Int32 → Int32 → Int32 → mvW → Option (Int32 × mvW)) (hk5 : ∀ (x1 : Int32) (x2 : Int32) (x3 : Int32) (x4 : Int32) (w : mvW), EV p l e (headSpec wsX2_countAttackers rm_X2_countAttackers).room s m args below meth c D vwCl cI cC td A (fun a => a = ad0) (mv_Qi below args s D vwCl cI cC shY ad0 A) 0 0 shY [some (.inr (.inl 1)), some (.inl x1), some (.inl x2), some (.inl x3), some (.inl x4), none, none, none, none, none, none] [] 5 w (k5 x1 x2 x3 x4 w)) (k25 : Int32 → Int32 → Int32 → Int32 → Int32 → Int32 → Int32 → mvW → Option (Int32 × mvW)) (hk25 : ∀ (x1 : Int32) (x2 : Int32) (x3 : Int32) (x4 : Int32) (x5 : Int32) (x6 : Int32) (x7 : Int32) (w : mvW), EV p l e (headSpec wsX2_countAttackers rm_X2_countAttackers).room s m args below meth c D vwCl cI cC td A (fun a => a = ad0) (mv_Qi below args s D vwCl cI cC shY ad0 A) 0 0 shY [some (.inr (.inl 1)), some (.inl x1), some (.inl x2), some (.inl x3), some (.inl x4), some (.inl x5), some (.inl x6), some (.inl x7), none, none, none] [] 25 w (k25 x1 x2 x3 x4 x5 x6 x7 w)) (x1 : Int32) (x2 : Int32) (x3 : Int32) (x4 : Int32) (x5 : Int32) (x7 : Int32) (s0 : Int32) (w : mvW) : EV p l e (headSpec wsX2_countAttackers rm_X2_countAttackers).room s m args below meth c D vwCl cI cC td A (fun a => a = ad0) (mv_Qi below args s D vwCl cI cC shY ad0 A) 0 0 shY [some (.inr (.inl 1)), some (.inl x1), some (.inl x2), some (.inl x3), some (.inl x4), some (.inl x5), none, some (.inl x7), none, none, none] [.inl s0] 67 w (f_X2_countAttackers_67 k5 k25 x1 x2 x3 x4 x5 x7 s0 w) := by
  rw [f_X2_countAttackers_67]
  refine ev_istore hX dX2_countAttackers_67 rfl (L' := [some (.inr (.inl 1)), some (.inl x1), some (.inl x2), some (.inl x3), some (.inl x4), some (.inl x5), some (.inl s0), some (.inl x7), none, none, none]) rfl ?_
  refine ev_iload hX dX2_countAttackers_69 rfl ?_
  refine ev_if_lt (tgt := 173) hX dX2_countAttackers_71 (by decide) ?_ ?_
  · refine ev_iinc hX dX2_countAttackers_173 rfl (v := 1) (by decide +kernel) (L' := [some (.inr (.inl 1)), some (.inl x1), some (.inl x2), some (.inl x3), some (.inl (x4 + 1)), some (.inl x5), some (.inl s0), some (.inl x7), none, none, none]) rfl ?_
    refine ev_goto (tgt := 5) hX dX2_countAttackers_176 (by decide) ?_
    refine ev_mask [true, true, true, true, true, false, false, false, false, false, false] (L' := [some (.inr (.inl 1)), some (.inl x1), some (.inl x2), some (.inl x3), some (.inl (x4 + 1)), none, none, none, none, none, none]) rfl rfl ?_
    exact hk5 x1 x2 x3 (x4 + 1) w
  · refine ev_iload hX dX2_countAttackers_74 rfl ?_
    refine ev_bipush hX dX2_countAttackers_76 (v := 25) (by decide +kernel) ?_
    refine ev_icmp_lt (tgt := 84) hX dX2_countAttackers_78 (by decide) ?_ ?_
    · refine ev_aload_n hX dX2_countAttackers_84 rfl ?_
      refine ev_getr (k := 0) hX (T := TX2) in_X2_countAttackers_X2 rfl rfl rfl (show Cond.fieldLink RX2 11 "FiveShogi$Position" "state" "[I" ∈ _ by decide +kernel) rfl dX2_countAttackers_85 ?_
      refine ev_iload hX dX2_countAttackers_88 rfl ?_
      refine ev_iald hX rfl dX2_countAttackers_90 (fun j2 => ?_)
      refine ev_istore hX dX2_countAttackers_91 rfl (L' := [some (.inr (.inl 1)), some (.inl x1), some (.inl x2), some (.inl x3), some (.inl x4), some (.inl x5), some (.inl s0), some (.inl x7), none, some (.inl (w 2 j2)), none]) rfl ?_
      refine ev_iload hX dX2_countAttackers_93 rfl ?_
      refine ev_if_lt (tgt := 167) hX dX2_countAttackers_95 (by decide) ?_ ?_
      · refine ev_iinc hX dX2_countAttackers_167 rfl (v := 1) (by decide +kernel) (L' := [some (.inr (.inl 1)), some (.inl x1), some (.inl x2), some (.inl x3), some (.inl x4), some (.inl x5), some (.inl s0), some (.inl (x7 + 1)), none, some (.inl (w 2 j2)), none]) rfl ?_
        refine ev_goto (tgt := 25) hX dX2_countAttackers_170 (by decide) ?_
        refine ev_mask [true, true, true, true, true, true, true, true, false, false, false] (L' := [some (.inr (.inl 1)), some (.inl x1), some (.inl x2), some (.inl x3), some (.inl x4), some (.inl x5), some (.inl s0), some (.inl (x7 + 1)), none, none, none]) rfl rfl ?_
        exact hk25 x1 x2 x3 x4 x5 s0 (x7 + 1) w
      · refine ev_iload hX dX2_countAttackers_98 rfl ?_
        refine ev_getsN (j := 2) (host := "FiveShogi") hX rfl (List.mem_of_getElem? (i := 1) rfl) dX2_countAttackers_100 ?_
        refine ev_tlen hX rfl (v := 20) (by decide +kernel) dX2_countAttackers_103 ?_
        refine ev_icmp_ge (tgt := 167) hX dX2_countAttackers_104 (by decide) ?_ ?_
        · refine ev_iinc hX dX2_countAttackers_167 rfl (v := 1) (by decide +kernel) (L' := [some (.inr (.inl 1)), some (.inl x1), some (.inl x2), some (.inl x3), some (.inl x4), some (.inl x5), some (.inl s0), some (.inl (x7 + 1)), none, some (.inl (w 2 j2)), none]) rfl ?_
          refine ev_goto (tgt := 25) hX dX2_countAttackers_170 (by decide) ?_
          refine ev_mask [true, true, true, true, true, true, true, true, false, false, false] (L' := [some (.inr (.inl 1)), some (.inl x1), some (.inl x2), some (.inl x3), some (.inl x4), some (.inl x5), some (.inl s0), some (.inl (x7 + 1)), none, none, none]) rfl rfl ?_
          exact hk25 x1 x2 x3 x4 x5 s0 (x7 + 1) w
        · refine ev_iload hX dX2_countAttackers_107 rfl ?_
          refine ev_getsN (j := 3) (host := "FiveShogi") hX rfl (List.mem_of_getElem? (i := 2) rfl) dX2_countAttackers_109 ?_
          refine ev_tlen hX rfl (v := 20) (by decide +kernel) dX2_countAttackers_112 ?_
          refine ev_icmp_lt (tgt := 119) hX dX2_countAttackers_113 (by decide) ?_ ?_
          · refine ev_iload hX dX2_countAttackers_119 rfl ?_
            refine ev_iconst hX dX2_countAttackers_121 (v := 1) (by decide +kernel) ?_
            refine ev_icmp_ne (tgt := 134) hX dX2_countAttackers_122 (by decide) ?_ ?_
            · refine ev_getsN (j := 3) (host := "FiveShogi") hX rfl (List.mem_of_getElem? (i := 2) rfl) dX2_countAttackers_134 ?_
              refine ev_iload hX dX2_countAttackers_137 rfl ?_
              refine ev_tald (xs := tb_SLIDES) hX rfl dX2_countAttackers_139 (fun j3 => ?_)
              refine ev_mask [true, true, true, true, true, true, false, false, false, true, false] (L' := [some (.inr (.inl 1)), some (.inl x1), some (.inl x2), some (.inl x3), some (.inl x4), some (.inl x5), none, none, none, some (.inl (w 2 j2)), none]) rfl rfl ?_
              exact e_X2_countAttackers_Y_140 hX hr k5 hk5 x1 x2 x3 x4 x5 (w 2 j2) (tb_SLIDES.getD j3 0) w
            · refine ev_getsN (j := 2) (host := "FiveShogi") hX rfl (List.mem_of_getElem? (i := 1) rfl) dX2_countAttackers_125 ?_
              refine ev_iload hX dX2_countAttackers_128 rfl ?_
              refine ev_tald (xs := tb_STEPS) hX rfl dX2_countAttackers_130 (fun j4 => ?_)
              refine ev_goto (tgt := 140) hX dX2_countAttackers_131 (by decide) ?_
              refine ev_mask [true, true, true, true, true, true, false, false, false, true, false] (L' := [some (.inr (.inl 1)), some (.inl x1), some (.inl x2), some (.inl x3), some (.inl x4), some (.inl x5), none, none, none, some (.inl (w 2 j2)), none]) rfl rfl ?_
              exact e_X2_countAttackers_Y_140 hX hr k5 hk5 x1 x2 x3 x4 x5 (w 2 j2) (tb_STEPS.getD j4 0) w
          · refine ev_goto (tgt := 167) hX dX2_countAttackers_116 (by decide) ?_
            refine ev_iinc hX dX2_countAttackers_167 rfl (v := 1) (by decide +kernel) (L' := [some (.inr (.inl 1)), some (.inl x1), some (.inl x2), some (.inl x3), some (.inl x4), some (.inl x5), some (.inl s0), some (.inl (x7 + 1)), none, some (.inl (w 2 j2)), none]) rfl ?_
            refine ev_goto (tgt := 25) hX dX2_countAttackers_170 (by decide) ?_
            refine ev_mask [true, true, true, true, true, true, true, true, false, false, false] (L' := [some (.inr (.inl 1)), some (.inl x1), some (.inl x2), some (.inl x3), some (.inl x4), some (.inl x5), some (.inl s0), some (.inl (x7 + 1)), none, none, none]) rfl rfl ?_
            exact hk25 x1 x2 x3 x4 x5 s0 (x7 + 1) w
    · refine ev_goto (tgt := 173) hX dX2_countAttackers_81 (by decide) ?_
      refine ev_iinc hX dX2_countAttackers_173 rfl (v := 1) (by decide +kernel) (L' := [some (.inr (.inl 1)), some (.inl x1), some (.inl x2), some (.inl x3), some (.inl (x4 + 1)), some (.inl x5), some (.inl s0), some (.inl x7), none, none, none]) rfl ?_
      refine ev_goto (tgt := 5) hX dX2_countAttackers_176 (by decide) ?_
      refine ev_mask [true, true, true, true, true, false, false, false, false, false, false] (L' := [some (.inr (.inl 1)), some (.inl x1), some (.inl x2), some (.inl x3), some (.inl (x4 + 1)), none, none, none, none, none, none]) rfl rfl ?_
      exact hk5 x1 x2 x3 (x4 + 1) w
set_option maxHeartbeats 4000000 in
set_option maxRecDepth 100000 in
theorem e_X2_countAttackers_Y_25 (hX : mv_X p s m args meth c D vwCl cI cC tbX td A cX2_countAttackers 11 RX2 wsX2_countAttackers) (hr : meth.sig.returnType = (some .int)) (k5 : Int32 → Int32 → Int32 → Int32 → mvW → Option (Int32 × mvW)) (hk5 : ∀ (x1 : Int32) (x2 : Int32) (x3 : Int32) (x4 : Int32) (w : mvW), EV p l e (headSpec wsX2_countAttackers rm_X2_countAttackers).room s m args below meth c D vwCl cI cC td A (fun a => a = ad0) (mv_Qi below args s D vwCl cI cC shY ad0 A) 0 0 shY [some (.inr (.inl 1)), some (.inl x1), some (.inl x2), some (.inl x3), some (.inl x4), none, none, none, none, none, none] [] 5 w (k5 x1 x2 x3 x4 w)) : ∀ (n : Nat) (x1 : Int32) (x2 : Int32) (x3 : Int32) (x4 : Int32) (x5 : Int32) (x6 : Int32) (x7 : Int32) (w : mvW), EV p l e (headSpec wsX2_countAttackers rm_X2_countAttackers).room s m args below meth c D vwCl cI cC td A (fun a => a = ad0) (mv_Qi below args s D vwCl cI cC shY ad0 A) 0 0 shY [some (.inr (.inl 1)), some (.inl x1), some (.inl x2), some (.inl x3), some (.inl x4), some (.inl x5), some (.inl x6), some (.inl x7), none, none, none] [] 25 w (f_X2_countAttackers_25 k5 n x1 x2 x3 x4 x5 x6 x7 w) := by
  intro n
  induction n with
  | zero => intro x1 x2 x3 x4 x5 x6 x7 w; exact ev_none
  | succ n ih =>
    intro x1 x2 x3 x4 x5 x6 x7 w
    rw [f_X2_countAttackers_25]
    refine ev_iload hX dX2_countAttackers_25 rfl ?_
    refine ev_iconst hX dX2_countAttackers_27 (v := 5) (by decide +kernel) ?_
    refine ev_icmp_ge (tgt := 173) hX dX2_countAttackers_28 (by decide) ?_ ?_
    · refine ev_iinc hX dX2_countAttackers_173 rfl (v := 1) (by decide +kernel) (L' := [some (.inr (.inl 1)), some (.inl x1), some (.inl x2), some (.inl x3), some (.inl (x4 + 1)), some (.inl x5), some (.inl x6), some (.inl x7), none, none, none]) rfl ?_
      refine ev_goto (tgt := 5) hX dX2_countAttackers_176 (by decide) ?_
      refine ev_mask [true, true, true, true, true, false, false, false, false, false, false] (L' := [some (.inr (.inl 1)), some (.inl x1), some (.inl x2), some (.inl x3), some (.inl (x4 + 1)), none, none, none, none, none, none]) rfl rfl ?_
      exact hk5 x1 x2 x3 (x4 + 1) w
    · refine ev_iload hX dX2_countAttackers_31 rfl ?_
      refine ev_bipush hX dX2_countAttackers_33 (v := 8) (by decide +kernel) ?_
      refine ev_imul hX dX2_countAttackers_35 ?_
      refine ev_iload hX dX2_countAttackers_36 rfl ?_
      refine ev_iadd hX dX2_countAttackers_38 ?_
      refine ev_istore hX dX2_countAttackers_39 rfl (L' := [some (.inr (.inl 1)), some (.inl x1), some (.inl x2), some (.inl x3), some (.inl x4), some (.inl x5), some (.inl x6), some (.inl x7), some (.inl ((x6 * 8) + x4)), none, none]) rfl ?_
      refine ev_iload hX dX2_countAttackers_41 rfl ?_
      refine ev_if_lt (tgt := 66) hX dX2_countAttackers_43 (by decide) ?_ ?_
      · refine ev_iconst hX dX2_countAttackers_66 (v := (-1)) (by decide +kernel) ?_
        refine ev_mask [true, true, true, true, true, true, false, true, false, false, false] (L' := [some (.inr (.inl 1)), some (.inl x1), some (.inl x2), some (.inl x3), some (.inl x4), some (.inl x5), none, some (.inl x7), none, none, none]) rfl rfl ?_
        exact e_X2_countAttackers_Y_67 hX hr k5 hk5 (fun x1' x2' x3' x4' x5' x6' x7' w' => f_X2_countAttackers_25 k5 n x1' x2' x3' x4' x5' x6' x7' w') (fun x1' x2' x3' x4' x5' x6' x7' w' => ih x1' x2' x3' x4' x5' x6' x7' w') x1 x2 x3 x4 x5 x7 (-1) w
      · refine ev_iload hX dX2_countAttackers_46 rfl ?_
        refine ev_aload_n hX dX2_countAttackers_48 rfl ?_
        refine ev_getr (k := 1) hX (T := TX2) in_X2_countAttackers_X2 rfl rfl rfl (show Cond.fieldLink RX2 15 "FiveShogi$Position" "beside" "[I" ∈ _ by decide +kernel) rfl dX2_countAttackers_49 ?_
        refine ev_alen hX rfl (v := 200) (by decide +kernel) dX2_countAttackers_52 ?_
        refine ev_icmp_ge (tgt := 66) hX dX2_countAttackers_53 (by decide) ?_ ?_
        · refine ev_iconst hX dX2_countAttackers_66 (v := (-1)) (by decide +kernel) ?_
          refine ev_mask [true, true, true, true, true, true, false, true, false, false, false] (L' := [some (.inr (.inl 1)), some (.inl x1), some (.inl x2), some (.inl x3), some (.inl x4), some (.inl x5), none, some (.inl x7), none, none, none]) rfl rfl ?_
          exact e_X2_countAttackers_Y_67 hX hr k5 hk5 (fun x1' x2' x3' x4' x5' x6' x7' w' => f_X2_countAttackers_25 k5 n x1' x2' x3' x4' x5' x6' x7' w') (fun x1' x2' x3' x4' x5' x6' x7' w' => ih x1' x2' x3' x4' x5' x6' x7' w') x1 x2 x3 x4 x5 x7 (-1) w
        · refine ev_aload_n hX dX2_countAttackers_56 rfl ?_
          refine ev_getr (k := 1) hX (T := TX2) in_X2_countAttackers_X2 rfl rfl rfl (show Cond.fieldLink RX2 15 "FiveShogi$Position" "beside" "[I" ∈ _ by decide +kernel) rfl dX2_countAttackers_57 ?_
          refine ev_iload hX dX2_countAttackers_60 rfl ?_
          refine ev_iald hX rfl dX2_countAttackers_62 (fun j1 => ?_)
          refine ev_goto (tgt := 67) hX dX2_countAttackers_63 (by decide) ?_
          refine ev_mask [true, true, true, true, true, true, false, true, false, false, false] (L' := [some (.inr (.inl 1)), some (.inl x1), some (.inl x2), some (.inl x3), some (.inl x4), some (.inl x5), none, some (.inl x7), none, none, none]) rfl rfl ?_
          exact e_X2_countAttackers_Y_67 hX hr k5 hk5 (fun x1' x2' x3' x4' x5' x6' x7' w' => f_X2_countAttackers_25 k5 n x1' x2' x3' x4' x5' x6' x7' w') (fun x1' x2' x3' x4' x5' x6' x7' w' => ih x1' x2' x3' x4' x5' x6' x7' w') x1 x2 x3 x4 x5 x7 (w 3 j1) w
set_option maxHeartbeats 4000000 in
set_option maxRecDepth 100000 in
theorem e_X2_countAttackers_Y_5 (hX : mv_X p s m args meth c D vwCl cI cC tbX td A cX2_countAttackers 11 RX2 wsX2_countAttackers) (hr : meth.sig.returnType = (some .int)) : ∀ (n : Nat) (x1 : Int32) (x2 : Int32) (x3 : Int32) (x4 : Int32) (w : mvW), EV p l e (headSpec wsX2_countAttackers rm_X2_countAttackers).room s m args below meth c D vwCl cI cC td A (fun a => a = ad0) (mv_Qi below args s D vwCl cI cC shY ad0 A) 0 0 shY [some (.inr (.inl 1)), some (.inl x1), some (.inl x2), some (.inl x3), some (.inl x4), none, none, none, none, none, none] [] 5 w (f_X2_countAttackers_5 n x1 x2 x3 x4 w) := by
  intro n
  induction n with
  | zero => intro x1 x2 x3 x4 w; exact ev_none
  | succ n ih =>
    intro x1 x2 x3 x4 w
    rw [f_X2_countAttackers_5]
    refine ev_iload hX dX2_countAttackers_5 rfl ?_
    refine ev_bipush hX dX2_countAttackers_7 (v := 8) (by decide +kernel) ?_
    refine ev_icmp_ge (tgt := 179) hX dX2_countAttackers_9 (by decide) ?_ ?_
    · refine ev_iload_n hX dX2_countAttackers_179 rfl ?_
      exact ev_ireti hX hr dX2_countAttackers_180
    · refine ev_bipush hX dX2_countAttackers_12 (v := 7) (by decide +kernel) ?_
      refine ev_iload hX dX2_countAttackers_14 rfl ?_
      refine ev_isub hX dX2_countAttackers_16 ?_
      refine ev_istore hX dX2_countAttackers_17 rfl (L' := [some (.inr (.inl 1)), some (.inl x1), some (.inl x2), some (.inl x3), some (.inl x4), some (.inl (7 - x4)), none, none, none, none, none]) rfl ?_
      refine ev_iload_n hX dX2_countAttackers_19 rfl ?_
      refine ev_istore hX dX2_countAttackers_20 rfl (L' := [some (.inr (.inl 1)), some (.inl x1), some (.inl x2), some (.inl x3), some (.inl x4), some (.inl (7 - x4)), some (.inl x2), none, none, none, none]) rfl ?_
      refine ev_iconst hX dX2_countAttackers_22 (v := 1) (by decide +kernel) ?_
      refine ev_istore hX dX2_countAttackers_23 rfl (L' := [some (.inr (.inl 1)), some (.inl x1), some (.inl x2), some (.inl x3), some (.inl x4), some (.inl (7 - x4)), some (.inl x2), some (.inl 1), none, none, none]) rfl ?_
      refine ev_mask [true, true, true, true, true, true, true, true, false, false, false] (L' := [some (.inr (.inl 1)), some (.inl x1), some (.inl x2), some (.inl x3), some (.inl x4), some (.inl (7 - x4)), some (.inl x2), some (.inl 1), none, none, none]) rfl rfl ?_
      exact e_X2_countAttackers_Y_25 hX hr (fun x1' x2' x3' x4' w' => f_X2_countAttackers_5 n x1' x2' x3' x4' w') (fun x1' x2' x3' x4' w' => ih x1' x2' x3' x4' w') 4096 x1 x2 x3 x4 (7 - x4) x2 1 w
set_option maxHeartbeats 4000000 in
set_option maxRecDepth 100000 in
theorem c_X2_countAttackers_Y (l : Launch) (D : va_G) (cI cC : ClassId) (td : Nat → Option Nat) (a1 : Int32) (a2 : Int32) (w : mvW) : ∀ z, f_X2_countAttackers a1 a2 w = some z → mv_Ci l D vwCl cI cC tbX td yX2_countAttackers wsX2_countAttackers rm_X2_countAttackers shY w [.inr (.inl 1), .inl a1, .inl a2] z := by
  refine mv_starti (own := RX2) rfl (by decide) rfl rfl (L0 := [some (.inr (.inl 1)), some (.inl a1), some (.inl a2), none, none, none, none, none, none, none, none]) rfl (fun p e s m args below meth c A ad0 hX hr => ?_)
  rw [f_X2_countAttackers]
  refine ev_iconst hX dX2_countAttackers_0 (v := 0) (by decide +kernel) ?_
  refine ev_istore_n hX dX2_countAttackers_1 rfl (L' := [some (.inr (.inl 1)), some (.inl a1), some (.inl a2), some (.inl 0), none, none, none, none, none, none, none]) rfl ?_
  refine ev_iconst hX dX2_countAttackers_2 (v := 0) (by decide +kernel) ?_
  refine ev_istore hX dX2_countAttackers_3 rfl (L' := [some (.inr (.inl 1)), some (.inl a1), some (.inl a2), some (.inl 0), some (.inl 0), none, none, none, none, none, none]) rfl ?_
  refine ev_mask [true, true, true, true, true, false, false, false, false, false, false] (L' := [some (.inr (.inl 1)), some (.inl a1), some (.inl a2), some (.inl 0), some (.inl 0), none, none, none, none, none, none]) rfl rfl ?_
  exact e_X2_countAttackers_Y_5 hX hr 4096 a1 a2 0 0 w
set_option maxHeartbeats 4000000 in
set_option maxRecDepth 100000 in
theorem c_X4_attackers_Y (l : Launch) (D : va_G) (cI cC : ClassId) (td : Nat → Option Nat) (a1 : Int32) (a2 : Int32) (w : mvW) : ∀ z, f_X4_attackers a1 a2 w = some z → mv_Ci l D vwCl cI cC tbX td yX4_attackers wsX4_attackers rm_X4_attackers shY w [.inr (.inl 0), .inl a1, .inl a2] z := by
  refine mv_starti (own := RX4) rfl (by decide) rfl rfl (L0 := [some (.inr (.inl 0)), some (.inl a1), some (.inl a2)]) rfl (fun p e s m args below meth c A ad0 hX hr => ?_)
  rw [f_X4_attackers]
  refine ev_iload_n hX dX4_attackers_0 rfl ?_
  refine ev_callSi hX (As := [.inl a1]) (rm := rm_X4_isSide) (c_X4_isSide_Y l D cI cC td a1 w) (cwS 1 hX.ts gX4_attackers_X4_isSide rfl rfl rfl (by decide +kernel) ⟨Nat.le_of_ble_eq_true rfl, Nat.le_of_ble_eq_true rfl⟩) rfl rfl rfl ⟨Nat.le_of_ble_eq_true rfl, Nat.le_of_ble_eq_true rfl⟩ dX4_attackers_1 rfl (fun z1 hz1 => ?_)
  refine ev_if_eq (tgt := 14) hX dX4_attackers_4 (by decide) ?_ ?_
  · refine ev_sipush hX dX4_attackers_14 (v := (-1001)) (by decide +kernel) ?_
    exact ev_ireti hX hr dX4_attackers_17
  · refine ev_iload_n hX dX4_attackers_7 rfl ?_
    refine ev_callSi hX (As := [.inl a2]) (rm := rm_X4_isSquare) (c_X4_isSquare_Y l D cI cC td a2 z1.2) (cwS 1 hX.ts gX4_attackers_X4_isSquare rfl rfl rfl (by decide +kernel) ⟨Nat.le_of_ble_eq_true rfl, Nat.le_of_ble_eq_true rfl⟩) rfl rfl rfl ⟨Nat.le_of_ble_eq_true rfl, Nat.le_of_ble_eq_true rfl⟩ dX4_attackers_8 rfl (fun z2 hz2 => ?_)
    refine ev_if_ne (tgt := 18) hX dX4_attackers_11 (by decide) ?_ ?_
    · refine ev_aload_n hX dX4_attackers_18 rfl ?_
      refine ev_getr (k := 0) hX (T := TX4) in_X4_attackers_X4 rfl rfl rfl (show Cond.fieldLink RX4 12 "FiveShogi" "position" "LFiveShogi$Position;" ∈ _ by decide +kernel) rfl dX4_attackers_19 ?_
      refine ev_iload_n hX dX4_attackers_22 rfl ?_
      refine ev_iload_n hX dX4_attackers_23 rfl ?_
      refine ev_callVi hX (k0 := 1) (As := [.inl a1, .inl a2]) (rm := rm_X2_countAttackers) (c_X2_countAttackers_Y l D cI cC td a1 a2 z2.2) (cwV 2 hX.ts gX4_attackers_X2_countAttackers rfl rfl rfl (by decide +kernel) ⟨Nat.le_of_ble_eq_true rfl, Nat.le_of_ble_eq_true rfl⟩) rfl rfl rfl rfl rfl rfl ⟨Nat.le_of_ble_eq_true rfl, Nat.le_of_ble_eq_true rfl⟩ dX4_attackers_24 rfl (fun z3 hz3 => ?_)
      exact ev_ireti hX hr dX4_attackers_27
    · refine ev_sipush hX dX4_attackers_14 (v := (-1001)) (by decide +kernel) ?_
      exact ev_ireti hX hr dX4_attackers_17
set_option maxHeartbeats 4000000 in
set_option maxRecDepth 100000 in
theorem c_X4_man_Y (l : Launch) (D : va_G) (cI cC : ClassId) (td : Nat → Option Nat) (a1 : Int32) (w : mvW) : ∀ z, f_X4_man a1 w = some z → mv_Ci l D vwCl cI cC tbX td yX4_man wsX4_man rm_X4_man shY w [.inr (.inl 0), .inl a1] z := by
  refine mv_starti (own := RX4) rfl (by decide) rfl rfl (L0 := [some (.inr (.inl 0)), some (.inl a1), none]) rfl (fun p e s m args below meth c A ad0 hX hr => ?_)
  rw [f_X4_man]
  refine ev_iload_n hX dX4_man_0 rfl ?_
  refine ev_callSi hX (As := [.inl a1]) (rm := rm_X4_isSquare) (c_X4_isSquare_Y l D cI cC td a1 w) (cwS 1 hX.ts gX4_man_X4_isSquare rfl rfl rfl (by decide +kernel) ⟨Nat.le_of_ble_eq_true rfl, Nat.le_of_ble_eq_true rfl⟩) rfl rfl rfl ⟨Nat.le_of_ble_eq_true rfl, Nat.le_of_ble_eq_true rfl⟩ dX4_man_1 rfl (fun z1 hz1 => ?_)
  refine ev_if_ne (tgt := 11) hX dX4_man_4 (by decide) ?_ ?_
  · refine ev_aload_n hX dX4_man_11 rfl ?_
    refine ev_getr (k := 0) hX (T := TX4) in_X4_man_X4 rfl rfl rfl (show Cond.fieldLink RX4 12 "FiveShogi" "position" "LFiveShogi$Position;" ∈ _ by decide +kernel) rfl dX4_man_12 ?_
    refine ev_iload_n hX dX4_man_15 rfl ?_
    refine ev_callVi hX (k0 := 1) (As := [.inl a1]) (rm := rm_X2_manOn) (c_X2_manOn_Y l D cI cC td a1 z1.2) (cwV 1 hX.ts gX4_man_X2_manOn rfl rfl rfl (by decide +kernel) ⟨Nat.le_of_ble_eq_true rfl, Nat.le_of_ble_eq_true rfl⟩) rfl rfl rfl rfl rfl rfl ⟨Nat.le_of_ble_eq_true rfl, Nat.le_of_ble_eq_true rfl⟩ dX4_man_16 rfl (fun z2 hz2 => ?_)
    refine ev_istore_n hX dX4_man_19 rfl (L' := [some (.inr (.inl 0)), some (.inl a1), some (.inl z2.1)]) rfl ?_
    refine ev_iload_n hX dX4_man_20 rfl ?_
    refine ev_bipush hX dX4_man_21 (v := 99) (by decide +kernel) ?_
    refine ev_icmp_ne (tgt := 32) hX dX4_man_23 (by decide) ?_ ?_
    · refine ev_iload_n hX dX4_man_32 rfl ?_
      exact ev_ireti hX hr dX4_man_33
    · refine ev_sipush hX dX4_man_26 (v := (-1005)) (by decide +kernel) ?_
      refine ev_goto (tgt := 33) hX dX4_man_29 (by decide) ?_
      exact ev_ireti hX hr dX4_man_33
  · refine ev_sipush hX dX4_man_7 (v := (-1001)) (by decide +kernel) ?_
    exact ev_ireti hX hr dX4_man_10
def rm_L_areAttacks : Room := { frames := 3, cells := 1, slots := 25, locals := 70 }
set_option maxHeartbeats 4000000 in
set_option maxRecDepth 100000 in
theorem e_L_areAttacks_0_52 (hX : mv_X p s m args meth c D vwCl cI cC tbX td A cL_areAttacks 6 RL wsL_areAttacks) (hr : meth.sig.returnType = (some .boolean)) (k41 : Int32 → mvW → Option (Int32 × mvW)) (hk41 : ∀ (x2 : Int32) (w : mvW), EV p l e (headSpec wsL_areAttacks rm_L_areAttacks).room s m args below meth c D vwCl cI cC td A (fun a => ∀ k, k < 16 → a k = ad0 k) (mv_Qa below args s D vwCl cI cC shX ad0 A 1 25) 1 25 [.inr (4, [some (some 1), some (some 4), some (some 9), some (some 11), some (some 14), some (some 15), none]), .inr (2, [some (some 2), some (some 3)]), .inl (false, 44), .inl (false, 200), .inr (3, [some (some 1), some (some 5), some (some 6), some (some 7), some (some 8), none]), .inl (false, 25), .inl (false, 25), .inl (false, 6), .inl (false, 525), .inr (0, [some (some 10), none]), .inl (false, 176), .inr (1, [some (some 12), none, some (some 13), none, none]), .inl (true, 60), .inl (false, 60), .inl (false, 44), .inl (false, 44), .inl (false, 25)] [some (.inr (.inl 0)), some (.inr (.inl 16)), some (.inl x2), none, none, none] [] 41 w (k41 x2 w)) : ∀ (n : Nat) (x2 : Int32) (x3 : Int32) (x4 : Int32) (w : mvW), EV p l e (headSpec wsL_areAttacks rm_L_areAttacks).room s m args below meth c D vwCl cI cC td A (fun a => ∀ k, k < 16 → a k = ad0 k) (mv_Qa below args s D vwCl cI cC shX ad0 A 1 25) 1 25 [.inr (4, [some (some 1), some (some 4), some (some 9), some (some 11), some (some 14), some (some 15), none]), .inr (2, [some (some 2), some (some 3)]), .inl (false, 44), .inl (false, 200), .inr (3, [some (some 1), some (some 5), some (some 6), some (some 7), some (some 8), none]), .inl (false, 25), .inl (false, 25), .inl (false, 6), .inl (false, 525), .inr (0, [some (some 10), none]), .inl (false, 176), .inr (1, [some (some 12), none, some (some 13), none, none]), .inl (true, 60), .inl (false, 60), .inl (false, 44), .inl (false, 44), .inl (false, 25)] [some (.inr (.inl 0)), some (.inr (.inl 16)), some (.inl x2), some (.inl x3), some (.inl x4), none] [] 52 w (f_L_areAttacks_0_52 k41 n x2 x3 x4 w) := by
  intro n
  induction n with
  | zero => intro x2 x3 x4 w; exact ev_none
  | succ n ih =>
    intro x2 x3 x4 w
    rw [f_L_areAttacks_0_52]
    refine ev_iload hX dL_areAttacks_52 rfl ?_
    refine ev_bipush hX dL_areAttacks_54 (v := 25) (by decide +kernel) ?_
    refine ev_icmp_ge (tgt := 113) hX dL_areAttacks_56 (by decide) ?_ ?_
    · refine ev_aload_n hX dL_areAttacks_113 rfl ?_
      refine ev_iload_n hX dL_areAttacks_114 rfl ?_
      refine ev_bipush hX dL_areAttacks_115 (v := 25) (by decide +kernel) ?_
      refine ev_idiv hX dL_areAttacks_117 (by decide) ?_
      refine ev_iload_n hX dL_areAttacks_118 rfl ?_
      refine ev_bipush hX dL_areAttacks_119 (v := 25) (by decide +kernel) ?_
      refine ev_irem hX dL_areAttacks_121 (by decide) ?_
      refine ev_callVi hX (k0 := 0) (As := [.inl (x2 / 25), .inl (x2 - x2 / 25 * 25)]) (rm := rm_X4_attackers) (c_X4_attackers_Y l D cI cC td (x2 / 25) (x2 - x2 / 25 * 25) w) (cwV 2 hX.ts gL_areAttacks_X4_attackers rfl rfl rfl (by decide +kernel) ⟨Nat.le_of_ble_eq_true rfl, Nat.le_of_ble_eq_true rfl⟩) rfl rfl rfl rfl rfl rfl ⟨Nat.le_of_ble_eq_true rfl, Nat.le_of_ble_eq_true rfl⟩ dL_areAttacks_122 rfl (fun z5 hz5 => ?_)
      refine ev_iload_n hX dL_areAttacks_125 rfl ?_
      refine ev_icmp_eq (tgt := 131) hX dL_areAttacks_126 (by decide) ?_ ?_
      · refine ev_iinc hX dL_areAttacks_131 rfl (v := 1) (by decide +kernel) (L' := [some (.inr (.inl 0)), some (.inr (.inl 16)), some (.inl (x2 + 1)), some (.inl x3), some (.inl x4), none]) rfl ?_
        refine ev_goto (tgt := 41) hX dL_areAttacks_134 (by decide) ?_
        refine ev_mask [true, true, true, false, false, false] (L' := [some (.inr (.inl 0)), some (.inr (.inl 16)), some (.inl (x2 + 1)), none, none, none]) rfl rfl ?_
        exact hk41 (x2 + 1) z5.2
      · refine ev_iconst hX dL_areAttacks_129 (v := 0) (by decide +kernel) ?_
        exact ev_airetz0 hX hr (sh0 := shX) (ext := [.inl (false, 25)]) rfl rfl rfl rfl rfl dL_areAttacks_130
    · refine ev_aload_n hX dL_areAttacks_59 rfl ?_
      refine ev_iload hX dL_areAttacks_60 rfl ?_
      refine ev_callVi hX (k0 := 0) (As := [.inl x4]) (rm := rm_X4_man) (c_X4_man_Y l D cI cC td x4 w) (cwV 1 hX.ts gL_areAttacks_X4_man rfl rfl rfl (by decide +kernel) ⟨Nat.le_of_ble_eq_true rfl, Nat.le_of_ble_eq_true rfl⟩) rfl rfl rfl rfl rfl rfl ⟨Nat.le_of_ble_eq_true rfl, Nat.le_of_ble_eq_true rfl⟩ dL_areAttacks_62 rfl (fun z6 hz6 => ?_)
      refine ev_istore hX dL_areAttacks_65 rfl (L' := [some (.inr (.inl 0)), some (.inr (.inl 16)), some (.inl x2), some (.inl x3), some (.inl x4), some (.inl z6.1)]) rfl ?_
      refine ev_iload_n hX dL_areAttacks_67 rfl ?_
      refine ev_iload hX dL_areAttacks_68 rfl ?_
      refine ev_if_lt (tgt := 104) hX dL_areAttacks_70 (by decide) ?_ ?_
      · refine ev_iconst hX dL_areAttacks_104 (v := 0) (by decide +kernel) ?_
        refine ev_iadd hX dL_areAttacks_105 ?_
        refine ev_istore_n hX dL_areAttacks_106 rfl (L' := [some (.inr (.inl 0)), some (.inr (.inl 16)), some (.inl x2), some (.inl (x3 + 0)), some (.inl x4), some (.inl z6.1)]) rfl ?_
        refine ev_iinc hX dL_areAttacks_107 rfl (v := 1) (by decide +kernel) (L' := [some (.inr (.inl 0)), some (.inr (.inl 16)), some (.inl x2), some (.inl (x3 + 0)), some (.inl (x4 + 1)), some (.inl z6.1)]) rfl ?_
        refine ev_goto (tgt := 52) hX dL_areAttacks_110 (by decide) ?_
        refine ev_mask [true, true, true, true, true, false] (L' := [some (.inr (.inl 0)), some (.inr (.inl 16)), some (.inl x2), some (.inl (x3 + 0)), some (.inl (x4 + 1)), none]) rfl rfl ?_
        exact ih x2 (x3 + 0) (x4 + 1) z6.2
      · refine ev_iload hX dL_areAttacks_73 rfl ?_
        refine ev_bipush hX dL_areAttacks_75 (v := 10) (by decide +kernel) ?_
        refine ev_idiv hX dL_areAttacks_77 (by decide) ?_
        refine ev_iload_n hX dL_areAttacks_78 rfl ?_
        refine ev_bipush hX dL_areAttacks_79 (v := 25) (by decide +kernel) ?_
        refine ev_idiv hX dL_areAttacks_81 (by decide) ?_
        refine ev_icmp_ne (tgt := 104) hX dL_areAttacks_82 (by decide) ?_ ?_
        · refine ev_iconst hX dL_areAttacks_104 (v := 0) (by decide +kernel) ?_
          refine ev_iadd hX dL_areAttacks_105 ?_
          refine ev_istore_n hX dL_areAttacks_106 rfl (L' := [some (.inr (.inl 0)), some (.inr (.inl 16)), some (.inl x2), some (.inl (x3 + 0)), some (.inl x4), some (.inl z6.1)]) rfl ?_
          refine ev_iinc hX dL_areAttacks_107 rfl (v := 1) (by decide +kernel) (L' := [some (.inr (.inl 0)), some (.inr (.inl 16)), some (.inl x2), some (.inl (x3 + 0)), some (.inl (x4 + 1)), some (.inl z6.1)]) rfl ?_
          refine ev_goto (tgt := 52) hX dL_areAttacks_110 (by decide) ?_
          refine ev_mask [true, true, true, true, true, false] (L' := [some (.inr (.inl 0)), some (.inr (.inl 16)), some (.inl x2), some (.inl (x3 + 0)), some (.inl (x4 + 1)), none]) rfl rfl ?_
          exact ih x2 (x3 + 0) (x4 + 1) z6.2
        · refine ev_aload_n hX dL_areAttacks_85 rfl ?_
          refine ev_iload hX dL_areAttacks_86 rfl ?_
          refine ev_iald hX rfl dL_areAttacks_88 (fun j7 => ?_)
          refine ev_iload_n hX dL_areAttacks_89 rfl ?_
          refine ev_bipush hX dL_areAttacks_90 (v := 25) (by decide +kernel) ?_
          refine ev_irem hX dL_areAttacks_92 (by decide) ?_
          refine ev_ishr hX dL_areAttacks_93 ?_
          refine ev_iconst hX dL_areAttacks_94 (v := 1) (by decide +kernel) ?_
          refine ev_iand hX dL_areAttacks_95 ?_
          refine ev_iconst hX dL_areAttacks_96 (v := 1) (by decide +kernel) ?_
          refine ev_icmp_ne (tgt := 104) hX dL_areAttacks_97 (by decide) ?_ ?_
          · refine ev_iconst hX dL_areAttacks_104 (v := 0) (by decide +kernel) ?_
            refine ev_iadd hX dL_areAttacks_105 ?_
            refine ev_istore_n hX dL_areAttacks_106 rfl (L' := [some (.inr (.inl 0)), some (.inr (.inl 16)), some (.inl x2), some (.inl (x3 + 0)), some (.inl x4), some (.inl z6.1)]) rfl ?_
            refine ev_iinc hX dL_areAttacks_107 rfl (v := 1) (by decide +kernel) (L' := [some (.inr (.inl 0)), some (.inr (.inl 16)), some (.inl x2), some (.inl (x3 + 0)), some (.inl (x4 + 1)), some (.inl z6.1)]) rfl ?_
            refine ev_goto (tgt := 52) hX dL_areAttacks_110 (by decide) ?_
            refine ev_mask [true, true, true, true, true, false] (L' := [some (.inr (.inl 0)), some (.inr (.inl 16)), some (.inl x2), some (.inl (x3 + 0)), some (.inl (x4 + 1)), none]) rfl rfl ?_
            exact ih x2 (x3 + 0) (x4 + 1) z6.2
          · refine ev_iconst hX dL_areAttacks_100 (v := 1) (by decide +kernel) ?_
            refine ev_goto (tgt := 105) hX dL_areAttacks_101 (by decide) ?_
            refine ev_iadd hX dL_areAttacks_105 ?_
            refine ev_istore_n hX dL_areAttacks_106 rfl (L' := [some (.inr (.inl 0)), some (.inr (.inl 16)), some (.inl x2), some (.inl (x3 + 1)), some (.inl x4), some (.inl z6.1)]) rfl ?_
            refine ev_iinc hX dL_areAttacks_107 rfl (v := 1) (by decide +kernel) (L' := [some (.inr (.inl 0)), some (.inr (.inl 16)), some (.inl x2), some (.inl (x3 + 1)), some (.inl (x4 + 1)), some (.inl z6.1)]) rfl ?_
            refine ev_goto (tgt := 52) hX dL_areAttacks_110 (by decide) ?_
            refine ev_mask [true, true, true, true, true, false] (L' := [some (.inr (.inl 0)), some (.inr (.inl 16)), some (.inl x2), some (.inl (x3 + 1)), some (.inl (x4 + 1)), none]) rfl rfl ?_
            exact ih x2 (x3 + 1) (x4 + 1) z6.2
set_option maxHeartbeats 4000000 in
set_option maxRecDepth 100000 in
theorem e_L_areAttacks_0_41 (hX : mv_X p s m args meth c D vwCl cI cC tbX td A cL_areAttacks 6 RL wsL_areAttacks) (hr : meth.sig.returnType = (some .boolean)) : ∀ (n : Nat) (x2 : Int32) (w : mvW), EV p l e (headSpec wsL_areAttacks rm_L_areAttacks).room s m args below meth c D vwCl cI cC td A (fun a => ∀ k, k < 16 → a k = ad0 k) (mv_Qa below args s D vwCl cI cC shX ad0 A 1 25) 1 25 [.inr (4, [some (some 1), some (some 4), some (some 9), some (some 11), some (some 14), some (some 15), none]), .inr (2, [some (some 2), some (some 3)]), .inl (false, 44), .inl (false, 200), .inr (3, [some (some 1), some (some 5), some (some 6), some (some 7), some (some 8), none]), .inl (false, 25), .inl (false, 25), .inl (false, 6), .inl (false, 525), .inr (0, [some (some 10), none]), .inl (false, 176), .inr (1, [some (some 12), none, some (some 13), none, none]), .inl (true, 60), .inl (false, 60), .inl (false, 44), .inl (false, 44), .inl (false, 25)] [some (.inr (.inl 0)), some (.inr (.inl 16)), some (.inl x2), none, none, none] [] 41 w (f_L_areAttacks_0_41 n x2 w) := by
  intro n
  induction n with
  | zero => intro x2 w; exact ev_none
  | succ n ih =>
    intro x2 w
    rw [f_L_areAttacks_0_41]
    refine ev_iload_n hX dL_areAttacks_41 rfl ?_
    refine ev_bipush hX dL_areAttacks_42 (v := 50) (by decide +kernel) ?_
    refine ev_icmp_ge (tgt := 137) hX dL_areAttacks_44 (by decide) ?_ ?_
    · refine ev_iconst hX dL_areAttacks_137 (v := 1) (by decide +kernel) ?_
      exact ev_airetz1 hX hr (sh0 := shX) (ext := [.inl (false, 25)]) rfl rfl rfl rfl rfl dL_areAttacks_138
    · refine ev_iconst hX dL_areAttacks_47 (v := 0) (by decide +kernel) ?_
      refine ev_istore_n hX dL_areAttacks_48 rfl (L' := [some (.inr (.inl 0)), some (.inr (.inl 16)), some (.inl x2), some (.inl 0), none, none]) rfl ?_
      refine ev_iconst hX dL_areAttacks_49 (v := 0) (by decide +kernel) ?_
      refine ev_istore hX dL_areAttacks_50 rfl (L' := [some (.inr (.inl 0)), some (.inr (.inl 16)), some (.inl x2), some (.inl 0), some (.inl 0), none]) rfl ?_
      refine ev_mask [true, true, true, true, true, false] (L' := [some (.inr (.inl 0)), some (.inr (.inl 16)), some (.inl x2), some (.inl 0), some (.inl 0), none]) rfl rfl ?_
      exact e_L_areAttacks_0_52 hX hr (fun x2' w' => f_L_areAttacks_0_41 n x2' w') (fun x2' w' => ih x2' w') 4096 x2 0 0 w
set_option maxHeartbeats 4000000 in
set_option maxRecDepth 100000 in
theorem e_L_areAttacks_0_7 (hX : mv_X p s m args meth c D vwCl cI cC tbX td A cL_areAttacks 6 RL wsL_areAttacks) (hr : meth.sig.returnType = (some .boolean)) : ∀ (n : Nat) (x2 : Int32) (w : mvW), EV p l e (headSpec wsL_areAttacks rm_L_areAttacks).room s m args below meth c D vwCl cI cC td A (fun a => ∀ k, k < 16 → a k = ad0 k) (mv_Qa below args s D vwCl cI cC shX ad0 A 1 25) 1 25 [.inr (4, [some (some 1), some (some 4), some (some 9), some (some 11), some (some 14), some (some 15), none]), .inr (2, [some (some 2), some (some 3)]), .inl (false, 44), .inl (false, 200), .inr (3, [some (some 1), some (some 5), some (some 6), some (some 7), some (some 8), none]), .inl (false, 25), .inl (false, 25), .inl (false, 6), .inl (false, 525), .inr (0, [some (some 10), none]), .inl (false, 176), .inr (1, [some (some 12), none, some (some 13), none, none]), .inl (true, 60), .inl (false, 60), .inl (false, 44), .inl (false, 44), .inl (false, 25)] [some (.inr (.inl 0)), some (.inr (.inl 16)), some (.inl x2), none, none, none] [] 7 w (f_L_areAttacks_0_7 n x2 w) := by
  intro n
  induction n with
  | zero => intro x2 w; exact ev_none
  | succ n ih =>
    intro x2 w
    rw [f_L_areAttacks_0_7]
    refine ev_iload_n hX dL_areAttacks_7 rfl ?_
    refine ev_bipush hX dL_areAttacks_8 (v := 25) (by decide +kernel) ?_
    refine ev_icmp_ge (tgt := 39) hX dL_areAttacks_10 (by decide) ?_ ?_
    · refine ev_iconst hX dL_areAttacks_39 (v := 0) (by decide +kernel) ?_
      refine ev_istore_n hX dL_areAttacks_40 rfl (L' := [some (.inr (.inl 0)), some (.inr (.inl 16)), some (.inl 0), none, none, none]) rfl ?_
      refine ev_mask [true, true, true, false, false, false] (L' := [some (.inr (.inl 0)), some (.inr (.inl 16)), some (.inl 0), none, none, none]) rfl rfl ?_
      exact e_L_areAttacks_0_41 hX hr 4096 0 w
    · refine ev_aload_n hX dL_areAttacks_13 rfl ?_
      refine ev_iload_n hX dL_areAttacks_14 rfl ?_
      refine ev_aload_n hX dL_areAttacks_15 rfl ?_
      refine ev_iload_n hX dL_areAttacks_16 rfl ?_
      refine ev_callVi hX (k0 := 0) (As := [.inl x2]) (rm := rm_X4_attacked) (c_X4_attacked_Y l D cI cC td x2 w) (cwV 1 hX.ts gL_areAttacks_X4_attacked rfl rfl rfl (by decide +kernel) ⟨Nat.le_of_ble_eq_true rfl, Nat.le_of_ble_eq_true rfl⟩) rfl rfl rfl rfl rfl rfl ⟨Nat.le_of_ble_eq_true rfl, Nat.le_of_ble_eq_true rfl⟩ dL_areAttacks_17 rfl (fun z1 hz1 => ?_)
      refine ev_if_ge (tgt := 27) hX dL_areAttacks_20 (by decide) ?_ ?_
      · refine ev_aload_n hX dL_areAttacks_27 rfl ?_
        refine ev_iload_n hX dL_areAttacks_28 rfl ?_
        refine ev_callVi hX (k0 := 0) (As := [.inl x2]) (rm := rm_X4_attacked) (c_X4_attacked_Y l D cI cC td x2 z1.2) (cwV 1 hX.ts gL_areAttacks_X4_attacked rfl rfl rfl (by decide +kernel) ⟨Nat.le_of_ble_eq_true rfl, Nat.le_of_ble_eq_true rfl⟩) rfl rfl rfl rfl rfl rfl ⟨Nat.le_of_ble_eq_true rfl, Nat.le_of_ble_eq_true rfl⟩ dL_areAttacks_29 rfl (fun z2 hz2 => ?_)
        refine ev_iast hX rfl dL_areAttacks_32 (fun j3 => ?_)
        refine ev_iinc hX dL_areAttacks_33 rfl (v := 1) (by decide +kernel) (L' := [some (.inr (.inl 0)), some (.inr (.inl 16)), some (.inl (x2 + 1)), none, none, none]) rfl ?_
        refine ev_goto (tgt := 7) hX dL_areAttacks_36 (by decide) ?_
        refine ev_mask [true, true, true, false, false, false] (L' := [some (.inr (.inl 0)), some (.inr (.inl 16)), some (.inl (x2 + 1)), none, none, none]) rfl rfl ?_
        exact ih (x2 + 1) (mv_up z2.2 16 j3 z2.1)
      · refine ev_iconst hX dL_areAttacks_23 (v := 0) (by decide +kernel) ?_
        refine ev_goto (tgt := 32) hX dL_areAttacks_24 (by decide) ?_
        refine ev_iast hX rfl dL_areAttacks_32 (fun j4 => ?_)
        refine ev_iinc hX dL_areAttacks_33 rfl (v := 1) (by decide +kernel) (L' := [some (.inr (.inl 0)), some (.inr (.inl 16)), some (.inl (x2 + 1)), none, none, none]) rfl ?_
        refine ev_goto (tgt := 7) hX dL_areAttacks_36 (by decide) ?_
        refine ev_mask [true, true, true, false, false, false] (L' := [some (.inr (.inl 0)), some (.inr (.inl 16)), some (.inl (x2 + 1)), none, none, none]) rfl rfl ?_
        exact ih (x2 + 1) (mv_up z1.2 16 j4 0)
set_option maxHeartbeats 4000000 in
set_option maxRecDepth 100000 in
theorem c_L_areAttacks_0 (l : Launch) (D : va_G) (cI cC : ClassId) (td : Nat → Option Nat) (w : mvW) : ∀ z, f_L_areAttacks_0 w = some z → mv_Ca l D vwCl cI cC tbX td yL_areAttacks wsL_areAttacks rm_L_areAttacks shX w [.inr (.inl 0)] 1 25 z := by
  refine mv_starta (own := RL) rfl (by decide) rfl rfl (L0 := [some (.inr (.inl 0)), none, none, none, none, none]) rfl (fun p e s m args below meth c A ad0 hX hr => ?_)
  rw [f_L_areAttacks_0]
  refine ev_bipush hX dL_areAttacks_0 (v := 25) (by decide +kernel) ?_
  refine ev_newi (n := 16) (N := 25) hX (by decide +kernel) (by decide +kernel) (by decide) rfl rfl rfl rfl rfl (sh' := [.inr (4, [some (some 1), some (some 4), some (some 9), some (some 11), some (some 14), some (some 15), none]), .inr (2, [some (some 2), some (some 3)]), .inl (false, 44), .inl (false, 200), .inr (3, [some (some 1), some (some 5), some (some 6), some (some 7), some (some 8), none]), .inl (false, 25), .inl (false, 25), .inl (false, 6), .inl (false, 525), .inr (0, [some (some 10), none]), .inl (false, 176), .inr (1, [some (some 12), none, some (some 13), none, none]), .inl (true, 60), .inl (false, 60), .inl (false, 44), .inl (false, 44), .inl (false, 25)]) rfl (Nat.le_of_ble_eq_true rfl) (Nat.le_of_ble_eq_true rfl) dL_areAttacks_2 ?_
  refine ev_astore_n hX dL_areAttacks_4 rfl (L' := [some (.inr (.inl 0)), some (.inr (.inl 16)), none, none, none, none]) rfl ?_
  refine ev_iconst hX dL_areAttacks_5 (v := 0) (by decide +kernel) ?_
  refine ev_istore_n hX dL_areAttacks_6 rfl (L' := [some (.inr (.inl 0)), some (.inr (.inl 16)), some (.inl 0), none, none, none]) rfl ?_
  refine ev_mask [true, true, true, false, false, false] (L' := [some (.inr (.inl 0)), some (.inr (.inl 16)), some (.inl 0), none, none, none]) rfl rfl ?_
  exact e_L_areAttacks_0_7 hX hr 4096 0 (mv_z w 16)
end
