/-! the law's own body as rows of EV (printed by wip/p29/lawgen29.py) -/
set_option maxHeartbeats 4000000 in
set_option maxRecDepth 100000 in
theorem e_law_146 {p : Program} {l : Launch} {e : Env} {s : State} {m : MethodId} {bb : Nat} {below : List Frame} {meth : Method} {c : Code} {D : va_G} {cI cC : ClassId} {td : Nat → Option Nat} {ad0 : Nat → Nat} (hX : mv_X p s m #[Value.ref bb] meth c D vwCl cI cC tbX td (fun q => s.heap.size ≤ q) code 4 RL wsL_law) (hr : meth.sig.returnType = ret) {a b : Nat} (ha : a ≤ 600000) (hb : b ≤ 7302249) (x2 : Int32) (w : mvW) : EV p l e room_1 s m #[Value.ref bb] below meth c D vwCl cI cC td (fun q => s.heap.size ≤ q) (fun a => ∀ k, k < 0 → a k = ad0 k) (fun (_ : Int32 × mvW) => lw_Z below #[Value.ref bb] s) a b shX [some (mvT 3000), some (mvC 0), some (.inl (x2)), none] [] 146 w (f_L_law_146 w) := by
  rw [f_L_law_146]
  refine ev_aload_n hX dL_law_146 rfl ?_
  refine ev_bipush hX dL_law_147 (v := 25) (by decide +kernel) ?_
  refine ev_callVi hX (k0 := 0) (As := [.inl 25]) (rm := rm_X4_man) (c_X4_man l D cI cC td 25 w) (cwV 1 hX.ts gL_law_X4_man rfl rfl rfl (by decide +kernel) ⟨Nat.le_of_ble_eq_true rfl, Nat.le_of_ble_eq_true rfl⟩) rfl rfl rfl rfl rfl rfl ⟨ha, hb⟩ dL_law_149 rfl (fun z149 _ => ?_)
  refine ev_sipush hX dL_law_152 (v := (-1001)) (by decide +kernel) ?_
  refine ev_icmp_ne (tgt := 234) hX dL_law_155 (by decide) ev_none ?_
  refine ev_aload_n hX dL_law_158 rfl ?_
  refine ev_iconst hX dL_law_159 (v := 0) (by decide +kernel) ?_
  refine ev_bipush hX dL_law_160 (v := 20) (by decide +kernel) ?_
  refine ev_callVi hX (k0 := 0) (As := [.inl 0, .inl 20]) (rm := rm_X4_put) (c_X4_put l D cI cC td 0 20 z149.2) (cwV 2 hX.ts gL_law_X4_put rfl rfl rfl (by decide +kernel) ⟨Nat.le_of_ble_eq_true rfl, Nat.le_of_ble_eq_true rfl⟩) rfl rfl rfl rfl rfl rfl ⟨ha, hb⟩ dL_law_162 rfl (fun z162 _ => ?_)
  refine ev_sipush hX dL_law_165 (v := (-1001)) (by decide +kernel) ?_
  refine ev_icmp_ne (tgt := 234) hX dL_law_168 (by decide) ev_none ?_
  refine ev_aload_n hX dL_law_171 rfl ?_
  refine ev_iconst hX dL_law_172 (v := 2) (by decide +kernel) ?_
  refine ev_iconst hX dL_law_173 (v := 1) (by decide +kernel) ?_
  refine ev_callVi hX (k0 := 0) (As := [.inl 2, .inl 1]) (rm := rm_X4_hand) (c_X4_hand l D cI cC td 2 1 z162.2) (cwV 2 hX.ts gL_law_X4_hand rfl rfl rfl (by decide +kernel) ⟨Nat.le_of_ble_eq_true rfl, Nat.le_of_ble_eq_true rfl⟩) rfl rfl rfl rfl rfl rfl ⟨ha, hb⟩ dL_law_174 rfl (fun z174 _ => ?_)
  refine ev_sipush hX dL_law_177 (v := (-1001)) (by decide +kernel) ?_
  refine ev_icmp_ne (tgt := 234) hX dL_law_180 (by decide) ev_none ?_
  refine ev_aload_n hX dL_law_183 rfl ?_
  refine ev_iconst hX dL_law_184 (v := 0) (by decide +kernel) ?_
  refine ev_iconst hX dL_law_185 (v := 1) (by decide +kernel) ?_
  refine ev_iconst hX dL_law_186 (v := 5) (by decide +kernel) ?_
  refine ev_callVi hX (k0 := 0) (As := [.inl 0, .inl 1, .inl 5]) (rm := rm_X4_setHand) (c_X4_setHand l D cI cC td 0 1 5 z174.2) (cwV 3 hX.ts gL_law_X4_setHand rfl rfl rfl (by decide +kernel) ⟨Nat.le_of_ble_eq_true rfl, Nat.le_of_ble_eq_true rfl⟩) rfl rfl rfl rfl rfl rfl ⟨ha, hb⟩ dL_law_187 rfl (fun z187 _ => ?_)
  refine ev_sipush hX dL_law_190 (v := (-1002)) (by decide +kernel) ?_
  refine ev_icmp_ne (tgt := 234) hX dL_law_193 (by decide) ev_none ?_
  refine ev_aload_n hX dL_law_196 rfl ?_
  refine ev_bipush hX dL_law_197 (v := 14) (by decide +kernel) ?_
  refine ev_callVi hX (k0 := 0) (As := [.inl 14]) (rm := rm_X4_total) (c_X4_total l D cI cC td 14 z187.2) (cwV 1 hX.ts gL_law_X4_total rfl rfl rfl (by decide +kernel) ⟨Nat.le_of_ble_eq_true rfl, Nat.le_of_ble_eq_true rfl⟩) rfl rfl rfl rfl rfl rfl ⟨ha, hb⟩ dL_law_199 rfl (fun z199 _ => ?_)
  refine ev_sipush hX dL_law_202 (v := (-1002)) (by decide +kernel) ?_
  refine ev_icmp_ne (tgt := 234) hX dL_law_205 (by decide) ev_none ?_
  refine ev_aload_n hX dL_law_208 rfl ?_
  refine ev_iconst hX dL_law_209 (v := (-1)) (by decide +kernel) ?_
  refine ev_callVi hX (k0 := 0) (As := [.inl (-1)]) (rm := rm_X4_make) (c_X4_make l D cI cC td (-1) z199.2) (cwV 1 hX.ts gL_law_X4_make rfl rfl rfl (by decide +kernel) ⟨Nat.le_of_ble_eq_true rfl, Nat.le_of_ble_eq_true rfl⟩) rfl rfl rfl rfl rfl rfl ⟨ha, hb⟩ dL_law_210 rfl (fun z210 _ => ?_)
  refine ev_sipush hX dL_law_213 (v := (-1004)) (by decide +kernel) ?_
  refine ev_icmp_ne (tgt := 234) hX dL_law_216 (by decide) ev_none ?_
  refine ev_aload_n hX dL_law_219 rfl ?_
  refine ev_iconst hX dL_law_220 (v := 2) (by decide +kernel) ?_
  refine ev_callVi hX (k0 := 0) (As := [.inl 2]) (rm := rm_X4_worth) (c_X4_worth l D cI cC td 2 z210.2) (cwV 1 hX.ts gL_law_X4_worth rfl rfl rfl (by decide +kernel) ⟨Nat.le_of_ble_eq_true rfl, Nat.le_of_ble_eq_true rfl⟩) rfl rfl rfl rfl rfl rfl ⟨ha, hb⟩ dL_law_221 rfl (fun z221 _ => ?_)
  refine ev_sipush hX dL_law_224 (v := (-1001)) (by decide +kernel) ?_
  refine ev_icmp_ne (tgt := 234) hX dL_law_227 (by decide) ev_none ?_
  refine ev_iconst hX dL_law_230 (v := 1) (by decide +kernel) ?_
  refine ev_goto (tgt := 235) hX dL_law_231 (by decide) ?_
  exact ev_lawret hX hr ha hb dL_law_235
set_option maxHeartbeats 4000000 in
set_option maxRecDepth 100000 in
theorem e_law_122 {p : Program} {l : Launch} {e : Env} {s : State} {m : MethodId} {bb : Nat} {below : List Frame} {meth : Method} {c : Code} {D : va_G} {cI cC : ClassId} {td : Nat → Option Nat} {ad0 : Nat → Nat} (hX : mv_X p s m #[Value.ref bb] meth c D vwCl cI cC tbX td (fun q => s.heap.size ≤ q) code 4 RL wsL_law) (hr : meth.sig.returnType = ret) {a b : Nat} (ha : a ≤ 600000) (hb : b ≤ 7302249) (k67 : Int32 → mvW → Option (Int32 × mvW)) (hk67 : ∀ (y : Int32) (u : mvW), EV p l e room_1 s m #[Value.ref bb] below meth c D vwCl cI cC td (fun q => s.heap.size ≤ q) (fun a => ∀ k, k < 0 → a k = ad0 k) (fun (_ : Int32 × mvW) => lw_Z below #[Value.ref bb] s) a b shX [some (mvT 3000), some (mvC 0), some (.inl (y)), none] [] 67 u (k67 y u)) (x2 y3 : Int32) (w : mvW) : EV p l e room_1 s m #[Value.ref bb] below meth c D vwCl cI cC td (fun q => s.heap.size ≤ q) (fun a => ∀ k, k < 0 → a k = ad0 k) (fun (_ : Int32 × mvW) => lw_Z below #[Value.ref bb] s) a b shX [some (mvT 3000), some (mvC 0), some (.inl x2), some (.inl y3)] [] 122 w (f_L_law_122 k67 x2 w) := by
  rw [f_L_law_122]
  refine ev_iload_n hX dL_law_122 rfl ?_
  refine ev_bipush hX dL_law_123 (v := 10) (by decide +kernel) ?_
  refine ev_irem hX dL_law_125 (by decide) ?_
  refine ev_bipush hX dL_law_126 (v := 8) (by decide +kernel) ?_
  refine ev_icmp_ne (tgt := 140) hX dL_law_128 (by decide) ?_ ?_
  · refine ev_iinc hX dL_law_140 rfl (v := 1) (by decide +kernel) (L' := [some (mvT 3000), some (mvC 0), some (.inl (x2 + 1)), some (.inl y3)]) rfl ?_
    refine ev_goto (tgt := 67) hX dL_law_143 (by decide) ?_
    refine ev_mask [true, true, true, false] (L' := [some (mvT 3000), some (mvC 0), some (.inl (x2 + 1)), none]) rfl rfl ?_
    exact hk67 (x2 + 1) w
  · refine ev_aload_n hX dL_law_131 rfl ?_
    refine ev_callSi hX (As := [mvC 0]) (rm := rm_L_arePlays) (c_L_arePlays_0 l D cI cC td w) (cwS 1 hX.ts gL_law_L_arePlays rfl rfl rfl (by decide +kernel) ⟨Nat.le_of_ble_eq_true rfl, Nat.le_of_ble_eq_true rfl⟩) rfl rfl rfl ⟨ha, hb⟩ dL_law_132 rfl (fun z132 _ => ?_)
    refine ev_if_ne (tgt := 140) hX dL_law_135 (by decide) ?_ ev_none
    refine ev_iinc hX dL_law_140 rfl (v := 1) (by decide +kernel) (L' := [some (mvT 3000), some (mvC 0), some (.inl (x2 + 1)), some (.inl y3)]) rfl ?_
    refine ev_goto (tgt := 67) hX dL_law_143 (by decide) ?_
    refine ev_mask [true, true, true, false] (L' := [some (mvT 3000), some (mvC 0), some (.inl (x2 + 1)), none]) rfl rfl ?_
    exact hk67 (x2 + 1) z132.2
set_option maxHeartbeats 4000000 in
set_option maxRecDepth 100000 in
theorem e_law_108 {p : Program} {l : Launch} {e : Env} {s : State} {m : MethodId} {bb : Nat} {below : List Frame} {meth : Method} {c : Code} {D : va_G} {cI cC : ClassId} {td : Nat → Option Nat} {ad0 : Nat → Nat} (hX : mv_X p s m #[Value.ref bb] meth c D vwCl cI cC tbX td (fun q => s.heap.size ≤ q) code 4 RL wsL_law) (hr : meth.sig.returnType = ret) {a b : Nat} (ha : a ≤ 600000) (hb : b ≤ 7302249) (k67 : Int32 → mvW → Option (Int32 × mvW)) (hk67 : ∀ (y : Int32) (u : mvW), EV p l e room_1 s m #[Value.ref bb] below meth c D vwCl cI cC td (fun q => s.heap.size ≤ q) (fun a => ∀ k, k < 0 → a k = ad0 k) (fun (_ : Int32 × mvW) => lw_Z below #[Value.ref bb] s) a b shX [some (mvT 3000), some (mvC 0), some (.inl (y)), none] [] 67 u (k67 y u)) (x2 y3 : Int32) (w : mvW) : EV p l e room_1 s m #[Value.ref bb] below meth c D vwCl cI cC td (fun q => s.heap.size ≤ q) (fun a => ∀ k, k < 0 → a k = ad0 k) (fun (_ : Int32 × mvW) => lw_Z below #[Value.ref bb] s) a b shX [some (mvT 3000), some (mvC 0), some (.inl x2), some (.inl y3)] [] 108 w (f_L_law_108 k67 x2 w) := by
  rw [f_L_law_108]
  refine ev_iload_n hX dL_law_108 rfl ?_
  refine ev_iconst hX dL_law_109 (v := 5) (by decide +kernel) ?_
  refine ev_irem hX dL_law_110 (by decide) ?_
  refine ev_iconst hX dL_law_111 (v := 3) (by decide +kernel) ?_
  refine ev_icmp_ne (tgt := 122) hX dL_law_112 (by decide) ?_ ?_
  · exact e_law_122 hX hr ha hb k67 hk67 x2 y3 w
  · refine ev_aload_n hX dL_law_115 rfl ?_
    refine ev_callSi hX (As := [mvC 0]) (rm := rm_L_areDrops) (c_L_areDrops_0 l D cI cC td w) (cwS 1 hX.ts gL_law_L_areDrops rfl rfl rfl (by decide +kernel) ⟨Nat.le_of_ble_eq_true rfl, Nat.le_of_ble_eq_true rfl⟩) rfl rfl rfl ⟨ha, hb⟩ dL_law_116 rfl (fun z116 _ => ?_)
    refine ev_if_eq (tgt := 138) hX dL_law_119 (by decide) ev_none ?_
    exact e_law_122 hX hr ha hb k67 hk67 x2 y3 z116.2
set_option maxHeartbeats 4000000 in
set_option maxRecDepth 100000 in
theorem e_law_67 {p : Program} {l : Launch} {e : Env} {s : State} {m : MethodId} {bb : Nat} {below : List Frame} {meth : Method} {c : Code} {D : va_G} {cI cC : ClassId} {td : Nat → Option Nat} {ad0 : Nat → Nat} (hX : mv_X p s m #[Value.ref bb] meth c D vwCl cI cC tbX td (fun q => s.heap.size ≤ q) code 4 RL wsL_law) (hr : meth.sig.returnType = ret) {Ln : Nat} {xs : Nat → Int32} (htd : td 3000 = some bb) (hscr : va_X bb Ln xs s s.heap) (hbl : bb < s.heap.size) (hLn : Ln < 2 ^ 31) : ∀ (n a b : Nat) (_ : a + n ≤ 600000) (_ : b + 25 * n ≤ 7302249) (x2 : Int32) (w : mvW), EV p l e room_1 s m #[Value.ref bb] below meth c D vwCl cI cC td (fun q => s.heap.size ≤ q) (fun a => ∀ k, k < 0 → a k = ad0 k) (fun (_ : Int32 × mvW) => lw_Z below #[Value.ref bb] s) a b shX [some (mvT 3000), some (mvC 0), some (.inl (x2)), none] [] 67 w (f_L_law_67 (cellV Ln xs) n x2 w) := by
  intro n
  induction n with
  | zero => intro a b _ _ x2 w; exact ev_none
  | succ n ih =>
    intro a b ha hb x2 w
    rw [f_L_law_67]
    have ha0 : a ≤ 600000 := by omega
    have hb0 : b ≤ 7302249 := by omega
    refine ev_iload_n hX dL_law_67 rfl ?_
    refine ev_bipush hX dL_law_68 (v := 22) (by decide +kernel) ?_
    refine ev_icmp_ge (tgt := 146) hX dL_law_70 (by decide) (e_law_146 hX hr ha0 hb0 x2 w) ?_
    refine ev_taload_n hX dL_law_73 rfl ⟨bb, htd⟩ ?_
    refine ev_iload_n hX dL_law_74 rfl ?_
    refine ev_cell hX htd hscr hbl hLn (cwS 2 hX.ts gL_law_L_cell rfl rfl rfl (by decide +kernel) ⟨Nat.le_of_ble_eq_true rfl, Nat.le_of_ble_eq_true rfl⟩) rfl rfl ⟨ha0, hb0⟩ dL_law_75 ?_
    refine ev_istore_n hX dL_law_78 rfl (L' := [some (mvT 3000), some (mvC 0), some (.inl x2), some (.inl (cellV Ln xs x2))]) rfl ?_
    refine ev_aload_n hX dL_law_79 rfl ?_
    refine ev_iload_n hX dL_law_80 rfl ?_
    refine ev_callSi hX (As := [mvC 0, .inl (cellV Ln xs x2)]) (rm := rm_L_does) (c_L_does_0 l D cI cC td (cellV Ln xs x2) w) (cwS 2 hX.ts gL_law_L_does rfl rfl rfl (by decide +kernel) ⟨Nat.le_of_ble_eq_true rfl, Nat.le_of_ble_eq_true rfl⟩) rfl rfl rfl ⟨ha0, hb0⟩ dL_law_81 rfl (fun z81 _ => ?_)
    refine ev_if_eq (tgt := 138) hX dL_law_84 (by decide) ev_none ?_
    refine ev_aload_n hX dL_law_87 rfl ?_
    refine ev_callSi hX (As := [mvC 0]) (rm := rm_L_areMen) (c_L_areMen_0 l D cI cC td z81.2) (cwS 1 hX.ts gL_law_L_areMen rfl rfl rfl (by decide +kernel) ⟨Nat.le_of_ble_eq_true rfl, Nat.le_of_ble_eq_true rfl⟩) rfl rfl rfl ⟨ha0, hb0⟩ dL_law_88 rfl (fun z88 _ => ?_)
    refine ev_if_eq (tgt := 138) hX dL_law_91 (by decide) ev_none ?_
    refine ev_iload_n hX dL_law_94 rfl ?_
    refine ev_iconst hX dL_law_95 (v := 4) (by decide +kernel) ?_
    refine ev_irem hX dL_law_96 (by decide) ?_
    refine ev_iconst hX dL_law_97 (v := 1) (by decide +kernel) ?_
    refine ev_icmp_ne (tgt := 108) hX dL_law_98 (by decide) ?_ ?_
    · exact e_law_108 hX hr ha0 hb0 _ (fun y u => ih a b (by omega) (by omega) y u) x2 (cellV Ln xs x2) z88.2
    · refine ev_aload_n hX dL_law_101 rfl ?_
      refine ev_callSa hX (As := [mvC 0]) (rm := rm_L_areAttacks) (c_L_areAttacks_0 l D cI cC td z88.2) (cwS 1 hX.ts gL_law_L_areAttacks rfl rfl rfl (by decide +kernel) ⟨Nat.le_of_ble_eq_true rfl, Nat.le_of_ble_eq_true rfl⟩) rfl rfl rfl ⟨by show a + 1 ≤ 600000; omega, by show b + 25 ≤ 7302249; omega⟩ dL_law_102 rfl (fun z102 _ => ?_)
      refine ev_if_eq (tgt := 138) hX dL_law_105 (by decide) ev_none ?_
      exact e_law_108 hX hr (by omega) (by omega) _ (fun y u => ih (a + 1) (b + 25) (by omega) (by omega) y u) x2 (cellV Ln xs x2) z102.2
set_option maxHeartbeats 4000000 in
set_option maxRecDepth 100000 in
theorem e_law {p : Program} {l : Launch} {e : Env} {s : State} {m : MethodId} {bb : Nat} {below : List Frame} {meth : Method} {c : Code} {D : va_G} {cI cC : ClassId} {td : Nat → Option Nat} {ad0 : Nat → Nat} (hX : mv_X p s m #[Value.ref bb] meth c D vwCl cI cC tbX td (fun q => s.heap.size ≤ q) code 4 RL wsL_law) (hr : meth.sig.returnType = ret) {Ln : Nat} {xs : Nat → Int32} (htd : td 3000 = some bb) (hscr : va_X bb Ln xs s s.heap) (hbl : bb < s.heap.size) (hLn : Ln < 2 ^ 31) (w : mvW) : EV p l e room_1 s m #[Value.ref bb] below meth c D vwCl cI cC td (fun q => s.heap.size ≤ q) (fun a => ∀ k, k < 0 → a k = ad0 k) (fun (_ : Int32 × mvW) => lw_Z below #[Value.ref bb] s) 0 0 [] [some (mvT 3000), none, none, none] [] 0 w (f_L_law (cellV Ln xs) w) := by
  rw [f_L_law]
  refine ev_new (ci := 4) (n := 0) (tm := [some none, some none, some none, some none, some none, some none, none]) (fs := [.null, .null, .null, .null, .null, .null, .int 0]) hX (C := RX4) (T := TX4) (N := 7) (by decide +kernel) tyX4 tyX4_ok (show Cond.classLink RL 9 RX4 ∈ _ by decide +kernel) (by decide +kernel) (by decide +kernel) rfl (fun j hj => by rcases (show j = 0 ∨ j = 1 ∨ j = 2 ∨ j = 3 ∨ j = 4 ∨ j = 5 ∨ j = 6 by omega) with rfl | rfl | rfl | rfl | rfl | rfl | rfl <;> rfl) (fun _ => rfl) rfl rfl rfl rfl rfl (sh' := [.inr (4, [some none, some none, some none, some none, some none, some none, none])]) rfl (Nat.le_of_ble_eq_true rfl) (Nat.le_of_ble_eq_true rfl) dL_law_0 ?_
  refine ev_dup hX dL_law_3 ?_
  refine ev_callg hX (k0 := 0) (As := []) (rm := rm_X4_init) (nn := 1) (c_X4_init l D cI cC td (mv_z w 0)) (cwI 0 hX.ts gL_law_X4_init rfl rfl rfl (hX.ts _ (show Cond.initialized RX4 ∈ _ by decide +kernel)) (hX.ts _ (show Cond.methodLink RL 83 yX4_init ∈ _ by decide +kernel)) (hX.ts _ (show Cond.instanceMethod yX4_init ∈ _ by decide +kernel)) rfl (by decide +kernel) ⟨Nat.le_of_ble_eq_true rfl, Nat.le_of_ble_eq_true rfl⟩) rfl rfl rfl ⟨Nat.le_of_ble_eq_true rfl, Nat.le_of_ble_eq_true rfl⟩ rfl rfl rfl rfl dL_law_4 rfl (fun z4 _ => ?_)
  refine ev_astore_n hX dL_law_7 rfl (L' := [some (mvT 3000), some (mvC 0), none, none]) rfl ?_
  refine ev_aload_n hX dL_law_8 rfl ?_
  refine ev_callSi hX (As := [mvC 0]) (rm := rm_L_areMen) (c_L_areMen_0 l D cI cC td z4) (cwS 1 hX.ts gL_law_L_areMen rfl rfl rfl (by decide +kernel) ⟨Nat.le_of_ble_eq_true rfl, Nat.le_of_ble_eq_true rfl⟩) rfl rfl rfl ⟨Nat.le_of_ble_eq_true rfl, Nat.le_of_ble_eq_true rfl⟩ dL_law_9 rfl (fun z9 _ => ?_)
  refine ev_if_eq (tgt := 63) hX dL_law_12 (by decide) ev_none ?_
  refine ev_aload_n hX dL_law_15 rfl ?_
  refine ev_iconst hX dL_law_16 (v := 1) (by decide +kernel) ?_
  refine ev_callVi hX (k0 := 0) (As := [.inl 1]) (rm := rm_X4_total) (c_X4_total l D cI cC td 1 z9.2) (cwV 1 hX.ts gL_law_X4_total rfl rfl rfl (by decide +kernel) ⟨Nat.le_of_ble_eq_true rfl, Nat.le_of_ble_eq_true rfl⟩) rfl rfl rfl rfl rfl rfl ⟨Nat.le_of_ble_eq_true rfl, Nat.le_of_ble_eq_true rfl⟩ dL_law_17 rfl (fun z17 _ => ?_)
  refine ev_bipush hX dL_law_20 (v := 12) (by decide +kernel) ?_
  refine ev_icmp_ne (tgt := 63) hX dL_law_22 (by decide) ev_none ?_
  refine ev_aload_n hX dL_law_25 rfl ?_
  refine ev_iconst hX dL_law_26 (v := 0) (by decide +kernel) ?_
  refine ev_callVi hX (k0 := 0) (As := [.inl 0]) (rm := rm_X4_worth) (c_X4_worth l D cI cC td 0 z17.2) (cwV 1 hX.ts gL_law_X4_worth rfl rfl rfl (by decide +kernel) ⟨Nat.le_of_ble_eq_true rfl, Nat.le_of_ble_eq_true rfl⟩) rfl rfl rfl rfl rfl rfl ⟨Nat.le_of_ble_eq_true rfl, Nat.le_of_ble_eq_true rfl⟩ dL_law_27 rfl (fun z27 _ => ?_)
  refine ev_if_ne (tgt := 63) hX dL_law_30 (by decide) ev_none ?_
  refine ev_aload_n hX dL_law_33 rfl ?_
  refine ev_callVi hX (k0 := 0) (As := []) (rm := rm_X4_undo) (c_X4_undo l D cI cC td  z27.2) (cwV 0 hX.ts gL_law_X4_undo rfl rfl rfl (by decide +kernel) ⟨Nat.le_of_ble_eq_true rfl, Nat.le_of_ble_eq_true rfl⟩) rfl rfl rfl rfl rfl rfl ⟨Nat.le_of_ble_eq_true rfl, Nat.le_of_ble_eq_true rfl⟩ dL_law_34 rfl (fun z34 _ => ?_)
  refine ev_sipush hX dL_law_37 (v := (-1005)) (by decide +kernel) ?_
  refine ev_icmp_ne (tgt := 63) hX dL_law_40 (by decide) ev_none ?_
  refine ev_aload_n hX dL_law_43 rfl ?_
  refine ev_callVi hX (k0 := 0) (As := []) (rm := rm_X4_restore) (c_X4_restore l D cI cC td  z34.2) (cwV 0 hX.ts gL_law_X4_restore rfl rfl rfl (by decide +kernel) ⟨Nat.le_of_ble_eq_true rfl, Nat.le_of_ble_eq_true rfl⟩) rfl rfl rfl rfl rfl rfl ⟨Nat.le_of_ble_eq_true rfl, Nat.le_of_ble_eq_true rfl⟩ dL_law_44 rfl (fun z44 _ => ?_)
  refine ev_sipush hX dL_law_47 (v := (-1005)) (by decide +kernel) ?_
  refine ev_icmp_ne (tgt := 63) hX dL_law_50 (by decide) ev_none ?_
  refine ev_aload_n hX dL_law_53 rfl ?_
  refine ev_callVi hX (k0 := 0) (As := []) (rm := rm_X4_mate) (c_X4_mate l D cI cC td  z44.2) (cwV 0 hX.ts gL_law_X4_mate rfl rfl rfl (by decide +kernel) ⟨Nat.le_of_ble_eq_true rfl, Nat.le_of_ble_eq_true rfl⟩) rfl rfl rfl rfl rfl rfl ⟨Nat.le_of_ble_eq_true rfl, Nat.le_of_ble_eq_true rfl⟩ dL_law_54 rfl (fun z54 _ => ?_)
  refine ev_sipush hX dL_law_57 (v := (-1005)) (by decide +kernel) ?_
  refine ev_icmp_eq (tgt := 65) hX dL_law_60 (by decide) ?_ ev_none
  refine ev_iconst hX dL_law_65 (v := 0) (by decide +kernel) ?_
  refine ev_istore_n hX dL_law_66 rfl (L' := [some (mvT 3000), some (mvC 0), some (.inl (0)), none]) rfl ?_
  exact e_law_67 hX hr htd hscr hbl hLn 4096 16 1231 (Nat.le_of_ble_eq_true rfl) (Nat.le_of_ble_eq_true rfl) 0 z54.2
