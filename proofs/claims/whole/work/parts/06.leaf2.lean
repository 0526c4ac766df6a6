set_option maxHeartbeats 4000000 in
set_option maxRecDepth 100000 in
theorem c_W_isset (l : Launch) (D : va_G) (cI cL cW cZ : ClassId) (wo : Nat) (wb : Int32) (wl : Int64) (wu : Int32) (wa : Int32) (sz : Nat) : Met l y_W_isSet w_W_isSet ({ frames := 0, cells := 0, slots := 0, locals := 0 }) (va_Pc [.ref wo] (gP D vwCl (tyv cI cL cW cZ) [(wo, .inr (3, [.int wb, .long wl, .int wu, .int wa]))] sz)) (va_Qi (fun (r : Int32) (u : Unit) => r = zSet wa) (fun u t => gB D vwCl (tyv cI cL cW cZ) (va_A [(wo, .inr (3, [.int wb, .long wl, .int wu, .int wa]))] sz) [(wo, .inr (3, [.int wb, .long wl, .int wu, .int wa]))] t) (va_A [(wo, .inr (3, [.int wb, .long wl, .int wu, .int wa]))] sz)) 0 0 (va_A [(wo, .inr (3, [.int wb, .long wl, .int wu, .int wa]))] sz) := by
  refine met_go (cc := prog_5_method_2_code) (maxL := 1) (ret := (some .boolean)) (QA := fun A => va_Qi (fun (r : Int32) (u : Unit) => r = zSet wa) (fun u t => gB D vwCl (tyv cI cL cW cZ) A [(wo, .inr (3, [.int wb, .long wl, .int wu, .int wa]))] t) A) (by decide) (Nat.le_of_ble_eq_true rfl) ?_
  intro p e s m below meth c A ls hx hb hr hml hT hN hown hlocks hin hl hP hK hD hA hS
  have hl : lv_has ls 1 [(0, .ref wo)] := hl
  refine lv_aload_n hx hb d_W_isSet_0 rfl (lv_at hl 0 rfl) ?_
  refine va_get (D := D) (ci := 3) (v := .int wa) (C := "OscillatorRow$Watch") (T := T_W) (N := 4) hx hb hT i_W hown hK hP 0 rfl rfl 3 (by decide) (hT _ k_80) (fun _ h9 => h9) rfl d_W_isSet_1 ?_
  refine lv_iconst (v := (-1)) hx hb d_W_isSet_4 (by decide) ?_
  refine lv_icmp_eq (tgt := 12) hx hb d_W_isSet_5 (by decide) (fun c5 => ?_) (fun c5 => ?_)
  · refine lv_iconst (v := 0) hx hb d_W_isSet_12 (by decide) ?_
    exact re_z (v := 0) () hx hb hr rfl hlocks (by rw [zSet, if_pos c5]) (hP.sub [0] rfl) hK (hD.sub [0] (by decide) rfl) hS d_W_isSet_13
  · refine lv_iconst (v := 1) hx hb d_W_isSet_8 (by decide) ?_
    refine lv_goto (tgt := 13) hx hb d_W_isSet_9 (by decide) ?_
    exact re_z (v := 1) () hx hb hr rfl hlocks (by rw [zSet, if_neg c5]) (hP.sub [0] rfl) hK (hD.sub [0] (by decide) rfl) hS d_W_isSet_13
set_option maxHeartbeats 4000000 in
set_option maxRecDepth 100000 in
theorem c_W_ishit (l : Launch) (D : va_G) (cI cL cW cZ : ClassId) (wo : Nat) (wb : Int32) (wl : Int64) (wu : Int32) (wa : Int32) (fr : Int64) (tt : Int64) (sz : Nat) : Met l y_W_isHitBy w_W_isHitBy ({ frames := 1, cells := 0, slots := 0, locals := 20 }) (va_Pc [.ref wo, .long fr, .long tt] (gP D vwCl (tyv cI cL cW cZ) [(wo, .inr (3, [.int wb, .long wl, .int wu, .int wa]))] sz)) (va_Qi (fun (r : Int32) (u : Unit) => r = zHit wa wl wu fr tt) (fun u t => gB D vwCl (tyv cI cL cW cZ) (va_A [(wo, .inr (3, [.int wb, .long wl, .int wu, .int wa]))] sz) [(wo, .inr (3, [.int wb, .long wl, .int wu, .int wa]))] t) (va_A [(wo, .inr (3, [.int wb, .long wl, .int wu, .int wa]))] sz)) 0 0 (va_A [(wo, .inr (3, [.int wb, .long wl, .int wu, .int wa]))] sz) := by
  refine met_go (cc := prog_5_method_3_code) (maxL := 5) (ret := (some .boolean)) (QA := fun A => va_Qi (fun (r : Int32) (u : Unit) => r = zHit wa wl wu fr tt) (fun u t => gB D vwCl (tyv cI cL cW cZ) A [(wo, .inr (3, [.int wb, .long wl, .int wu, .int wa]))] t) A) (by decide) (Nat.le_of_ble_eq_true rfl) ?_
  intro p e s m below meth c A ls hx hb hr hml hT hN hown hlocks hin hl hP hK hD hA hS
  have hl : lv_has ls 5 [(0, .ref wo), (1, .long fr), (3, .long tt)] := hl
  refine lv_aload_n hx hb d_W_isHitBy_0 rfl (lv_at hl 0 rfl) ?_
  have hPc := hP.sub (ws' := [(wo, .inr (3, [.int wb, .long wl, .int wu, .int wa]))]) [0] rfl
  have hDc := hD.sub (ws' := [(wo, .inr (3, [.int wb, .long wl, .int wu, .int wa]))]) [0] (by decide) rfl
  refine gc_i (w1 := fun (u : Unit) => [(wo, .inr (3, [.int wb, .long wl, .int wu, .int wa]))]) (wc := [(wo, .inr (3, [.int wb, .long wl, .int wu, .int wa]))]) (wr := []) hP hD hS hA [0] [] rfl rfl (by decide) (by decide) (va_runV (As := []) (rest := []) ⟨hx, hb, hml, hown, hT⟩ (c_W_isset l D cI cL cW cZ wo wb wl wu wa s.heap.size) (cwV 0 hT (good_V k_275 k_276 k_277 k_5 k_278) rfl rfl rfl (by decide +kernel) ⟨Nat.le_of_ble_eq_true rfl, Nat.le_of_ble_eq_true rfl⟩) (pre_V hPc hDc hK hN (ci := 3) rfl rfl) rfl rfl hl.1 rfl (lv_room (Nat.le_of_ble_eq_true rfl)) d_W_isHitBy_1 ⟨(Nat.le_of_ble_eq_true rfl), (Nat.le_of_ble_eq_true rfl)⟩) (fun r u H locs hw hP hD hS => ?_)
  try dsimp only at hw
  have hP : va_P D vwCl [(wo, .inr (3, [.int wb, .long wl, .int wu, .int wa]))] H := hP
  have hD : va_D A [(wo, .inr (3, [.int wb, .long wl, .int wu, .int wa]))] := hD
  subst hw
  refine lv_if_ne (tgt := 9) hx hb d_W_isHitBy_4 (by decide) (fun c4 => ?_) (fun c4 => ?_)
  · refine lv_aload_n hx hb d_W_isHitBy_9 rfl (lv_at hl 0 rfl) ?_
    refine va_get (D := D) (ci := 3) (v := .int wu) (C := "OscillatorRow$Watch") (T := T_W) (N := 4) hx hb hT i_W hown hK hP 0 rfl rfl 2 (by decide) (hT _ k_78) (fun _ h9 => h9) rfl d_W_isHitBy_10 ?_
    refine lv_if_eq (tgt := 42) hx hb d_W_isHitBy_13 (by decide) (fun c13 => ?_) (fun c13 => ?_)
    · refine lv_lload_n hx hb d_W_isHitBy_42 rfl (lv_at hl 1 rfl) ?_
      refine lv_aload_n hx hb d_W_isHitBy_43 rfl (lv_at hl 0 rfl) ?_
      refine va_get (D := D) (ci := 3) (v := .long wl) (C := "OscillatorRow$Watch") (T := T_W) (N := 4) hx hb hT i_W hown hK hP 0 rfl rfl 1 (by decide) (hT _ k_76) (fun _ h9 => h9) rfl d_W_isHitBy_44 ?_
      refine W.lcmp hx hb d_W_isHitBy_47 ?_
      refine lv_if_le (tgt := 64) hx hb d_W_isHitBy_48 (by decide) (fun c48 => ?_) (fun c48 => ?_)
      · have c48 := lgt_le c48
        refine lv_iconst (v := 0) hx hb d_W_isHitBy_64 (by decide) ?_
        exact re_z (v := 0) () hx hb hr rfl hlocks (by rw [zHit, if_pos c4, if_pos c13, if_pos c48]) (hP.sub [0] rfl) hK (hD.sub [0] (by decide) rfl) hS d_W_isHitBy_65
      · have c48 := lgf_le c48
        refine lv_lload_n hx hb d_W_isHitBy_51 rfl (lv_at hl 2 rfl) ?_
        refine lv_aload_n hx hb d_W_isHitBy_52 rfl (lv_at hl 0 rfl) ?_
        refine va_get (D := D) (ci := 3) (v := .long wl) (C := "OscillatorRow$Watch") (T := T_W) (N := 4) hx hb hT i_W hown hK hP 0 rfl rfl 1 (by decide) (hT _ k_76) (fun _ h9 => h9) rfl d_W_isHitBy_53 ?_
        refine W.lcmp hx hb d_W_isHitBy_56 ?_
        refine lv_if_gt (tgt := 64) hx hb d_W_isHitBy_57 (by decide) (fun c57 => ?_) (fun c57 => ?_)
        · have c57 := lgt_gt c57
          refine lv_iconst (v := 0) hx hb d_W_isHitBy_64 (by decide) ?_
          exact re_z (v := 0) () hx hb hr rfl hlocks (by rw [zHit, if_pos c4, if_pos c13, if_neg c48, if_pos c57]) (hP.sub [0] rfl) hK (hD.sub [0] (by decide) rfl) hS d_W_isHitBy_65
        · have c57 := lgf_gt c57
          refine lv_iconst (v := 1) hx hb d_W_isHitBy_60 (by decide) ?_
          refine lv_goto (tgt := 65) hx hb d_W_isHitBy_61 (by decide) ?_
          exact re_z (v := 1) () hx hb hr rfl hlocks (by rw [zHit, if_pos c4, if_pos c13, if_neg c48, if_neg c57]) (hP.sub [0] rfl) hK (hD.sub [0] (by decide) rfl) hS d_W_isHitBy_65
    · refine lv_lload_n hx hb d_W_isHitBy_16 rfl (lv_at hl 1 rfl) ?_
      refine lv_aload_n hx hb d_W_isHitBy_17 rfl (lv_at hl 0 rfl) ?_
      refine va_get (D := D) (ci := 3) (v := .long wl) (C := "OscillatorRow$Watch") (T := T_W) (N := 4) hx hb hT i_W hown hK hP 0 rfl rfl 1 (by decide) (hT _ k_76) (fun _ h9 => h9) rfl d_W_isHitBy_18 ?_
      refine W.lcmp hx hb d_W_isHitBy_21 ?_
      refine lv_if_ge (tgt := 38) hx hb d_W_isHitBy_22 (by decide) (fun c22 => ?_) (fun c22 => ?_)
      · have c22 := lgt_ge c22
        refine lv_iconst (v := 0) hx hb d_W_isHitBy_38 (by decide) ?_
        refine lv_goto (tgt := 65) hx hb d_W_isHitBy_39 (by decide) ?_
        exact re_z (v := 0) () hx hb hr rfl hlocks (by rw [zHit, if_pos c4, if_neg c13, if_pos c22]) (hP.sub [0] rfl) hK (hD.sub [0] (by decide) rfl) hS d_W_isHitBy_65
      · have c22 := lgf_ge c22
        refine lv_lload_n hx hb d_W_isHitBy_25 rfl (lv_at hl 2 rfl) ?_
        refine lv_aload_n hx hb d_W_isHitBy_26 rfl (lv_at hl 0 rfl) ?_
        refine va_get (D := D) (ci := 3) (v := .long wl) (C := "OscillatorRow$Watch") (T := T_W) (N := 4) hx hb hT i_W hown hK hP 0 rfl rfl 1 (by decide) (hT _ k_76) (fun _ h9 => h9) rfl d_W_isHitBy_27 ?_
        refine W.lcmp hx hb d_W_isHitBy_30 ?_
        refine lv_if_lt (tgt := 38) hx hb d_W_isHitBy_31 (by decide) (fun c31 => ?_) (fun c31 => ?_)
        · have c31 := lgt_lt c31
          refine lv_iconst (v := 0) hx hb d_W_isHitBy_38 (by decide) ?_
          refine lv_goto (tgt := 65) hx hb d_W_isHitBy_39 (by decide) ?_
          exact re_z (v := 0) () hx hb hr rfl hlocks (by rw [zHit, if_pos c4, if_neg c13, if_neg c22, if_pos c31]) (hP.sub [0] rfl) hK (hD.sub [0] (by decide) rfl) hS d_W_isHitBy_65
        · have c31 := lgf_lt c31
          refine lv_iconst (v := 1) hx hb d_W_isHitBy_34 (by decide) ?_
          refine lv_goto (tgt := 65) hx hb d_W_isHitBy_35 (by decide) ?_
          exact re_z (v := 1) () hx hb hr rfl hlocks (by rw [zHit, if_pos c4, if_neg c13, if_neg c22, if_neg c31]) (hP.sub [0] rfl) hK (hD.sub [0] (by decide) rfl) hS d_W_isHitBy_65
  · refine lv_iconst (v := 0) hx hb d_W_isHitBy_7 (by decide) ?_
    exact re_z (v := 0) () hx hb hr rfl hlocks (by rw [zHit, if_neg (fun q => q c4)]) (hP.sub [0] rfl) hK (hD.sub [0] (by decide) rfl) hS d_W_isHitBy_8
set_option maxHeartbeats 4000000 in
set_option maxRecDepth 100000 in
theorem c_W_till (l : Launch) (D : va_G) (cI cL cW cZ : ClassId) (wo : Nat) (wb : Int32) (wl : Int64) (wu : Int32) (wa : Int32) (fr : Int64) (tt : Int64) (tk : Int32) (sz : Nat) : Met l y_W_ticksUntilLevel w_W_ticksUntilLevel ({ frames := 1, cells := 0, slots := 0, locals := 17 }) (va_Pc [.ref wo, .long fr, .long tt, .int tk] (gP D vwCl (tyv cI cL cW cZ) [(wo, .inr (3, [.int wb, .long wl, .int wu, .int wa]))] sz)) (va_Qi (fun (r : Int32) (u : Unit) => r = zTill wl fr tt tk) (fun u t => gB D vwCl (tyv cI cL cW cZ) (va_A [(wo, .inr (3, [.int wb, .long wl, .int wu, .int wa]))] sz) [(wo, .inr (3, [.int wb, .long wl, .int wu, .int wa]))] t) (va_A [(wo, .inr (3, [.int wb, .long wl, .int wu, .int wa]))] sz)) 0 0 (va_A [(wo, .inr (3, [.int wb, .long wl, .int wu, .int wa]))] sz) := by
  refine met_go (cc := prog_5_method_4_code) (maxL := 10) (ret := (some .int)) (QA := fun A => va_Qi (fun (r : Int32) (u : Unit) => r = zTill wl fr tt tk) (fun u t => gB D vwCl (tyv cI cL cW cZ) A [(wo, .inr (3, [.int wb, .long wl, .int wu, .int wa]))] t) A) (by decide) (Nat.le_of_ble_eq_true rfl) ?_
  intro p e s m below meth c A ls hx hb hr hml hT hN hown hlocks hin hl hP hK hD hA hS
  have hl : lv_has ls 10 [(0, .ref wo), (1, .long fr), (3, .long tt), (5, .int tk)] := hl
  refine lv_lload_n hx hb d_W_ticksUntilLevel_0 rfl (lv_at hl 2 rfl) ?_
  refine lv_lload_n hx hb d_W_ticksUntilLevel_1 rfl (lv_at hl 1 rfl) ?_
  refine lv_lsub hx hb d_W_ticksUntilLevel_2 ?_
  refine va_mabs_long hx hb (by rw [hml, hl.1]) hown (hT _ k_283) (hT _ k_256) (hT _ k_2) (hT _ k_257) (Nat.le_of_ble_eq_true rfl) (Nat.le_of_ble_eq_true rfl) (Nat.le_of_ble_eq_true rfl) (Nat.le_of_ble_eq_true rfl) d_W_ticksUntilLevel_3 ?_
  refine top_l (y := (zAbs (tt - fr))) rfl ?_
  refine lv_lstore (lv' := [(6, .long (zAbs (tt - fr))), (0, .ref wo), (1, .long fr), (3, .long tt), (5, .int tk)]) hx hb d_W_ticksUntilLevel_6 hl (by decide) rfl (fun ls hl => ?_)
  refine lv_lload hx hb d_W_ticksUntilLevel_8 (lv_at hl 0 rfl) ?_
  refine lv_lconst (v := 0) hx hb d_W_ticksUntilLevel_10 (by decide) ?_
  refine W.lcmp hx hb d_W_ticksUntilLevel_11 ?_
  refine lv_if_ne (tgt := 17) hx hb d_W_ticksUntilLevel_12 (by decide) (fun c12 => ?_) (fun c12 => ?_)
  · have c12 := lgt_ne c12
    refine lv_iload hx hb d_W_ticksUntilLevel_17 (lv_at hl 4 rfl) ?_
    refine lv_i2l hx hb d_W_ticksUntilLevel_19 rfl ?_
    refine lv_aload_n hx hb d_W_ticksUntilLevel_20 rfl (lv_at hl 1 rfl) ?_
    refine va_get (D := D) (ci := 3) (v := .long wl) (C := "OscillatorRow$Watch") (T := T_W) (N := 4) hx hb hT i_W hown hK hP 0 rfl rfl 1 (by decide) (hT _ k_76) (fun _ h9 => h9) rfl d_W_ticksUntilLevel_21 ?_
    refine lv_lload_n hx hb d_W_ticksUntilLevel_24 rfl (lv_at hl 2 rfl) ?_
    refine lv_lsub hx hb d_W_ticksUntilLevel_25 ?_
    refine va_mabs_long hx hb (by rw [hml, hl.1]) hown (hT _ k_283) (hT _ k_256) (hT _ k_2) (hT _ k_257) (Nat.le_of_ble_eq_true rfl) (Nat.le_of_ble_eq_true rfl) (Nat.le_of_ble_eq_true rfl) (Nat.le_of_ble_eq_true rfl) d_W_ticksUntilLevel_26 ?_
    refine top_l (y := (zAbs (wl - fr))) rfl ?_
    refine lv_lmul hx hb d_W_ticksUntilLevel_29 ?_
    refine lv_lstore (lv' := [(8, .long (tk.toInt64 * (zAbs (wl - fr)))), (6, .long (zAbs (tt - fr))), (0, .ref wo), (1, .long fr), (3, .long tt), (5, .int tk)]) hx hb d_W_ticksUntilLevel_30 hl (by decide) rfl (fun ls hl => ?_)
    refine lv_lload hx hb d_W_ticksUntilLevel_32 (lv_at hl 0 rfl) ?_
    refine lv_lload hx hb d_W_ticksUntilLevel_34 (lv_at hl 1 rfl) ?_
    refine lv_ladd hx hb d_W_ticksUntilLevel_36 ?_
    refine lv_lconst (v := 1) hx hb d_W_ticksUntilLevel_37 (by decide) ?_
    refine lv_lsub hx hb d_W_ticksUntilLevel_38 ?_
    refine lv_lload hx hb d_W_ticksUntilLevel_39 (lv_at hl 1 rfl) ?_
    refine lv_ldiv hx hb d_W_ticksUntilLevel_41 c12 ?_
    refine lv_l2i hx hb d_W_ticksUntilLevel_42 rfl ?_
    exact re_i (v := ((((tk.toInt64 * (zAbs (wl - fr))) + (zAbs (tt - fr))) - 1) / (zAbs (tt - fr))).toInt32) () hx hb hr hlocks (by rw [zTill, if_pos c12]) (hP.sub [0] rfl) hK (hD.sub [0] (by decide) rfl) hS d_W_ticksUntilLevel_43
  · have c12 := lgf_ne c12
    refine lv_iconst (v := 0) hx hb d_W_ticksUntilLevel_15 (by decide) ?_
    exact re_i (v := 0) () hx hb hr hlocks (by rw [zTill, if_neg (fun q => q c12)]) (hP.sub [0] rfl) hK (hD.sub [0] (by decide) rfl) hS d_W_ticksUntilLevel_16
set_option maxHeartbeats 4000000 in
set_option maxRecDepth 100000 in
theorem c_H_keeps (l : Launch) (D : va_G) (cI cL cW cZ : ClassId) (hi : Nat) (a1 : Nat) (a2 : Nat) (a3 : Nat) (ct : Nat) (f1 : Nat → Int32) (f2 : Nat → Int32) (f3 : Nat → Int32) (ia : Int32) (sz : Nat) (hc : ct < 2 ^ 30) : Met l y_H_keeps w_H_keeps ({ frames := 0, cells := 0, slots := 0, locals := 0 }) (va_Pc [.ref hi, .int ia] (gP D vwCl (tyv cI cL cW cZ) [(hi, .inr (0, [.ref a1, .ref a2, .ref a3, .int (nI (zKp ct)), .int (nI ct)])), (a1, .inl (cI, 40, .inl f1)), (a2, .inl (cI, 40, .inl f2)), (a3, .inl (cI, 40, .inl f3))] sz)) (va_Qi (fun (r : Int32) (u : Unit) => r = zKeep ia (nI ct)) (fun u t => gB D vwCl (tyv cI cL cW cZ) (va_A [(hi, .inr (0, [.ref a1, .ref a2, .ref a3, .int (nI (zKp ct)), .int (nI ct)])), (a1, .inl (cI, 40, .inl f1)), (a2, .inl (cI, 40, .inl f2)), (a3, .inl (cI, 40, .inl f3))] sz) [(hi, .inr (0, [.ref a1, .ref a2, .ref a3, .int (nI (zKp ct)), .int (nI ct)])), (a1, .inl (cI, 40, .inl f1)), (a2, .inl (cI, 40, .inl f2)), (a3, .inl (cI, 40, .inl f3))] t) (va_A [(hi, .inr (0, [.ref a1, .ref a2, .ref a3, .int (nI (zKp ct)), .int (nI ct)])), (a1, .inl (cI, 40, .inl f1)), (a2, .inl (cI, 40, .inl f2)), (a3, .inl (cI, 40, .inl f3))] sz)) 0 0 (va_A [(hi, .inr (0, [.ref a1, .ref a2, .ref a3, .int (nI (zKp ct)), .int (nI ct)])), (a1, .inl (cI, 40, .inl f1)), (a2, .inl (cI, 40, .inl f2)), (a3, .inl (cI, 40, .inl f3))] sz) := by
  refine met_go (cc := prog_2_method_2_code) (maxL := 2) (ret := (some .boolean)) (QA := fun A => va_Qi (fun (r : Int32) (u : Unit) => r = zKeep ia (nI ct)) (fun u t => gB D vwCl (tyv cI cL cW cZ) A [(hi, .inr (0, [.ref a1, .ref a2, .ref a3, .int (nI (zKp ct)), .int (nI ct)])), (a1, .inl (cI, 40, .inl f1)), (a2, .inl (cI, 40, .inl f2)), (a3, .inl (cI, 40, .inl f3))] t) A) (by decide) (Nat.le_of_ble_eq_true rfl) ?_
  intro p e s m below meth c A ls hx hb hr hml hT hN hown hlocks hin hl hP hK hD hA hS
  have hl : lv_has ls 2 [(0, .ref hi), (1, .int ia)] := hl
  refine lv_iload_n hx hb d_H_keeps_0 rfl (lv_at hl 1 rfl) ?_
  refine lv_if_lt (tgt := 16) hx hb d_H_keeps_1 (by decide) (fun c1 => ?_) (fun c1 => ?_)
  · refine lv_iconst (v := 0) hx hb d_H_keeps_16 (by decide) ?_
    exact re_z (v := 0) () hx hb hr rfl hlocks (kp_k0 c1) (hP.sub [0, 1, 2, 3] rfl) hK (hD.sub [0, 1, 2, 3] (by decide) rfl) hS d_H_keeps_17
  · refine lv_iload_n hx hb d_H_keeps_4 rfl (lv_at hl 1 rfl) ?_
    refine lv_aload_n hx hb d_H_keeps_5 rfl (lv_at hl 0 rfl) ?_
    refine va_get (D := D) (ci := 0) (v := .int (nI (zKp ct))) (C := "OscillatorRow$Hits") (T := T_H) (N := 5) hx hb hT i_H hown hK hP 0 rfl rfl 3 (by decide) (hT _ k_103) (fun _ h9 => h9) rfl d_H_keeps_6 ?_
    refine lv_icmp_ge (tgt := 16) hx hb d_H_keeps_9 (by decide) (fun c9 => ?_) (fun c9 => ?_)
    · refine lv_iconst (v := 0) hx hb d_H_keeps_16 (by decide) ?_
      exact re_z (v := 0) () hx hb hr rfl hlocks (kp_k1 c1 c9) (hP.sub [0, 1, 2, 3] rfl) hK (hD.sub [0, 1, 2, 3] (by decide) rfl) hS d_H_keeps_17
    · refine lv_iconst (v := 1) hx hb d_H_keeps_12 (by decide) ?_
      refine lv_goto (tgt := 17) hx hb d_H_keeps_13 (by decide) ?_
      exact re_z (v := 1) () hx hb hr rfl hlocks (kp_k2 c1 c9 hc) (hP.sub [0, 1, 2, 3] rfl) hK (hD.sub [0, 1, 2, 3] (by decide) rfl) hS d_H_keeps_17
set_option maxHeartbeats 4000000 in
set_option maxRecDepth 100000 in
theorem c_H_note (l : Launch) (D : va_G) (cI cL cW cZ : ClassId) (hi : Nat) (a1 : Nat) (a2 : Nat) (a3 : Nat) (ct : Nat) (f1 : Nat → Int32) (f2 : Nat → Int32) (f3 : Nat → Int32) (ia : Int32) (ib : Int32) (ic : Int32) (sz : Nat) (hc : ct < 2 ^ 30) : Met l y_H_note w_H_note ({ frames := 0, cells := 0, slots := 0, locals := 0 }) (va_Pc [.ref hi, .int ia, .int ib, .int ic] (gP D vwCl (tyv cI cL cW cZ) [(hi, .inr (0, [.ref a1, .ref a2, .ref a3, .int (nI (zKp ct)), .int (nI ct)])), (a1, .inl (cI, 40, .inl f1)), (a2, .inl (cI, 40, .inl f2)), (a3, .inl (cI, 40, .inl f3))] sz)) (va_Qv (fun (u : Unit) => True) (fun u t => gB D vwCl (tyv cI cL cW cZ) (va_A [(hi, .inr (0, [.ref a1, .ref a2, .ref a3, .int (nI (zKp ct)), .int (nI ct)])), (a1, .inl (cI, 40, .inl f1)), (a2, .inl (cI, 40, .inl f2)), (a3, .inl (cI, 40, .inl f3))] sz) [(hi, .inr (0, [.ref a1, .ref a2, .ref a3, .int (nI (zKp (ct + 1))), .int (nI (ct + 1))])), (a1, .inl (cI, 40, .inl (zPut ct f1 ia))), (a2, .inl (cI, 40, .inl (zPut ct f2 ib))), (a3, .inl (cI, 40, .inl (zPut ct f3 ic)))] t) (va_A [(hi, .inr (0, [.ref a1, .ref a2, .ref a3, .int (nI (zKp ct)), .int (nI ct)])), (a1, .inl (cI, 40, .inl f1)), (a2, .inl (cI, 40, .inl f2)), (a3, .inl (cI, 40, .inl f3))] sz)) 0 0 (va_A [(hi, .inr (0, [.ref a1, .ref a2, .ref a3, .int (nI (zKp ct)), .int (nI ct)])), (a1, .inl (cI, 40, .inl f1)), (a2, .inl (cI, 40, .inl f2)), (a3, .inl (cI, 40, .inl f3))] sz) := by
  refine met_go (cc := prog_2_method_3_code) (maxL := 4) (ret := none) (QA := fun A => va_Qv (fun (u : Unit) => True) (fun u t => gB D vwCl (tyv cI cL cW cZ) A [(hi, .inr (0, [.ref a1, .ref a2, .ref a3, .int (nI (zKp (ct + 1))), .int (nI (ct + 1))])), (a1, .inl (cI, 40, .inl (zPut ct f1 ia))), (a2, .inl (cI, 40, .inl (zPut ct f2 ib))), (a3, .inl (cI, 40, .inl (zPut ct f3 ic)))] t) A) (by decide) (Nat.le_of_ble_eq_true rfl) ?_
  intro p e s m below meth c A ls hx hb hr hml hT hN hown hlocks hin hl hP hK hD hA hS
  have hl : lv_has ls 4 [(0, .ref hi), (1, .int ia), (2, .int ib), (3, .int ic)] := hl
  refine lv_aload_n hx hb d_H_note_0 rfl (lv_at hl 0 rfl) ?_
  refine lv_dup hx hb d_H_note_1 rfl ?_
  refine va_get (D := D) (ci := 0) (v := .int (nI ct)) (C := "OscillatorRow$Hits") (T := T_H) (N := 5) hx hb hT i_H hown hK hP 0 rfl rfl 4 (by decide) (hT _ k_104) (fun _ h9 => h9) rfl d_H_note_2 ?_
  refine lv_iconst (v := 1) hx hb d_H_note_5 (by decide) ?_
  refine lv_iadd hx hb d_H_note_6 ?_
  refine top_i (y := (nI (ct + 1))) (nI_1 ct) ?_
  refine va_put (D := D) (ci := 0) (v := .int (nI (ct + 1))) (ty := (.int)) (C := "OscillatorRow$Hits") (T := T_H) (N := 5) hx hb hT i_H t_H t_H_ok n_H_ok hown hK hP hD hS 0 rfl rfl 4 (by decide) (hT _ k_104) (fun _ h9 => h9) rfl (by decide +kernel) rfl rfl (Nat.le_of_ble_eq_true rfl) d_H_note_7 (fun H locs hP hD hS => ?_)
  have hP : va_P D vwCl [(hi, .inr (0, [.ref a1, .ref a2, .ref a3, .int (nI (zKp ct)), .int (nI (ct + 1))])), (a1, .inl (cI, 40, .inl f1)), (a2, .inl (cI, 40, .inl f2)), (a3, .inl (cI, 40, .inl f3))] H := hP
  have hD : va_D A [(hi, .inr (0, [.ref a1, .ref a2, .ref a3, .int (nI (zKp ct)), .int (nI (ct + 1))])), (a1, .inl (cI, 40, .inl f1)), (a2, .inl (cI, 40, .inl f2)), (a3, .inl (cI, 40, .inl f3))] := hD
  refine lv_aload_n hx hb d_H_note_10 rfl (lv_at hl 0 rfl) ?_
  refine va_get (D := D) (ci := 0) (v := .int (nI (zKp ct))) (C := "OscillatorRow$Hits") (T := T_H) (N := 5) hx hb hT i_H hown hK hP 0 rfl rfl 3 (by decide) (hT _ k_103) (fun _ h9 => h9) rfl d_H_note_11 ?_
  refine lv_bipush (v := 40) hx hb d_H_note_14 (by decide) ?_
  refine lv_icmp_ge (tgt := 59) hx hb d_H_note_16 (by decide) (fun c16 => ?_) (fun c16 => ?_)
  · have c16 := kp_ge c16
    have hP : va_P D vwCl [(hi, .inr (0, [.ref a1, .ref a2, .ref a3, .int (nI (zKp (ct + 1))), .int (nI (ct + 1))])), (a1, .inl (cI, 40, .inl f1)), (a2, .inl (cI, 40, .inl f2)), (a3, .inl (cI, 40, .inl f3))] H := by rw [kp_s c16]; exact hP
    have hD : va_D A [(hi, .inr (0, [.ref a1, .ref a2, .ref a3, .int (nI (zKp (ct + 1))), .int (nI (ct + 1))])), (a1, .inl (cI, 40, .inl f1)), (a2, .inl (cI, 40, .inl f2)), (a3, .inl (cI, 40, .inl f3))] := by rw [kp_s c16]; exact hD
    have hP : va_P D vwCl [(hi, .inr (0, [.ref a1, .ref a2, .ref a3, .int (nI (zKp (ct + 1))), .int (nI (ct + 1))])), (a1, .inl (cI, 40, .inl (zPut ct f1 ia))), (a2, .inl (cI, 40, .inl f2)), (a3, .inl (cI, 40, .inl f3))] H := by rw [zPut_ge (f := f1) (v := ia) c16]; exact hP
    have hD : va_D A [(hi, .inr (0, [.ref a1, .ref a2, .ref a3, .int (nI (zKp (ct + 1))), .int (nI (ct + 1))])), (a1, .inl (cI, 40, .inl (zPut ct f1 ia))), (a2, .inl (cI, 40, .inl f2)), (a3, .inl (cI, 40, .inl f3))] := by rw [zPut_ge (f := f1) (v := ia) c16]; exact hD
    have hP : va_P D vwCl [(hi, .inr (0, [.ref a1, .ref a2, .ref a3, .int (nI (zKp (ct + 1))), .int (nI (ct + 1))])), (a1, .inl (cI, 40, .inl (zPut ct f1 ia))), (a2, .inl (cI, 40, .inl (zPut ct f2 ib))), (a3, .inl (cI, 40, .inl f3))] H := by rw [zPut_ge (f := f2) (v := ib) c16]; exact hP
    have hD : va_D A [(hi, .inr (0, [.ref a1, .ref a2, .ref a3, .int (nI (zKp (ct + 1))), .int (nI (ct + 1))])), (a1, .inl (cI, 40, .inl (zPut ct f1 ia))), (a2, .inl (cI, 40, .inl (zPut ct f2 ib))), (a3, .inl (cI, 40, .inl f3))] := by rw [zPut_ge (f := f2) (v := ib) c16]; exact hD
    have hP : va_P D vwCl [(hi, .inr (0, [.ref a1, .ref a2, .ref a3, .int (nI (zKp (ct + 1))), .int (nI (ct + 1))])), (a1, .inl (cI, 40, .inl (zPut ct f1 ia))), (a2, .inl (cI, 40, .inl (zPut ct f2 ib))), (a3, .inl (cI, 40, .inl (zPut ct f3 ic)))] H := by rw [zPut_ge (f := f3) (v := ic) c16]; exact hP
    have hD : va_D A [(hi, .inr (0, [.ref a1, .ref a2, .ref a3, .int (nI (zKp (ct + 1))), .int (nI (ct + 1))])), (a1, .inl (cI, 40, .inl (zPut ct f1 ia))), (a2, .inl (cI, 40, .inl (zPut ct f2 ib))), (a3, .inl (cI, 40, .inl (zPut ct f3 ic)))] := by rw [zPut_ge (f := f3) (v := ic) c16]; exact hD
    exact re_v () hx hb hr hlocks trivial (hP.sub [0, 1, 2, 3] rfl) hK (hD.sub [0, 1, 2, 3] (by decide) rfl) hS d_H_note_59
  · have c16 := kp_lt c16
    have hP : va_P D vwCl [(hi, .inr (0, [.ref a1, .ref a2, .ref a3, .int (nI ct), .int (nI (ct + 1))])), (a1, .inl (cI, 40, .inl f1)), (a2, .inl (cI, 40, .inl f2)), (a3, .inl (cI, 40, .inl f3))] H := by rw [kp_id c16]; exact hP
    have hD : va_D A [(hi, .inr (0, [.ref a1, .ref a2, .ref a3, .int (nI ct), .int (nI (ct + 1))])), (a1, .inl (cI, 40, .inl f1)), (a2, .inl (cI, 40, .inl f2)), (a3, .inl (cI, 40, .inl f3))] := by rw [kp_id c16]; exact hD
    refine lv_aload_n hx hb d_H_note_19 rfl (lv_at hl 0 rfl) ?_
    refine va_get (D := D) (ci := 0) (v := .ref a1) (C := "OscillatorRow$Hits") (T := T_H) (N := 5) hx hb hT i_H hown hK hP 0 rfl rfl 0 (by decide) (hT _ k_97) (fun _ h9 => h9) rfl d_H_note_20 ?_
    refine lv_aload_n hx hb d_H_note_23 rfl (lv_at hl 0 rfl) ?_
    refine va_get (D := D) (ci := 0) (v := .int (nI ct)) (C := "OscillatorRow$Hits") (T := T_H) (N := 5) hx hb hT i_H hown hK hP 0 rfl rfl 3 (by decide) (hT _ k_103) (fun _ h9 => h9) rfl d_H_note_24 ?_
    refine lv_iload_n hx hb d_H_note_27 rfl (lv_at hl 1 rfl) ?_
    refine ra_iast (j := ct) hx hb hK hP hD hS 1 0 rfl rfl (by omega) (by omega) d_H_note_28 (fun H locs hP hD hS => ?_)
    have hP : va_P D vwCl [(hi, .inr (0, [.ref a1, .ref a2, .ref a3, .int (nI ct), .int (nI (ct + 1))])), (a1, .inl (cI, 40, .inl (upd f1 ct ia))), (a2, .inl (cI, 40, .inl f2)), (a3, .inl (cI, 40, .inl f3))] H := hP
    have hD : va_D A [(hi, .inr (0, [.ref a1, .ref a2, .ref a3, .int (nI ct), .int (nI (ct + 1))])), (a1, .inl (cI, 40, .inl (upd f1 ct ia))), (a2, .inl (cI, 40, .inl f2)), (a3, .inl (cI, 40, .inl f3))] := hD
    refine lv_aload_n hx hb d_H_note_29 rfl (lv_at hl 0 rfl) ?_
    refine va_get (D := D) (ci := 0) (v := .ref a2) (C := "OscillatorRow$Hits") (T := T_H) (N := 5) hx hb hT i_H hown hK hP 0 rfl rfl 1 (by decide) (hT _ k_99) (fun _ h9 => h9) rfl d_H_note_30 ?_
    refine lv_aload_n hx hb d_H_note_33 rfl (lv_at hl 0 rfl) ?_
    refine va_get (D := D) (ci := 0) (v := .int (nI ct)) (C := "OscillatorRow$Hits") (T := T_H) (N := 5) hx hb hT i_H hown hK hP 0 rfl rfl 3 (by decide) (hT _ k_103) (fun _ h9 => h9) rfl d_H_note_34 ?_
    refine lv_iload_n hx hb d_H_note_37 rfl (lv_at hl 2 rfl) ?_
    refine ra_iast (j := ct) hx hb hK hP hD hS 2 0 rfl rfl (by omega) (by omega) d_H_note_38 (fun H locs hP hD hS => ?_)
    have hP : va_P D vwCl [(hi, .inr (0, [.ref a1, .ref a2, .ref a3, .int (nI ct), .int (nI (ct + 1))])), (a1, .inl (cI, 40, .inl (upd f1 ct ia))), (a2, .inl (cI, 40, .inl (upd f2 ct ib))), (a3, .inl (cI, 40, .inl f3))] H := hP
    have hD : va_D A [(hi, .inr (0, [.ref a1, .ref a2, .ref a3, .int (nI ct), .int (nI (ct + 1))])), (a1, .inl (cI, 40, .inl (upd f1 ct ia))), (a2, .inl (cI, 40, .inl (upd f2 ct ib))), (a3, .inl (cI, 40, .inl f3))] := hD
    refine lv_aload_n hx hb d_H_note_39 rfl (lv_at hl 0 rfl) ?_
    refine va_get (D := D) (ci := 0) (v := .ref a3) (C := "OscillatorRow$Hits") (T := T_H) (N := 5) hx hb hT i_H hown hK hP 0 rfl rfl 2 (by decide) (hT _ k_101) (fun _ h9 => h9) rfl d_H_note_40 ?_
    refine lv_aload_n hx hb d_H_note_43 rfl (lv_at hl 0 rfl) ?_
    refine va_get (D := D) (ci := 0) (v := .int (nI ct)) (C := "OscillatorRow$Hits") (T := T_H) (N := 5) hx hb hT i_H hown hK hP 0 rfl rfl 3 (by decide) (hT _ k_103) (fun _ h9 => h9) rfl d_H_note_44 ?_
    refine lv_iload_n hx hb d_H_note_47 rfl (lv_at hl 3 rfl) ?_
    refine ra_iast (j := ct) hx hb hK hP hD hS 3 0 rfl rfl (by omega) (by omega) d_H_note_48 (fun H locs hP hD hS => ?_)
    have hP : va_P D vwCl [(hi, .inr (0, [.ref a1, .ref a2, .ref a3, .int (nI ct), .int (nI (ct + 1))])), (a1, .inl (cI, 40, .inl (upd f1 ct ia))), (a2, .inl (cI, 40, .inl (upd f2 ct ib))), (a3, .inl (cI, 40, .inl (upd f3 ct ic)))] H := hP
    have hD : va_D A [(hi, .inr (0, [.ref a1, .ref a2, .ref a3, .int (nI ct), .int (nI (ct + 1))])), (a1, .inl (cI, 40, .inl (upd f1 ct ia))), (a2, .inl (cI, 40, .inl (upd f2 ct ib))), (a3, .inl (cI, 40, .inl (upd f3 ct ic)))] := hD
    refine lv_aload_n hx hb d_H_note_49 rfl (lv_at hl 0 rfl) ?_
    refine lv_dup hx hb d_H_note_50 rfl ?_
    refine va_get (D := D) (ci := 0) (v := .int (nI ct)) (C := "OscillatorRow$Hits") (T := T_H) (N := 5) hx hb hT i_H hown hK hP 0 rfl rfl 3 (by decide) (hT _ k_103) (fun _ h9 => h9) rfl d_H_note_51 ?_
    refine lv_iconst (v := 1) hx hb d_H_note_54 (by decide) ?_
    refine lv_iadd hx hb d_H_note_55 ?_
    refine top_i (y := (nI (zKp (ct + 1)))) (kp_1 c16) ?_
    refine va_put (D := D) (ci := 0) (v := .int (nI (zKp (ct + 1)))) (ty := (.int)) (C := "OscillatorRow$Hits") (T := T_H) (N := 5) hx hb hT i_H t_H t_H_ok n_H_ok hown hK hP hD hS 0 rfl rfl 3 (by decide) (hT _ k_103) (fun _ h9 => h9) rfl (by decide +kernel) rfl rfl (Nat.le_of_ble_eq_true rfl) d_H_note_56 (fun H locs hP hD hS => ?_)
    have hP : va_P D vwCl [(hi, .inr (0, [.ref a1, .ref a2, .ref a3, .int (nI (zKp (ct + 1))), .int (nI (ct + 1))])), (a1, .inl (cI, 40, .inl (upd f1 ct ia))), (a2, .inl (cI, 40, .inl (upd f2 ct ib))), (a3, .inl (cI, 40, .inl (upd f3 ct ic)))] H := hP
    have hD : va_D A [(hi, .inr (0, [.ref a1, .ref a2, .ref a3, .int (nI (zKp (ct + 1))), .int (nI (ct + 1))])), (a1, .inl (cI, 40, .inl (upd f1 ct ia))), (a2, .inl (cI, 40, .inl (upd f2 ct ib))), (a3, .inl (cI, 40, .inl (upd f3 ct ic)))] := hD
    have hP : va_P D vwCl [(hi, .inr (0, [.ref a1, .ref a2, .ref a3, .int (nI (zKp (ct + 1))), .int (nI (ct + 1))])), (a1, .inl (cI, 40, .inl (zPut ct f1 ia))), (a2, .inl (cI, 40, .inl (upd f2 ct ib))), (a3, .inl (cI, 40, .inl (upd f3 ct ic)))] H := by rw [zPut_lt (f := f1) (v := ia) c16]; exact hP
    have hD : va_D A [(hi, .inr (0, [.ref a1, .ref a2, .ref a3, .int (nI (zKp (ct + 1))), .int (nI (ct + 1))])), (a1, .inl (cI, 40, .inl (zPut ct f1 ia))), (a2, .inl (cI, 40, .inl (upd f2 ct ib))), (a3, .inl (cI, 40, .inl (upd f3 ct ic)))] := by rw [zPut_lt (f := f1) (v := ia) c16]; exact hD
    have hP : va_P D vwCl [(hi, .inr (0, [.ref a1, .ref a2, .ref a3, .int (nI (zKp (ct + 1))), .int (nI (ct + 1))])), (a1, .inl (cI, 40, .inl (zPut ct f1 ia))), (a2, .inl (cI, 40, .inl (zPut ct f2 ib))), (a3, .inl (cI, 40, .inl (upd f3 ct ic)))] H := by rw [zPut_lt (f := f2) (v := ib) c16]; exact hP
    have hD : va_D A [(hi, .inr (0, [.ref a1, .ref a2, .ref a3, .int (nI (zKp (ct + 1))), .int (nI (ct + 1))])), (a1, .inl (cI, 40, .inl (zPut ct f1 ia))), (a2, .inl (cI, 40, .inl (zPut ct f2 ib))), (a3, .inl (cI, 40, .inl (upd f3 ct ic)))] := by rw [zPut_lt (f := f2) (v := ib) c16]; exact hD
    have hP : va_P D vwCl [(hi, .inr (0, [.ref a1, .ref a2, .ref a3, .int (nI (zKp (ct + 1))), .int (nI (ct + 1))])), (a1, .inl (cI, 40, .inl (zPut ct f1 ia))), (a2, .inl (cI, 40, .inl (zPut ct f2 ib))), (a3, .inl (cI, 40, .inl (zPut ct f3 ic)))] H := by rw [zPut_lt (f := f3) (v := ic) c16]; exact hP
    have hD : va_D A [(hi, .inr (0, [.ref a1, .ref a2, .ref a3, .int (nI (zKp (ct + 1))), .int (nI (ct + 1))])), (a1, .inl (cI, 40, .inl (zPut ct f1 ia))), (a2, .inl (cI, 40, .inl (zPut ct f2 ib))), (a3, .inl (cI, 40, .inl (zPut ct f3 ic)))] := by rw [zPut_lt (f := f3) (v := ic) c16]; exact hD
    exact re_v () hx hb hr hlocks trivial (hP.sub [0, 1, 2, 3] rfl) hK (hD.sub [0, 1, 2, 3] (by decide) rfl) hS d_H_note_59
set_option maxHeartbeats 4000000 in
set_option maxRecDepth 100000 in
theorem c_H_forget (l : Launch) (D : va_G) (cI cL cW cZ : ClassId) (hi : Nat) (a1 : Nat) (a2 : Nat) (a3 : Nat) (ct : Nat) (f1 : Nat → Int32) (f2 : Nat → Int32) (f3 : Nat → Int32) (sz : Nat) : Met l y_H_forget w_H_forget ({ frames := 0, cells := 0, slots := 0, locals := 0 }) (va_Pc [.ref hi] (gP D vwCl (tyv cI cL cW cZ) [(hi, .inr (0, [.ref a1, .ref a2, .ref a3, .int (nI (zKp ct)), .int (nI ct)])), (a1, .inl (cI, 40, .inl f1)), (a2, .inl (cI, 40, .inl f2)), (a3, .inl (cI, 40, .inl f3))] sz)) (va_Qv (fun (u : Unit) => True) (fun u t => gB D vwCl (tyv cI cL cW cZ) (va_A [(hi, .inr (0, [.ref a1, .ref a2, .ref a3, .int (nI (zKp ct)), .int (nI ct)])), (a1, .inl (cI, 40, .inl f1)), (a2, .inl (cI, 40, .inl f2)), (a3, .inl (cI, 40, .inl f3))] sz) [(hi, .inr (0, [.ref a1, .ref a2, .ref a3, .int (nI (zKp 0)), .int (nI 0)])), (a1, .inl (cI, 40, .inl f1)), (a2, .inl (cI, 40, .inl f2)), (a3, .inl (cI, 40, .inl f3))] t) (va_A [(hi, .inr (0, [.ref a1, .ref a2, .ref a3, .int (nI (zKp ct)), .int (nI ct)])), (a1, .inl (cI, 40, .inl f1)), (a2, .inl (cI, 40, .inl f2)), (a3, .inl (cI, 40, .inl f3))] sz)) 0 0 (va_A [(hi, .inr (0, [.ref a1, .ref a2, .ref a3, .int (nI (zKp ct)), .int (nI ct)])), (a1, .inl (cI, 40, .inl f1)), (a2, .inl (cI, 40, .inl f2)), (a3, .inl (cI, 40, .inl f3))] sz) := by
  refine met_go (cc := prog_2_method_4_code) (maxL := 1) (ret := none) (QA := fun A => va_Qv (fun (u : Unit) => True) (fun u t => gB D vwCl (tyv cI cL cW cZ) A [(hi, .inr (0, [.ref a1, .ref a2, .ref a3, .int (nI (zKp 0)), .int (nI 0)])), (a1, .inl (cI, 40, .inl f1)), (a2, .inl (cI, 40, .inl f2)), (a3, .inl (cI, 40, .inl f3))] t) A) (by decide) (Nat.le_of_ble_eq_true rfl) ?_
  intro p e s m below meth c A ls hx hb hr hml hT hN hown hlocks hin hl hP hK hD hA hS
  have hl : lv_has ls 1 [(0, .ref hi)] := hl
  refine lv_aload_n hx hb d_H_forget_0 rfl (lv_at hl 0 rfl) ?_
  refine lv_iconst (v := nI (zKp 0)) hx hb d_H_forget_1 rfl ?_
  refine va_put (D := D) (ci := 0) (v := .int (nI (zKp 0))) (ty := (.int)) (C := "OscillatorRow$Hits") (T := T_H) (N := 5) hx hb hT i_H t_H t_H_ok n_H_ok hown hK hP hD hS 0 rfl rfl 3 (by decide) (hT _ k_103) (fun _ h9 => h9) rfl (by decide +kernel) rfl rfl (Nat.le_of_ble_eq_true rfl) d_H_forget_2 (fun H locs hP hD hS => ?_)
  have hP : va_P D vwCl [(hi, .inr (0, [.ref a1, .ref a2, .ref a3, .int (nI (zKp 0)), .int (nI ct)])), (a1, .inl (cI, 40, .inl f1)), (a2, .inl (cI, 40, .inl f2)), (a3, .inl (cI, 40, .inl f3))] H := hP
  have hD : va_D A [(hi, .inr (0, [.ref a1, .ref a2, .ref a3, .int (nI (zKp 0)), .int (nI ct)])), (a1, .inl (cI, 40, .inl f1)), (a2, .inl (cI, 40, .inl f2)), (a3, .inl (cI, 40, .inl f3))] := hD
  refine lv_aload_n hx hb d_H_forget_5 rfl (lv_at hl 0 rfl) ?_
  refine lv_iconst (v := nI 0) hx hb d_H_forget_6 (by decide) ?_
  refine va_put (D := D) (ci := 0) (v := .int (nI 0)) (ty := (.int)) (C := "OscillatorRow$Hits") (T := T_H) (N := 5) hx hb hT i_H t_H t_H_ok n_H_ok hown hK hP hD hS 0 rfl rfl 4 (by decide) (hT _ k_104) (fun _ h9 => h9) rfl (by decide +kernel) rfl rfl (Nat.le_of_ble_eq_true rfl) d_H_forget_7 (fun H locs hP hD hS => ?_)
  have hP : va_P D vwCl [(hi, .inr (0, [.ref a1, .ref a2, .ref a3, .int (nI (zKp 0)), .int (nI 0)])), (a1, .inl (cI, 40, .inl f1)), (a2, .inl (cI, 40, .inl f2)), (a3, .inl (cI, 40, .inl f3))] H := hP
  have hD : va_D A [(hi, .inr (0, [.ref a1, .ref a2, .ref a3, .int (nI (zKp 0)), .int (nI 0)])), (a1, .inl (cI, 40, .inl f1)), (a2, .inl (cI, 40, .inl f2)), (a3, .inl (cI, 40, .inl f3))] := hD
  exact re_v () hx hb hr hlocks trivial (hP.sub [0, 1, 2, 3] rfl) hK (hD.sub [0, 1, 2, 3] (by decide) rfl) hS d_H_forget_10
set_option maxHeartbeats 4000000 in
set_option maxRecDepth 100000 in
theorem c_S_init (l : Launch) (D : va_G) (cI cL cW cZ : ClassId) (sp : Nat) (n : Nat) (sz : Nat) (hn : n ≤ 4) : Met l y_S_init w_S_init ({ frames := 1, cells := 4, slots := 16, locals := 12 }) (va_Pc [.ref sp, .int (nI n)] (gP D vwCl (tyv cI cL cW cZ) [(sp, .inr (2, [.int 0, .null, .null, .null, .null]))] sz)) (va_Qv (fun (u : Nat × Nat × Nat × Nat) => True) (fun u t => gB D vwCl (tyv cI cL cW cZ) (va_A [(sp, .inr (2, [.int 0, .null, .null, .null, .null]))] sz) [(sp, .inr (2, [.int (nI n), .ref u.1, .ref u.2.1, .ref u.2.2.1, .ref u.2.2.2])), (u.1, .inl (cI, n, .inl (fun _ => 0))), (u.2.1, .inl (cI, n, .inl (fun _ => 0))), (u.2.2.1, .inl (cI, n, .inl (fun _ => 0))), (u.2.2.2, .inl (cI, n, .inl (fun _ => 0)))] t) (va_A [(sp, .inr (2, [.int 0, .null, .null, .null, .null]))] sz)) 4 16 (va_A [(sp, .inr (2, [.int 0, .null, .null, .null, .null]))] sz) := by
  refine met_go (cc := prog_4_method_1_code) (maxL := 2) (ret := none) (QA := fun A => va_Qv (fun (u : Nat × Nat × Nat × Nat) => True) (fun u t => gB D vwCl (tyv cI cL cW cZ) A [(sp, .inr (2, [.int (nI n), .ref u.1, .ref u.2.1, .ref u.2.2.1, .ref u.2.2.2])), (u.1, .inl (cI, n, .inl (fun _ => 0))), (u.2.1, .inl (cI, n, .inl (fun _ => 0))), (u.2.2.1, .inl (cI, n, .inl (fun _ => 0))), (u.2.2.2, .inl (cI, n, .inl (fun _ => 0)))] t) A) (by decide) (Nat.le_of_ble_eq_true rfl) ?_
  intro p e s m below meth c A ls hx hb hr hml hT hN hown hlocks hin hl hP hK hD hA hS
  have hl : lv_has ls 2 [(0, .ref sp), (1, .int (nI n))] := hl
  refine lv_aload_n hx hb d_S_init_0 rfl (lv_at hl 0 rfl) ?_
  refine W.objInit hx hb hown (hT _ k_28) (hT _ k_15) (hT _ k_16) rfl (by rw [hml]; exact hl.1) rfl d_S_init_1 (Nat.le_of_ble_eq_true rfl) (Nat.le_of_ble_eq_true rfl) ?_
  refine W.eq (g2 := F0 m 4 ls []) rfl ?_
  refine lv_aload_n hx hb d_S_init_4 rfl (lv_at hl 0 rfl) ?_
  refine lv_iload_n hx hb d_S_init_5 rfl (lv_at hl 1 rfl) ?_
  refine va_putF (D := D) (ci := 2) (v := .int (nI n)) (ty := (.int)) (C := "OscillatorRow$Springs") (T := T_S) (N := 5) hx hb hT i_S t_S t_S_ok n_S_ok hown hK hP hD hS 0 rfl rfl 0 (by decide) (hT _ k_29) (fun _ h9 => h9) rfl hin rfl (by decide +kernel) rfl rfl (Nat.le_of_ble_eq_true rfl) d_S_init_6 (fun H locs hP hD hS => ?_)
  have hP : va_P D vwCl [(sp, .inr (2, [.int (nI n), .null, .null, .null, .null]))] H := hP
  have hD : va_D A [(sp, .inr (2, [.int (nI n), .null, .null, .null, .null]))] := hD
  refine lv_aload_n hx hb d_S_init_9 rfl (lv_at hl 0 rfl) ?_
  refine lv_iload_n hx hb d_S_init_10 rfl (lv_at hl 1 rfl) ?_
  refine va_newa (atype := .int) (a0 := (n, .inl (fun _ => 0))) (ty := .int) (N' := n) hx hb (hT _ k_49) rfl hK hP hD hS hA (fun _ => rfl) (nI_pos (by omega)) (nI_clamp (by omega)) (Nat.le_trans (Nat.mul_le_mul_right _ (show n ≤ 4 by omega)) (by decide)) (show 0 + 1 ≤ 4 by omega) (show 0 + n ≤ 16 by omega) d_S_init_11 (fun b1 cA H hK9 hP hD hS => ?_)
  obtain rfl : cI = cA := kk_one (i := 0) (j := 4) hK9 rfl rfl
  have hP : va_P D vwCl [(sp, .inr (2, [.int (nI n), .null, .null, .null, .null])), (b1, .inl (cI, n, .inl (fun _ => 0)))] H := hP
  have hD : va_D A [(sp, .inr (2, [.int (nI n), .null, .null, .null, .null])), (b1, .inl (cI, n, .inl (fun _ => 0)))] := hD
  refine W.widen (k := 1) (n := 4) (by omega) (by omega) ?_
  refine va_putF (D := D) (ci := 2) (v := .ref b1) (ty := (.array .int)) (C := "OscillatorRow$Springs") (T := T_S) (N := 5) hx hb hT i_S t_S t_S_ok n_S_ok hown hK hP hD hS 0 rfl rfl 1 (by decide) (hT _ k_30) (fun _ h9 => h9) rfl hin rfl (by decide +kernel) rfl rfl (Nat.le_of_ble_eq_true rfl) d_S_init_13 (fun H locs hP hD hS => ?_)
  have hP : va_P D vwCl [(sp, .inr (2, [.int (nI n), .ref b1, .null, .null, .null])), (b1, .inl (cI, n, .inl (fun _ => 0)))] H := hP
  have hD : va_D A [(sp, .inr (2, [.int (nI n), .ref b1, .null, .null, .null])), (b1, .inl (cI, n, .inl (fun _ => 0)))] := hD
  refine lv_aload_n hx hb d_S_init_16 rfl (lv_at hl 0 rfl) ?_
  refine lv_iload_n hx hb d_S_init_17 rfl (lv_at hl 1 rfl) ?_
  refine va_newa (atype := .int) (a0 := (n, .inl (fun _ => 0))) (ty := .int) (N' := n) hx hb (hT _ k_49) rfl hK hP hD hS hA (fun _ => rfl) (nI_pos (by omega)) (nI_clamp (by omega)) (Nat.le_trans (Nat.mul_le_mul_right _ (show n ≤ 4 by omega)) (by decide)) (show 1 + 1 ≤ 4 by omega) (show 4 + n ≤ 16 by omega) d_S_init_18 (fun b2 cA H hK9 hP hD hS => ?_)
  obtain rfl : cI = cA := kk_one (i := 0) (j := 4) hK9 rfl rfl
  have hP : va_P D vwCl [(sp, .inr (2, [.int (nI n), .ref b1, .null, .null, .null])), (b1, .inl (cI, n, .inl (fun _ => 0))), (b2, .inl (cI, n, .inl (fun _ => 0)))] H := hP
  have hD : va_D A [(sp, .inr (2, [.int (nI n), .ref b1, .null, .null, .null])), (b1, .inl (cI, n, .inl (fun _ => 0))), (b2, .inl (cI, n, .inl (fun _ => 0)))] := hD
  refine W.widen (k := 2) (n := 8) (by omega) (by omega) ?_
  refine va_putF (D := D) (ci := 2) (v := .ref b2) (ty := (.array .int)) (C := "OscillatorRow$Springs") (T := T_S) (N := 5) hx hb hT i_S t_S t_S_ok n_S_ok hown hK hP hD hS 0 rfl rfl 2 (by decide) (hT _ k_32) (fun _ h9 => h9) rfl hin rfl (by decide +kernel) rfl rfl (Nat.le_of_ble_eq_true rfl) d_S_init_20 (fun H locs hP hD hS => ?_)
  have hP : va_P D vwCl [(sp, .inr (2, [.int (nI n), .ref b1, .ref b2, .null, .null])), (b1, .inl (cI, n, .inl (fun _ => 0))), (b2, .inl (cI, n, .inl (fun _ => 0)))] H := hP
  have hD : va_D A [(sp, .inr (2, [.int (nI n), .ref b1, .ref b2, .null, .null])), (b1, .inl (cI, n, .inl (fun _ => 0))), (b2, .inl (cI, n, .inl (fun _ => 0)))] := hD
  refine lv_aload_n hx hb d_S_init_23 rfl (lv_at hl 0 rfl) ?_
  refine lv_iload_n hx hb d_S_init_24 rfl (lv_at hl 1 rfl) ?_
  refine va_newa (atype := .int) (a0 := (n, .inl (fun _ => 0))) (ty := .int) (N' := n) hx hb (hT _ k_49) rfl hK hP hD hS hA (fun _ => rfl) (nI_pos (by omega)) (nI_clamp (by omega)) (Nat.le_trans (Nat.mul_le_mul_right _ (show n ≤ 4 by omega)) (by decide)) (show 2 + 1 ≤ 4 by omega) (show 8 + n ≤ 16 by omega) d_S_init_25 (fun b3 cA H hK9 hP hD hS => ?_)
  obtain rfl : cI = cA := kk_one (i := 0) (j := 4) hK9 rfl rfl
  have hP : va_P D vwCl [(sp, .inr (2, [.int (nI n), .ref b1, .ref b2, .null, .null])), (b1, .inl (cI, n, .inl (fun _ => 0))), (b2, .inl (cI, n, .inl (fun _ => 0))), (b3, .inl (cI, n, .inl (fun _ => 0)))] H := hP
  have hD : va_D A [(sp, .inr (2, [.int (nI n), .ref b1, .ref b2, .null, .null])), (b1, .inl (cI, n, .inl (fun _ => 0))), (b2, .inl (cI, n, .inl (fun _ => 0))), (b3, .inl (cI, n, .inl (fun _ => 0)))] := hD
  refine W.widen (k := 3) (n := 12) (by omega) (by omega) ?_
  refine va_putF (D := D) (ci := 2) (v := .ref b3) (ty := (.array .int)) (C := "OscillatorRow$Springs") (T := T_S) (N := 5) hx hb hT i_S t_S t_S_ok n_S_ok hown hK hP hD hS 0 rfl rfl 3 (by decide) (hT _ k_34) (fun _ h9 => h9) rfl hin rfl (by decide +kernel) rfl rfl (Nat.le_of_ble_eq_true rfl) d_S_init_27 (fun H locs hP hD hS => ?_)
  have hP : va_P D vwCl [(sp, .inr (2, [.int (nI n), .ref b1, .ref b2, .ref b3, .null])), (b1, .inl (cI, n, .inl (fun _ => 0))), (b2, .inl (cI, n, .inl (fun _ => 0))), (b3, .inl (cI, n, .inl (fun _ => 0)))] H := hP
  have hD : va_D A [(sp, .inr (2, [.int (nI n), .ref b1, .ref b2, .ref b3, .null])), (b1, .inl (cI, n, .inl (fun _ => 0))), (b2, .inl (cI, n, .inl (fun _ => 0))), (b3, .inl (cI, n, .inl (fun _ => 0)))] := hD
  refine lv_aload_n hx hb d_S_init_30 rfl (lv_at hl 0 rfl) ?_
  refine lv_iload_n hx hb d_S_init_31 rfl (lv_at hl 1 rfl) ?_
  refine va_newa (atype := .int) (a0 := (n, .inl (fun _ => 0))) (ty := .int) (N' := n) hx hb (hT _ k_49) rfl hK hP hD hS hA (fun _ => rfl) (nI_pos (by omega)) (nI_clamp (by omega)) (Nat.le_trans (Nat.mul_le_mul_right _ (show n ≤ 4 by omega)) (by decide)) (show 3 + 1 ≤ 4 by omega) (show 12 + n ≤ 16 by omega) d_S_init_32 (fun b4 cA H hK9 hP hD hS => ?_)
  obtain rfl : cI = cA := kk_one (i := 0) (j := 4) hK9 rfl rfl
  have hP : va_P D vwCl [(sp, .inr (2, [.int (nI n), .ref b1, .ref b2, .ref b3, .null])), (b1, .inl (cI, n, .inl (fun _ => 0))), (b2, .inl (cI, n, .inl (fun _ => 0))), (b3, .inl (cI, n, .inl (fun _ => 0))), (b4, .inl (cI, n, .inl (fun _ => 0)))] H := hP
  have hD : va_D A [(sp, .inr (2, [.int (nI n), .ref b1, .ref b2, .ref b3, .null])), (b1, .inl (cI, n, .inl (fun _ => 0))), (b2, .inl (cI, n, .inl (fun _ => 0))), (b3, .inl (cI, n, .inl (fun _ => 0))), (b4, .inl (cI, n, .inl (fun _ => 0)))] := hD
  refine W.widen (k := 4) (n := 16) (by omega) (by omega) ?_
  refine va_putF (D := D) (ci := 2) (v := .ref b4) (ty := (.array .int)) (C := "OscillatorRow$Springs") (T := T_S) (N := 5) hx hb hT i_S t_S t_S_ok n_S_ok hown hK hP hD hS 0 rfl rfl 4 (by decide) (hT _ k_36) (fun _ h9 => h9) rfl hin rfl (by decide +kernel) rfl rfl (Nat.le_of_ble_eq_true rfl) d_S_init_34 (fun H locs hP hD hS => ?_)
  have hP : va_P D vwCl [(sp, .inr (2, [.int (nI n), .ref b1, .ref b2, .ref b3, .ref b4])), (b1, .inl (cI, n, .inl (fun _ => 0))), (b2, .inl (cI, n, .inl (fun _ => 0))), (b3, .inl (cI, n, .inl (fun _ => 0))), (b4, .inl (cI, n, .inl (fun _ => 0)))] H := hP
  have hD : va_D A [(sp, .inr (2, [.int (nI n), .ref b1, .ref b2, .ref b3, .ref b4])), (b1, .inl (cI, n, .inl (fun _ => 0))), (b2, .inl (cI, n, .inl (fun _ => 0))), (b3, .inl (cI, n, .inl (fun _ => 0))), (b4, .inl (cI, n, .inl (fun _ => 0)))] := hD
  refine W.widen (k := 4) (n := 16) (by omega) (by omega) ?_
  exact re_v (b1, b2, b3, b4) hx hb hr hlocks trivial (hP.sub [0, 1, 2, 3, 4] rfl) hK (hD.sub [0, 1, 2, 3, 4] (by decide) rfl) hS d_S_init_37
set_option maxHeartbeats 4000000 in
set_option maxRecDepth 100000 in
theorem c_M_init (l : Launch) (D : va_G) (cI cL cW cZ : ClassId) (mo : Nat) (n : Nat) (sz : Nat) (hn : n ≤ 4) : Met l y_M_init w_M_init ({ frames := 1, cells := 2, slots := 8, locals := 12 }) (va_Pc [.ref mo, .int (nI n)] (gP D vwCl (tyv cI cL cW cZ) [(mo, .inr (1, [.null, .null]))] sz)) (va_Qv (fun (u : Nat × Nat) => True) (fun u t => gB D vwCl (tyv cI cL cW cZ) (va_A [(mo, .inr (1, [.null, .null]))] sz) [(mo, .inr (1, [.ref u.1, .ref u.2])), (u.1, .inl (cL, n, .inr (.inl (fun _ => 0)))), (u.2, .inl (cL, n, .inr (.inl (fun _ => 0))))] t) (va_A [(mo, .inr (1, [.null, .null]))] sz)) 2 8 (va_A [(mo, .inr (1, [.null, .null]))] sz) := by
  refine met_go (cc := prog_3_method_1_code) (maxL := 2) (ret := none) (QA := fun A => va_Qv (fun (u : Nat × Nat) => True) (fun u t => gB D vwCl (tyv cI cL cW cZ) A [(mo, .inr (1, [.ref u.1, .ref u.2])), (u.1, .inl (cL, n, .inr (.inl (fun _ => 0)))), (u.2, .inl (cL, n, .inr (.inl (fun _ => 0))))] t) A) (by decide) (Nat.le_of_ble_eq_true rfl) ?_
  intro p e s m below meth c A ls hx hb hr hml hT hN hown hlocks hin hl hP hK hD hA hS
  have hl : lv_has ls 2 [(0, .ref mo), (1, .int (nI n))] := hl
  refine lv_aload_n hx hb d_M_init_0 rfl (lv_at hl 0 rfl) ?_
  refine W.objInit hx hb hown (hT _ k_55) (hT _ k_15) (hT _ k_16) rfl (by rw [hml]; exact hl.1) rfl d_M_init_1 (Nat.le_of_ble_eq_true rfl) (Nat.le_of_ble_eq_true rfl) ?_
  refine W.eq (g2 := F0 m 4 ls []) rfl ?_
  refine lv_aload_n hx hb d_M_init_4 rfl (lv_at hl 0 rfl) ?_
  refine lv_iload_n hx hb d_M_init_5 rfl (lv_at hl 1 rfl) ?_
  refine va_newa (atype := .long) (a0 := (n, .inr (.inl (fun _ => 0)))) (ty := .long) (N' := n) hx hb (hT _ k_67) rfl hK hP hD hS hA (fun _ => rfl) (nI_pos (by omega)) (nI_clamp (by omega)) (Nat.le_trans (Nat.mul_le_mul_right _ (show n ≤ 4 by omega)) (by decide)) (show 0 + 1 ≤ 2 by omega) (show 0 + n ≤ 8 by omega) d_M_init_6 (fun b1 cA H hK9 hP hD hS => ?_)
  obtain rfl : cL = cA := kk_one (i := 1) (j := 4) hK9 rfl rfl
  have hP : va_P D vwCl [(mo, .inr (1, [.null, .null])), (b1, .inl (cL, n, .inr (.inl (fun _ => 0))))] H := hP
  have hD : va_D A [(mo, .inr (1, [.null, .null])), (b1, .inl (cL, n, .inr (.inl (fun _ => 0))))] := hD
  refine W.widen (k := 1) (n := 4) (by omega) (by omega) ?_
  refine va_putF (D := D) (ci := 1) (v := .ref b1) (ty := (.array .long)) (C := "OscillatorRow$Motion") (T := T_M) (N := 2) hx hb hT i_M t_M t_M_ok n_M_ok hown hK hP hD hS 0 rfl rfl 0 (by decide) (hT _ k_56) (fun _ h9 => h9) rfl hin rfl (by decide +kernel) rfl rfl (Nat.le_of_ble_eq_true rfl) d_M_init_8 (fun H locs hP hD hS => ?_)
  have hP : va_P D vwCl [(mo, .inr (1, [.ref b1, .null])), (b1, .inl (cL, n, .inr (.inl (fun _ => 0))))] H := hP
  have hD : va_D A [(mo, .inr (1, [.ref b1, .null])), (b1, .inl (cL, n, .inr (.inl (fun _ => 0))))] := hD
  refine lv_aload_n hx hb d_M_init_11 rfl (lv_at hl 0 rfl) ?_
  refine lv_iload_n hx hb d_M_init_12 rfl (lv_at hl 1 rfl) ?_
  refine va_newa (atype := .long) (a0 := (n, .inr (.inl (fun _ => 0)))) (ty := .long) (N' := n) hx hb (hT _ k_67) rfl hK hP hD hS hA (fun _ => rfl) (nI_pos (by omega)) (nI_clamp (by omega)) (Nat.le_trans (Nat.mul_le_mul_right _ (show n ≤ 4 by omega)) (by decide)) (show 1 + 1 ≤ 2 by omega) (show 4 + n ≤ 8 by omega) d_M_init_13 (fun b2 cA H hK9 hP hD hS => ?_)
  obtain rfl : cL = cA := kk_one (i := 1) (j := 4) hK9 rfl rfl
  have hP : va_P D vwCl [(mo, .inr (1, [.ref b1, .null])), (b1, .inl (cL, n, .inr (.inl (fun _ => 0)))), (b2, .inl (cL, n, .inr (.inl (fun _ => 0))))] H := hP
  have hD : va_D A [(mo, .inr (1, [.ref b1, .null])), (b1, .inl (cL, n, .inr (.inl (fun _ => 0)))), (b2, .inl (cL, n, .inr (.inl (fun _ => 0))))] := hD
  refine W.widen (k := 2) (n := 8) (by omega) (by omega) ?_
  refine va_putF (D := D) (ci := 1) (v := .ref b2) (ty := (.array .long)) (C := "OscillatorRow$Motion") (T := T_M) (N := 2) hx hb hT i_M t_M t_M_ok n_M_ok hown hK hP hD hS 0 rfl rfl 1 (by decide) (hT _ k_59) (fun _ h9 => h9) rfl hin rfl (by decide +kernel) rfl rfl (Nat.le_of_ble_eq_true rfl) d_M_init_15 (fun H locs hP hD hS => ?_)
  have hP : va_P D vwCl [(mo, .inr (1, [.ref b1, .ref b2])), (b1, .inl (cL, n, .inr (.inl (fun _ => 0)))), (b2, .inl (cL, n, .inr (.inl (fun _ => 0))))] H := hP
  have hD : va_D A [(mo, .inr (1, [.ref b1, .ref b2])), (b1, .inl (cL, n, .inr (.inl (fun _ => 0)))), (b2, .inl (cL, n, .inr (.inl (fun _ => 0))))] := hD
  refine W.widen (k := 2) (n := 8) (by omega) (by omega) ?_
  exact re_v (b1, b2) hx hb hr hlocks trivial (hP.sub [0, 1, 2] rfl) hK (hD.sub [0, 1, 2] (by decide) rfl) hS d_M_init_18
set_option maxHeartbeats 4000000 in
set_option maxRecDepth 100000 in
theorem c_W_init (l : Launch) (D : va_G) (cI cL cW cZ : ClassId) (wo : Nat) (sz : Nat) : Met l y_W_init w_W_init ({ frames := 1, cells := 0, slots := 0, locals := 12 }) (va_Pc [.ref wo] (gP D vwCl (tyv cI cL cW cZ) [(wo, .inr (3, [.int 0, .long 0, .int 0, .int 0]))] sz)) (va_Qv (fun (u : Unit) => True) (fun u t => gB D vwCl (tyv cI cL cW cZ) (va_A [(wo, .inr (3, [.int 0, .long 0, .int 0, .int 0]))] sz) [(wo, .inr (3, [.int 0, .long 0, .int 0, .int (-1)]))] t) (va_A [(wo, .inr (3, [.int 0, .long 0, .int 0, .int 0]))] sz)) 0 0 (va_A [(wo, .inr (3, [.int 0, .long 0, .int 0, .int 0]))] sz) := by
  refine met_go (cc := prog_5_method_1_code) (maxL := 1) (ret := none) (QA := fun A => va_Qv (fun (u : Unit) => True) (fun u t => gB D vwCl (tyv cI cL cW cZ) A [(wo, .inr (3, [.int 0, .long 0, .int 0, .int (-1)]))] t) A) (by decide) (Nat.le_of_ble_eq_true rfl) ?_
  intro p e s m below meth c A ls hx hb hr hml hT hN hown hlocks hin hl hP hK hD hA hS
  have hl : lv_has ls 1 [(0, .ref wo)] := hl
  refine lv_aload_n hx hb d_W_init_0 rfl (lv_at hl 0 rfl) ?_
  refine W.objInit hx hb hown (hT _ k_74) (hT _ k_15) (hT _ k_16) rfl (by rw [hml]; exact hl.1) rfl d_W_init_1 (Nat.le_of_ble_eq_true rfl) (Nat.le_of_ble_eq_true rfl) ?_
  refine W.eq (g2 := F0 m 4 ls []) rfl ?_
  refine lv_aload_n hx hb d_W_init_4 rfl (lv_at hl 0 rfl) ?_
  refine lv_iconst (v := (-1)) hx hb d_W_init_5 (by decide) ?_
  refine va_put (D := D) (ci := 3) (v := .int (-1)) (ty := (.int)) (C := "OscillatorRow$Watch") (T := T_W) (N := 4) hx hb hT i_W t_W t_W_ok n_W_ok hown hK hP hD hS 0 rfl rfl 3 (by decide) (hT _ k_80) (fun _ h9 => h9) rfl (by decide +kernel) rfl rfl (Nat.le_of_ble_eq_true rfl) d_W_init_6 (fun H locs hP hD hS => ?_)
  have hP : va_P D vwCl [(wo, .inr (3, [.int 0, .long 0, .int 0, .int (-1)]))] H := hP
  have hD : va_D A [(wo, .inr (3, [.int 0, .long 0, .int 0, .int (-1)]))] := hD
  exact re_v () hx hb hr hlocks trivial (hP.sub [0] rfl) hK (hD.sub [0] (by decide) rfl) hS d_W_init_9
set_option maxHeartbeats 4000000 in
set_option maxRecDepth 100000 in
theorem c_H_init (l : Launch) (D : va_G) (cI cL cW cZ : ClassId) (hi : Nat) (sz : Nat) : Met l y_H_init w_H_init ({ frames := 1, cells := 3, slots := 120, locals := 12 }) (va_Pc [.ref hi] (gP D vwCl (tyv cI cL cW cZ) [(hi, .inr (0, [.null, .null, .null, .int 0, .int 0]))] sz)) (va_Qv (fun (u : Nat × Nat × Nat) => True) (fun u t => gB D vwCl (tyv cI cL cW cZ) (va_A [(hi, .inr (0, [.null, .null, .null, .int 0, .int 0]))] sz) [(hi, .inr (0, [.ref u.1, .ref u.2.1, .ref u.2.2, .int (nI (zKp 0)), .int 0])), (u.1, .inl (cI, 40, .inl (fun _ => 0))), (u.2.1, .inl (cI, 40, .inl (fun _ => 0))), (u.2.2, .inl (cI, 40, .inl (fun _ => 0)))] t) (va_A [(hi, .inr (0, [.null, .null, .null, .int 0, .int 0]))] sz)) 3 120 (va_A [(hi, .inr (0, [.null, .null, .null, .int 0, .int 0]))] sz) := by
  refine met_go (cc := prog_2_method_1_code) (maxL := 1) (ret := none) (QA := fun A => va_Qv (fun (u : Nat × Nat × Nat) => True) (fun u t => gB D vwCl (tyv cI cL cW cZ) A [(hi, .inr (0, [.ref u.1, .ref u.2.1, .ref u.2.2, .int (nI (zKp 0)), .int 0])), (u.1, .inl (cI, 40, .inl (fun _ => 0))), (u.2.1, .inl (cI, 40, .inl (fun _ => 0))), (u.2.2, .inl (cI, 40, .inl (fun _ => 0)))] t) A) (by decide) (Nat.le_of_ble_eq_true rfl) ?_
  intro p e s m below meth c A ls hx hb hr hml hT hN hown hlocks hin hl hP hK hD hA hS
  have hl : lv_has ls 1 [(0, .ref hi)] := hl
  refine lv_aload_n hx hb d_H_init_0 rfl (lv_at hl 0 rfl) ?_
  refine W.objInit hx hb hown (hT _ k_96) (hT _ k_15) (hT _ k_16) rfl (by rw [hml]; exact hl.1) rfl d_H_init_1 (Nat.le_of_ble_eq_true rfl) (Nat.le_of_ble_eq_true rfl) ?_
  refine W.eq (g2 := F0 m 4 ls []) rfl ?_
  refine lv_aload_n hx hb d_H_init_4 rfl (lv_at hl 0 rfl) ?_
  refine lv_bipush (v := 40) hx hb d_H_init_5 (by decide) ?_
  refine va_newa (atype := .int) (a0 := (40, .inl (fun _ => 0))) (ty := .int) (N' := 40) hx hb (hT _ k_49) rfl hK hP hD hS hA (fun _ => rfl) (by decide) rfl (by decide) (show 0 + 1 ≤ 3 by omega) (show 0 + 40 ≤ 120 by omega) d_H_init_7 (fun b1 cA H hK9 hP hD hS => ?_)
  obtain rfl : cI = cA := kk_one (i := 0) (j := 4) hK9 rfl rfl
  have hP : va_P D vwCl [(hi, .inr (0, [.null, .null, .null, .int 0, .int 0])), (b1, .inl (cI, 40, .inl (fun _ => 0)))] H := hP
  have hD : va_D A [(hi, .inr (0, [.null, .null, .null, .int 0, .int 0])), (b1, .inl (cI, 40, .inl (fun _ => 0)))] := hD
  refine W.widen (k := 1) (n := 40) (by omega) (by omega) ?_
  refine va_putF (D := D) (ci := 0) (v := .ref b1) (ty := (.array .int)) (C := "OscillatorRow$Hits") (T := T_H) (N := 5) hx hb hT i_H t_H t_H_ok n_H_ok hown hK hP hD hS 0 rfl rfl 0 (by decide) (hT _ k_97) (fun _ h9 => h9) rfl hin rfl (by decide +kernel) rfl rfl (Nat.le_of_ble_eq_true rfl) d_H_init_9 (fun H locs hP hD hS => ?_)
  have hP : va_P D vwCl [(hi, .inr (0, [.ref b1, .null, .null, .int 0, .int 0])), (b1, .inl (cI, 40, .inl (fun _ => 0)))] H := hP
  have hD : va_D A [(hi, .inr (0, [.ref b1, .null, .null, .int 0, .int 0])), (b1, .inl (cI, 40, .inl (fun _ => 0)))] := hD
  refine lv_aload_n hx hb d_H_init_12 rfl (lv_at hl 0 rfl) ?_
  refine lv_bipush (v := 40) hx hb d_H_init_13 (by decide) ?_
  refine va_newa (atype := .int) (a0 := (40, .inl (fun _ => 0))) (ty := .int) (N' := 40) hx hb (hT _ k_49) rfl hK hP hD hS hA (fun _ => rfl) (by decide) rfl (by decide) (show 1 + 1 ≤ 3 by omega) (show 40 + 40 ≤ 120 by omega) d_H_init_15 (fun b2 cA H hK9 hP hD hS => ?_)
  obtain rfl : cI = cA := kk_one (i := 0) (j := 4) hK9 rfl rfl
  have hP : va_P D vwCl [(hi, .inr (0, [.ref b1, .null, .null, .int 0, .int 0])), (b1, .inl (cI, 40, .inl (fun _ => 0))), (b2, .inl (cI, 40, .inl (fun _ => 0)))] H := hP
  have hD : va_D A [(hi, .inr (0, [.ref b1, .null, .null, .int 0, .int 0])), (b1, .inl (cI, 40, .inl (fun _ => 0))), (b2, .inl (cI, 40, .inl (fun _ => 0)))] := hD
  refine W.widen (k := 2) (n := 80) (by omega) (by omega) ?_
  refine va_putF (D := D) (ci := 0) (v := .ref b2) (ty := (.array .int)) (C := "OscillatorRow$Hits") (T := T_H) (N := 5) hx hb hT i_H t_H t_H_ok n_H_ok hown hK hP hD hS 0 rfl rfl 1 (by decide) (hT _ k_99) (fun _ h9 => h9) rfl hin rfl (by decide +kernel) rfl rfl (Nat.le_of_ble_eq_true rfl) d_H_init_17 (fun H locs hP hD hS => ?_)
  have hP : va_P D vwCl [(hi, .inr (0, [.ref b1, .ref b2, .null, .int 0, .int 0])), (b1, .inl (cI, 40, .inl (fun _ => 0))), (b2, .inl (cI, 40, .inl (fun _ => 0)))] H := hP
  have hD : va_D A [(hi, .inr (0, [.ref b1, .ref b2, .null, .int 0, .int 0])), (b1, .inl (cI, 40, .inl (fun _ => 0))), (b2, .inl (cI, 40, .inl (fun _ => 0)))] := hD
  refine lv_aload_n hx hb d_H_init_20 rfl (lv_at hl 0 rfl) ?_
  refine lv_bipush (v := 40) hx hb d_H_init_21 (by decide) ?_
  refine va_newa (atype := .int) (a0 := (40, .inl (fun _ => 0))) (ty := .int) (N' := 40) hx hb (hT _ k_49) rfl hK hP hD hS hA (fun _ => rfl) (by decide) rfl (by decide) (show 2 + 1 ≤ 3 by omega) (show 80 + 40 ≤ 120 by omega) d_H_init_23 (fun b3 cA H hK9 hP hD hS => ?_)
  obtain rfl : cI = cA := kk_one (i := 0) (j := 4) hK9 rfl rfl
  have hP : va_P D vwCl [(hi, .inr (0, [.ref b1, .ref b2, .null, .int 0, .int 0])), (b1, .inl (cI, 40, .inl (fun _ => 0))), (b2, .inl (cI, 40, .inl (fun _ => 0))), (b3, .inl (cI, 40, .inl (fun _ => 0)))] H := hP
  have hD : va_D A [(hi, .inr (0, [.ref b1, .ref b2, .null, .int 0, .int 0])), (b1, .inl (cI, 40, .inl (fun _ => 0))), (b2, .inl (cI, 40, .inl (fun _ => 0))), (b3, .inl (cI, 40, .inl (fun _ => 0)))] := hD
  refine W.widen (k := 3) (n := 120) (by omega) (by omega) ?_
  refine va_putF (D := D) (ci := 0) (v := .ref b3) (ty := (.array .int)) (C := "OscillatorRow$Hits") (T := T_H) (N := 5) hx hb hT i_H t_H t_H_ok n_H_ok hown hK hP hD hS 0 rfl rfl 2 (by decide) (hT _ k_101) (fun _ h9 => h9) rfl hin rfl (by decide +kernel) rfl rfl (Nat.le_of_ble_eq_true rfl) d_H_init_25 (fun H locs hP hD hS => ?_)
  have hP : va_P D vwCl [(hi, .inr (0, [.ref b1, .ref b2, .ref b3, .int 0, .int 0])), (b1, .inl (cI, 40, .inl (fun _ => 0))), (b2, .inl (cI, 40, .inl (fun _ => 0))), (b3, .inl (cI, 40, .inl (fun _ => 0)))] H := hP
  have hD : va_D A [(hi, .inr (0, [.ref b1, .ref b2, .ref b3, .int 0, .int 0])), (b1, .inl (cI, 40, .inl (fun _ => 0))), (b2, .inl (cI, 40, .inl (fun _ => 0))), (b3, .inl (cI, 40, .inl (fun _ => 0)))] := hD
  have hP : va_P D vwCl [(hi, .inr (0, [.ref b1, .ref b2, .ref b3, .int (nI (zKp 0)), .int 0])), (b1, .inl (cI, 40, .inl (fun _ => 0))), (b2, .inl (cI, 40, .inl (fun _ => 0))), (b3, .inl (cI, 40, .inl (fun _ => 0)))] H := by rw [kp_0]; exact hP
  have hD : va_D A [(hi, .inr (0, [.ref b1, .ref b2, .ref b3, .int (nI (zKp 0)), .int 0])), (b1, .inl (cI, 40, .inl (fun _ => 0))), (b2, .inl (cI, 40, .inl (fun _ => 0))), (b3, .inl (cI, 40, .inl (fun _ => 0)))] := by rw [kp_0]; exact hD
  refine W.widen (k := 3) (n := 120) (by omega) (by omega) ?_
  exact re_v (b1, b2, b3) hx hb hr hlocks trivial (hP.sub [0, 1, 2, 3] rfl) hK (hD.sub [0, 1, 2, 3] (by decide) rfl) hS d_H_init_28
