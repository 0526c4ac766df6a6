set_option maxHeartbeats 4000000 in
set_option maxRecDepth 100000 in
theorem c_S_rnd (l : Launch) (D : va_G) (cI cL cW cZ : ClassId) (am : Int64) (hh : Int32) (sz : Nat) : Met l y_S_roundedPart w_S_roundedPart ({ frames := 0, cells := 0, slots := 0, locals := 0 }) (va_Pc [.long am, .int hh] (gP D vwCl (tyv cI cL cW cZ) [] sz)) (va_Ql (fun (r : Int64) (u : Unit) => r = zRnd am hh) (fun u t => gB D vwCl (tyv cI cL cW cZ) (va_A [] sz) [] t) (va_A [] sz)) 0 0 (va_A [] sz) := by
  refine met_go (cc := prog_4_method_6_code) (maxL := 5) (ret := (some .long)) (QA := fun A => va_Ql (fun (r : Int64) (u : Unit) => r = zRnd am hh) (fun u t => gB D vwCl (tyv cI cL cW cZ) A [] t) A) (by decide) (Nat.le_of_ble_eq_true rfl) ?_
  intro p e s m below meth c A ls hx hb hr hml hT hN hown hlocks hin hl hP hK hD hA hS
  have hl : lv_has ls 5 [(0, .long am), (2, .int hh)] := hl
  refine lv_lconst (v := 1) hx hb d_S_roundedPart_0 (by decide) ?_
  refine lv_iload_n hx hb d_S_roundedPart_1 rfl (lv_at hl 1 rfl) ?_
  refine lv_lshl hx hb d_S_roundedPart_2 rfl ?_
  refine lv_iconst (v := 1) hx hb d_S_roundedPart_3 (by decide) ?_
  refine lv_lshr hx hb d_S_roundedPart_4 rfl ?_
  refine lv_lstore_n (lv' := [(3, .long ((1 <<< (hh.toInt64 &&& 63)) >>> ((1 : Int32).toInt64 &&& 63))), (0, .long am), (2, .int hh)]) hx hb d_S_roundedPart_5 rfl hl (by decide) rfl (fun ls hl => ?_)
  refine lv_lload_n hx hb d_S_roundedPart_6 rfl (lv_at hl 1 rfl) ?_
  refine lv_lload_n hx hb d_S_roundedPart_7 rfl (lv_at hl 0 rfl) ?_
  refine lv_ladd hx hb d_S_roundedPart_8 ?_
  refine lv_iload_n hx hb d_S_roundedPart_9 rfl (lv_at hl 2 rfl) ?_
  refine lv_lshr hx hb d_S_roundedPart_10 rfl ?_
  exact re_l (v := (am + ((1 <<< (hh.toInt64 &&& 63)) >>> ((1 : Int32).toInt64 &&& 63))) >>> (hh.toInt64 &&& 63)) () hx hb hr hlocks rfl (hP.sub [] rfl) hK (hD.sub [] (by decide) rfl) hS d_S_roundedPart_11
set_option maxHeartbeats 4000000 in
set_option maxRecDepth 100000 in
theorem c_S_near (l : Launch) (D : va_G) (cI cL cW cZ : ClassId) (am : Int64) (sz : Nat) : Met l y_S_isNear w_S_isNear ({ frames := 0, cells := 0, slots := 0, locals := 0 }) (va_Pc [.long am] (gP D vwCl (tyv cI cL cW cZ) [] sz)) (va_Qi (fun (r : Int32) (u : Unit) => r = zNear am) (fun u t => gB D vwCl (tyv cI cL cW cZ) (va_A [] sz) [] t) (va_A [] sz)) 0 0 (va_A [] sz) := by
  refine met_go (cc := prog_4_method_7_code) (maxL := 2) (ret := (some .boolean)) (QA := fun A => va_Qi (fun (r : Int32) (u : Unit) => r = zNear am) (fun u t => gB D vwCl (tyv cI cL cW cZ) A [] t) A) (by decide) (Nat.le_of_ble_eq_true rfl) ?_
  intro p e s m below meth c A ls hx hb hr hml hT hN hown hlocks hin hl hP hK hD hA hS
  have hl : lv_has ls 2 [(0, .long am)] := hl
  refine lv_lload_n hx hb d_S_isNear_0 rfl (lv_at hl 0 rfl) ?_
  refine lv_ldc2 (v := (-1024000000)) hx hb hown (hT _ k_245) d_S_isNear_1 ?_
  refine W.lcmp hx hb d_S_isNear_4 ?_
  refine lv_if_lt (tgt := 20) hx hb d_S_isNear_5 (by decide) (fun c5 => ?_) (fun c5 => ?_)
  · have c5 := lgt_lt c5
    refine lv_iconst (v := 0) hx hb d_S_isNear_20 (by decide) ?_
    exact re_z (v := 0) () hx hb hr rfl hlocks (by rw [zNear, if_pos c5]) (hP.sub [] rfl) hK (hD.sub [] (by decide) rfl) hS d_S_isNear_21
  · have c5 := lgf_lt c5
    refine lv_lload_n hx hb d_S_isNear_8 rfl (lv_at hl 0 rfl) ?_
    refine lv_ldc2 (v := 1024000000) hx hb hown (hT _ k_246) d_S_isNear_9 ?_
    refine W.lcmp hx hb d_S_isNear_12 ?_
    refine lv_if_gt (tgt := 20) hx hb d_S_isNear_13 (by decide) (fun c13 => ?_) (fun c13 => ?_)
    · have c13 := lgt_gt c13
      refine lv_iconst (v := 0) hx hb d_S_isNear_20 (by decide) ?_
      exact re_z (v := 0) () hx hb hr rfl hlocks (by rw [zNear, if_neg c5, if_pos c13]) (hP.sub [] rfl) hK (hD.sub [] (by decide) rfl) hS d_S_isNear_21
    · have c13 := lgf_gt c13
      refine lv_iconst (v := 1) hx hb d_S_isNear_16 (by decide) ?_
      refine lv_goto (tgt := 21) hx hb d_S_isNear_17 (by decide) ?_
      exact re_z (v := 1) () hx hb hr rfl hlocks (by rw [zNear, if_neg c5, if_neg c13]) (hP.sub [] rfl) hK (hD.sub [] (by decide) rfl) hS d_S_isNear_21
set_option maxHeartbeats 4000000 in
set_option maxRecDepth 100000 in
theorem c_S_push (l : Launch) (D : va_G) (cI cL cW cZ : ClassId) (sp : Nat) (ak : Nat) (ac : Nat) (aq : Nat) (af : Nat) (n : Nat) (zk : Nat → Int32) (zc : Nat → Int32) (zq : Nat → Int32) (zf : Nat → Int32) (mo : Nat) (ax : Nat) (av : Nat) (px : Nat → Int64) (pv : Nat → Int64) (j : Nat) (sz : Nat) (hj : j < n) (hn : n ≤ 4) : Met l y_S_pushOn w_S_pushOn ({ frames := 0, cells := 0, slots := 0, locals := 0 }) (va_Pc [.ref sp, .int (nI j), .ref mo] (gP D vwCl (tyv cI cL cW cZ) [(sp, .inr (2, [.int (nI n), .ref ak, .ref ac, .ref aq, .ref af])), (ak, .inl (cI, n, .inl zk)), (ac, .inl (cI, n, .inl zc)), (aq, .inl (cI, n, .inl zq)), (af, .inl (cI, n, .inl zf)), (mo, .inr (1, [.ref ax, .ref av])), (ax, .inl (cL, n, .inr (.inl px))), (av, .inl (cL, n, .inr (.inl pv)))] sz)) (va_Ql (fun (r : Int64) (u : Unit) => r = zPush n zk zc zq zf px pv j) (fun u t => gB D vwCl (tyv cI cL cW cZ) (va_A [(sp, .inr (2, [.int (nI n), .ref ak, .ref ac, .ref aq, .ref af])), (ak, .inl (cI, n, .inl zk)), (ac, .inl (cI, n, .inl zc)), (aq, .inl (cI, n, .inl zq)), (af, .inl (cI, n, .inl zf)), (mo, .inr (1, [.ref ax, .ref av])), (ax, .inl (cL, n, .inr (.inl px))), (av, .inl (cL, n, .inr (.inl pv)))] sz) [(sp, .inr (2, [.int (nI n), .ref ak, .ref ac, .ref aq, .ref af])), (ak, .inl (cI, n, .inl zk)), (ac, .inl (cI, n, .inl zc)), (aq, .inl (cI, n, .inl zq)), (af, .inl (cI, n, .inl zf)), (mo, .inr (1, [.ref ax, .ref av])), (ax, .inl (cL, n, .inr (.inl px))), (av, .inl (cL, n, .inr (.inl pv)))] t) (va_A [(sp, .inr (2, [.int (nI n), .ref ak, .ref ac, .ref aq, .ref af])), (ak, .inl (cI, n, .inl zk)), (ac, .inl (cI, n, .inl zc)), (aq, .inl (cI, n, .inl zq)), (af, .inl (cI, n, .inl zf)), (mo, .inr (1, [.ref ax, .ref av])), (ax, .inl (cL, n, .inr (.inl px))), (av, .inl (cL, n, .inr (.inl pv)))] sz)) 0 0 (va_A [(sp, .inr (2, [.int (nI n), .ref ak, .ref ac, .ref aq, .ref af])), (ak, .inl (cI, n, .inl zk)), (ac, .inl (cI, n, .inl zc)), (aq, .inl (cI, n, .inl zq)), (af, .inl (cI, n, .inl zf)), (mo, .inr (1, [.ref ax, .ref av])), (ax, .inl (cL, n, .inr (.inl px))), (av, .inl (cL, n, .inr (.inl pv)))] sz) := by
  refine met_go (cc := prog_4_method_2_code) (maxL := 7) (ret := (some .long)) (QA := fun A => va_Ql (fun (r : Int64) (u : Unit) => r = zPush n zk zc zq zf px pv j) (fun u t => gB D vwCl (tyv cI cL cW cZ) A [(sp, .inr (2, [.int (nI n), .ref ak, .ref ac, .ref aq, .ref af])), (ak, .inl (cI, n, .inl zk)), (ac, .inl (cI, n, .inl zc)), (aq, .inl (cI, n, .inl zq)), (af, .inl (cI, n, .inl zf)), (mo, .inr (1, [.ref ax, .ref av])), (ax, .inl (cL, n, .inr (.inl px))), (av, .inl (cL, n, .inr (.inl pv)))] t) A) (by decide) (Nat.le_of_ble_eq_true rfl) ?_
  intro p e s m below meth c A ls hx hb hr hml hT hN hown hlocks hin hl hP hK hD hA hS
  have hl : lv_has ls 7 [(0, .ref sp), (1, .int (nI j)), (2, .ref mo)] := hl
  refine lv_aload_n hx hb d_S_pushOn_0 rfl (lv_at hl 2 rfl) ?_
  refine va_getN (D := D) (ci := 1) (v := .ref ax) (C := "OscillatorRow$Motion") (T := T_M) (N := 2) hx hb hT i_M hown hK hP 5 rfl rfl 0 (by decide) (va_Nw.use rfl (hN _ j_57)) (fun _ h9 => h9) rfl d_S_pushOn_1 ?_
  refine lv_iload_n hx hb d_S_pushOn_4 rfl (lv_at hl 1 rfl) ?_
  refine ra_lald (j := j) hx hb hK hP 6 1 rfl rfl (by omega) (by omega) d_S_pushOn_5 ?_
  refine lv_lstore_n (lv' := [(3, .long (px j)), (0, .ref sp), (1, .int (nI j)), (2, .ref mo)]) hx hb d_S_pushOn_6 rfl hl (by decide) rfl (fun ls hl => ?_)
  refine lv_aload_n hx hb d_S_pushOn_7 rfl (lv_at hl 1 rfl) ?_
  refine va_get (D := D) (ci := 2) (v := .ref af) (C := "OscillatorRow$Springs") (T := T_S) (N := 5) hx hb hT i_S hown hK hP 0 rfl rfl 4 (by decide) (hT _ k_36) (fun _ h9 => h9) rfl d_S_pushOn_8 ?_
  refine lv_iload_n hx hb d_S_pushOn_11 rfl (lv_at hl 2 rfl) ?_
  refine ra_iald (j := j) hx hb hK hP 4 0 rfl rfl (by omega) (by omega) d_S_pushOn_12 ?_
  refine lv_i2l hx hb d_S_pushOn_13 rfl ?_
  refine lv_iconst (v := 4) hx hb d_S_pushOn_14 (by decide) ?_
  refine lv_lshl hx hb d_S_pushOn_15 rfl ?_
  refine lv_aload_n hx hb d_S_pushOn_16 rfl (lv_at hl 1 rfl) ?_
  refine va_get (D := D) (ci := 2) (v := .ref ak) (C := "OscillatorRow$Springs") (T := T_S) (N := 5) hx hb hT i_S hown hK hP 0 rfl rfl 1 (by decide) (hT _ k_30) (fun _ h9 => h9) rfl d_S_pushOn_17 ?_
  refine lv_iload_n hx hb d_S_pushOn_20 rfl (lv_at hl 2 rfl) ?_
  refine ra_iald (j := j) hx hb hK hP 1 0 rfl rfl (by omega) (by omega) d_S_pushOn_21 ?_
  refine lv_i2l hx hb d_S_pushOn_22 rfl ?_
  refine lv_lload_n hx hb d_S_pushOn_23 rfl (lv_at hl 0 rfl) ?_
  refine lv_lmul hx hb d_S_pushOn_24 ?_
  refine lv_lsub hx hb d_S_pushOn_25 ?_
  refine lv_aload_n hx hb d_S_pushOn_26 rfl (lv_at hl 1 rfl) ?_
  refine va_get (D := D) (ci := 2) (v := .ref ac) (C := "OscillatorRow$Springs") (T := T_S) (N := 5) hx hb hT i_S hown hK hP 0 rfl rfl 2 (by decide) (hT _ k_32) (fun _ h9 => h9) rfl d_S_pushOn_27 ?_
  refine lv_iload_n hx hb d_S_pushOn_30 rfl (lv_at hl 2 rfl) ?_
  refine ra_iald (j := j) hx hb hK hP 2 0 rfl rfl (by omega) (by omega) d_S_pushOn_31 ?_
  refine lv_i2l hx hb d_S_pushOn_32 rfl ?_
  refine lv_aload_n hx hb d_S_pushOn_33 rfl (lv_at hl 3 rfl) ?_
  refine va_getN (D := D) (ci := 1) (v := .ref av) (C := "OscillatorRow$Motion") (T := T_M) (N := 2) hx hb hT i_M hown hK hP 5 rfl rfl 1 (by decide) (va_Nw.use rfl (hN _ j_60)) (fun _ h9 => h9) rfl d_S_pushOn_34 ?_
  refine lv_iload_n hx hb d_S_pushOn_37 rfl (lv_at hl 2 rfl) ?_
  refine ra_lald (j := j) hx hb hK hP 7 1 rfl rfl (by omega) (by omega) d_S_pushOn_38 ?_
  refine lv_lmul hx hb d_S_pushOn_39 ?_
  refine lv_lsub hx hb d_S_pushOn_40 ?_
  refine lv_lstore (lv' := [(5, .long (((((zf j).toInt64) <<< ((4 : Int32).toInt64 &&& 63)) - (((zk j).toInt64) * (px j))) - (((zc j).toInt64) * (pv j)))), (3, .long (px j)), (0, .ref sp), (1, .int (nI j)), (2, .ref mo)]) hx hb d_S_pushOn_41 hl (by decide) rfl (fun ls hl => ?_)
  refine lv_iload_n hx hb d_S_pushOn_43 rfl (lv_at hl 3 rfl) ?_
  refine lv_iconst (v := 1) hx hb d_S_pushOn_44 (by decide) ?_
  refine lv_iadd hx hb d_S_pushOn_45 ?_
  refine top_i (y := (nI (j + 1))) (nI_1 j) ?_
  refine lv_aload_n hx hb d_S_pushOn_46 rfl (lv_at hl 2 rfl) ?_
  refine va_get (D := D) (ci := 2) (v := .int (nI n)) (C := "OscillatorRow$Springs") (T := T_S) (N := 5) hx hb hT i_S hown hK hP 0 rfl rfl 0 (by decide) (hT _ k_29) (fun _ h9 => h9) rfl d_S_pushOn_47 ?_
  refine lv_icmp_ge (tgt := 76) hx hb d_S_pushOn_50 (by decide) (fun c50 => ?_) (fun c50 => ?_)
  · have c50 := nI_leM c50 (by omega) (by omega)
    refine lv_iload_n hx hb d_S_pushOn_76 rfl (lv_at hl 3 rfl) ?_
    refine lv_if_le (tgt := 105) hx hb d_S_pushOn_77 (by decide) (fun c77 => ?_) (fun c77 => ?_)
    · have c77 := nI_le0M c77 (by omega)
      refine lv_lload hx hb d_S_pushOn_105 (lv_at hl 0 rfl) ?_
      exact re_l (v := ((((zf j).toInt64) <<< ((4 : Int32).toInt64 &&& 63)) - (((zk j).toInt64) * (px j))) - (((zc j).toInt64) * (pv j))) () hx hb hr hlocks (by rw [zPush, if_pos c77, zP1, if_pos c50]; rfl) (hP.sub [0, 1, 2, 3, 4, 5, 6, 7] rfl) hK (hD.sub [0, 1, 2, 3, 4, 5, 6, 7] (by decide) rfl) hS d_S_pushOn_107
    · have c77 := nI_nle0M c77 (by omega)
      refine lv_lload hx hb d_S_pushOn_80 (lv_at hl 0 rfl) ?_
      refine lv_aload_n hx hb d_S_pushOn_82 rfl (lv_at hl 2 rfl) ?_
      refine va_get (D := D) (ci := 2) (v := .ref aq) (C := "OscillatorRow$Springs") (T := T_S) (N := 5) hx hb hT i_S hown hK hP 0 rfl rfl 3 (by decide) (hT _ k_34) (fun _ h9 => h9) rfl d_S_pushOn_83 ?_
      refine lv_iload_n hx hb d_S_pushOn_86 rfl (lv_at hl 3 rfl) ?_
      refine lv_iconst (v := 1) hx hb d_S_pushOn_87 (by decide) ?_
      refine lv_isub hx hb d_S_pushOn_88 ?_
      refine top_i (y := (nI (j - 1))) (nI_p c77) ?_
      refine ra_iald (j := (j - 1)) hx hb hK hP 3 0 rfl rfl (by omega) (by omega) d_S_pushOn_89 ?_
      refine lv_i2l hx hb d_S_pushOn_90 rfl ?_
      refine lv_lload_n hx hb d_S_pushOn_91 rfl (lv_at hl 1 rfl) ?_
      refine lv_aload_n hx hb d_S_pushOn_92 rfl (lv_at hl 4 rfl) ?_
      refine va_getN (D := D) (ci := 1) (v := .ref ax) (C := "OscillatorRow$Motion") (T := T_M) (N := 2) hx hb hT i_M hown hK hP 5 rfl rfl 0 (by decide) (va_Nw.use rfl (hN _ j_57)) (fun _ h9 => h9) rfl d_S_pushOn_93 ?_
      refine lv_iload_n hx hb d_S_pushOn_96 rfl (lv_at hl 3 rfl) ?_
      refine lv_iconst (v := 1) hx hb d_S_pushOn_97 (by decide) ?_
      refine lv_isub hx hb d_S_pushOn_98 ?_
      refine top_i (y := (nI (j - 1))) (nI_p c77) ?_
      refine ra_lald (j := (j - 1)) hx hb hK hP 6 1 rfl rfl (by omega) (by omega) d_S_pushOn_99 ?_
      refine lv_lsub hx hb d_S_pushOn_100 ?_
      refine lv_lmul hx hb d_S_pushOn_101 ?_
      refine lv_lsub hx hb d_S_pushOn_102 ?_
      refine lv_lstore (lv' := [(5, .long ((((((zf j).toInt64) <<< ((4 : Int32).toInt64 &&& 63)) - (((zk j).toInt64) * (px j))) - (((zc j).toInt64) * (pv j))) - (((zq (j - 1)).toInt64) * ((px j) - (px (j - 1)))))), (3, .long (px j)), (0, .ref sp), (1, .int (nI j)), (2, .ref mo)]) hx hb d_S_pushOn_103 hl (by decide) rfl (fun ls hl => ?_)
      refine lv_lload hx hb d_S_pushOn_105 (lv_at hl 0 rfl) ?_
      exact re_l (v := (((((zf j).toInt64) <<< ((4 : Int32).toInt64 &&& 63)) - (((zk j).toInt64) * (px j))) - (((zc j).toInt64) * (pv j))) - (((zq (j - 1)).toInt64) * ((px j) - (px (j - 1))))) () hx hb hr hlocks (by rw [zPush, if_neg (Nat.not_le.mpr c77), zP1, if_pos c50]; rfl) (hP.sub [0, 1, 2, 3, 4, 5, 6, 7] rfl) hK (hD.sub [0, 1, 2, 3, 4, 5, 6, 7] (by decide) rfl) hS d_S_pushOn_107
  · have c50 := nI_nleM c50 (by omega) (by omega)
    refine lv_lload hx hb d_S_pushOn_53 (lv_at hl 0 rfl) ?_
    refine lv_aload_n hx hb d_S_pushOn_55 rfl (lv_at hl 2 rfl) ?_
    refine va_get (D := D) (ci := 2) (v := .ref aq) (C := "OscillatorRow$Springs") (T := T_S) (N := 5) hx hb hT i_S hown hK hP 0 rfl rfl 3 (by decide) (hT _ k_34) (fun _ h9 => h9) rfl d_S_pushOn_56 ?_
    refine lv_iload_n hx hb d_S_pushOn_59 rfl (lv_at hl 3 rfl) ?_
    refine ra_iald (j := j) hx hb hK hP 3 0 rfl rfl (by omega) (by omega) d_S_pushOn_60 ?_
    refine lv_i2l hx hb d_S_pushOn_61 rfl ?_
    refine lv_aload_n hx hb d_S_pushOn_62 rfl (lv_at hl 4 rfl) ?_
    refine va_getN (D := D) (ci := 1) (v := .ref ax) (C := "OscillatorRow$Motion") (T := T_M) (N := 2) hx hb hT i_M hown hK hP 5 rfl rfl 0 (by decide) (va_Nw.use rfl (hN _ j_57)) (fun _ h9 => h9) rfl d_S_pushOn_63 ?_
    refine lv_iload_n hx hb d_S_pushOn_66 rfl (lv_at hl 3 rfl) ?_
    refine lv_iconst (v := 1) hx hb d_S_pushOn_67 (by decide) ?_
    refine lv_iadd hx hb d_S_pushOn_68 ?_
    refine top_i (y := (nI (j + 1))) (nI_1 j) ?_
    refine ra_lald (j := (j + 1)) hx hb hK hP 6 1 rfl rfl (by omega) (by omega) d_S_pushOn_69 ?_
    refine lv_lload_n hx hb d_S_pushOn_70 rfl (lv_at hl 1 rfl) ?_
    refine lv_lsub hx hb d_S_pushOn_71 ?_
    refine lv_lmul hx hb d_S_pushOn_72 ?_
    refine lv_ladd hx hb d_S_pushOn_73 ?_
    refine lv_lstore (lv' := [(5, .long ((((((zf j).toInt64) <<< ((4 : Int32).toInt64 &&& 63)) - (((zk j).toInt64) * (px j))) - (((zc j).toInt64) * (pv j))) + (((zq j).toInt64) * ((px (j + 1)) - (px j))))), (3, .long (px j)), (0, .ref sp), (1, .int (nI j)), (2, .ref mo)]) hx hb d_S_pushOn_74 hl (by decide) rfl (fun ls hl => ?_)
    refine lv_iload_n hx hb d_S_pushOn_76 rfl (lv_at hl 3 rfl) ?_
    refine lv_if_le (tgt := 105) hx hb d_S_pushOn_77 (by decide) (fun c77 => ?_) (fun c77 => ?_)
    · have c77 := nI_le0M c77 (by omega)
      refine lv_lload hx hb d_S_pushOn_105 (lv_at hl 0 rfl) ?_
      exact re_l (v := (((((zf j).toInt64) <<< ((4 : Int32).toInt64 &&& 63)) - (((zk j).toInt64) * (px j))) - (((zc j).toInt64) * (pv j))) + (((zq j).toInt64) * ((px (j + 1)) - (px j)))) () hx hb hr hlocks (by rw [zPush, if_pos c77, zP1, if_neg (Nat.not_le.mpr c50)]; rfl) (hP.sub [0, 1, 2, 3, 4, 5, 6, 7] rfl) hK (hD.sub [0, 1, 2, 3, 4, 5, 6, 7] (by decide) rfl) hS d_S_pushOn_107
    · have c77 := nI_nle0M c77 (by omega)
      refine lv_lload hx hb d_S_pushOn_80 (lv_at hl 0 rfl) ?_
      refine lv_aload_n hx hb d_S_pushOn_82 rfl (lv_at hl 2 rfl) ?_
      refine va_get (D := D) (ci := 2) (v := .ref aq) (C := "OscillatorRow$Springs") (T := T_S) (N := 5) hx hb hT i_S hown hK hP 0 rfl rfl 3 (by decide) (hT _ k_34) (fun _ h9 => h9) rfl d_S_pushOn_83 ?_
      refine lv_iload_n hx hb d_S_pushOn_86 rfl (lv_at hl 3 rfl) ?_
      refine lv_iconst (v := 1) hx hb d_S_pushOn_87 (by decide) ?_
      refine lv_isub hx hb d_S_pushOn_88 ?_
      refine top_i (y := (nI (j - 1))) (nI_p c77) ?_
      refine ra_iald (j := (j - 1)) hx hb hK hP 3 0 rfl rfl (by omega) (by omega) d_S_pushOn_89 ?_
      refine lv_i2l hx hb d_S_pushOn_90 rfl ?_
      refine lv_lload_n hx hb d_S_pushOn_91 rfl (lv_at hl 1 rfl) ?_
      refine lv_aload_n hx hb d_S_pushOn_92 rfl (lv_at hl 4 rfl) ?_
      refine va_getN (D := D) (ci := 1) (v := .ref ax) (C := "OscillatorRow$Motion") (T := T_M) (N := 2) hx hb hT i_M hown hK hP 5 rfl rfl 0 (by decide) (va_Nw.use rfl (hN _ j_57)) (fun _ h9 => h9) rfl d_S_pushOn_93 ?_
      refine lv_iload_n hx hb d_S_pushOn_96 rfl (lv_at hl 3 rfl) ?_
      refine lv_iconst (v := 1) hx hb d_S_pushOn_97 (by decide) ?_
      refine lv_isub hx hb d_S_pushOn_98 ?_
      refine top_i (y := (nI (j - 1))) (nI_p c77) ?_
      refine ra_lald (j := (j - 1)) hx hb hK hP 6 1 rfl rfl (by omega) (by omega) d_S_pushOn_99 ?_
      refine lv_lsub hx hb d_S_pushOn_100 ?_
      refine lv_lmul hx hb d_S_pushOn_101 ?_
      refine lv_lsub hx hb d_S_pushOn_102 ?_
      refine lv_lstore (lv' := [(5, .long (((((((zf j).toInt64) <<< ((4 : Int32).toInt64 &&& 63)) - (((zk j).toInt64) * (px j))) - (((zc j).toInt64) * (pv j))) + (((zq j).toInt64) * ((px (j + 1)) - (px j)))) - (((zq (j - 1)).toInt64) * ((px j) - (px (j - 1)))))), (3, .long (px j)), (0, .ref sp), (1, .int (nI j)), (2, .ref mo)]) hx hb d_S_pushOn_103 hl (by decide) rfl (fun ls hl => ?_)
      refine lv_lload hx hb d_S_pushOn_105 (lv_at hl 0 rfl) ?_
      exact re_l (v := ((((((zf j).toInt64) <<< ((4 : Int32).toInt64 &&& 63)) - (((zk j).toInt64) * (px j))) - (((zc j).toInt64) * (pv j))) + (((zq j).toInt64) * ((px (j + 1)) - (px j)))) - (((zq (j - 1)).toInt64) * ((px j) - (px (j - 1))))) () hx hb hr hlocks (by rw [zPush, if_neg (Nat.not_le.mpr c77), zP1, if_neg (Nat.not_le.mpr c50)]; rfl) (hP.sub [0, 1, 2, 3, 4, 5, 6, 7] rfl) hK (hD.sub [0, 1, 2, 3, 4, 5, 6, 7] (by decide) rfl) hS d_S_pushOn_107
set_option maxHeartbeats 4000000 in
set_option maxRecDepth 100000 in
theorem c_S_chs (l : Launch) (D : va_G) (cI cL cW cZ : ClassId) (sp : Nat) (ak : Nat) (ac : Nat) (aq : Nat) (af : Nat) (n : Nat) (zk : Nat → Int32) (zc : Nat → Int32) (zq : Nat → Int32) (zf : Nat → Int32) (mo : Nat) (ax : Nat) (av : Nat) (px : Nat → Int64) (pv : Nat → Int64) (hh : Int32) (sz : Nat) (hn : n ≤ 4) : Met l y_S_changeSpeeds w_S_changeSpeeds ({ frames := 1, cells := 0, slots := 0, locals := 26 }) (va_Pc [.ref sp, .ref mo, .int hh] (gP D vwCl (tyv cI cL cW cZ) [(sp, .inr (2, [.int (nI n), .ref ak, .ref ac, .ref aq, .ref af])), (ak, .inl (cI, n, .inl zk)), (ac, .inl (cI, n, .inl zc)), (aq, .inl (cI, n, .inl zq)), (af, .inl (cI, n, .inl zf)), (mo, .inr (1, [.ref ax, .ref av])), (ax, .inl (cL, n, .inr (.inl px))), (av, .inl (cL, n, .inr (.inl pv)))] sz)) (va_Qi (fun (r : Int32) (u : Unit) => r = zAll (zDv n zk zc zq zf hh px pv) n) (fun u t => gB D vwCl (tyv cI cL cW cZ) (va_A [(sp, .inr (2, [.int (nI n), .ref ak, .ref ac, .ref aq, .ref af])), (ak, .inl (cI, n, .inl zk)), (ac, .inl (cI, n, .inl zc)), (aq, .inl (cI, n, .inl zq)), (af, .inl (cI, n, .inl zf)), (mo, .inr (1, [.ref ax, .ref av])), (ax, .inl (cL, n, .inr (.inl px))), (av, .inl (cL, n, .inr (.inl pv)))] sz) [(sp, .inr (2, [.int (nI n), .ref ak, .ref ac, .ref aq, .ref af])), (ak, .inl (cI, n, .inl zk)), (ac, .inl (cI, n, .inl zc)), (aq, .inl (cI, n, .inl zq)), (af, .inl (cI, n, .inl zf)), (mo, .inr (1, [.ref ax, .ref av])), (ax, .inl (cL, n, .inr (.inl px))), (av, .inl (cL, n, .inr (.inl (zDv n zk zc zq zf hh px pv))))] t) (va_A [(sp, .inr (2, [.int (nI n), .ref ak, .ref ac, .ref aq, .ref af])), (ak, .inl (cI, n, .inl zk)), (ac, .inl (cI, n, .inl zc)), (aq, .inl (cI, n, .inl zq)), (af, .inl (cI, n, .inl zf)), (mo, .inr (1, [.ref ax, .ref av])), (ax, .inl (cL, n, .inr (.inl px))), (av, .inl (cL, n, .inr (.inl pv)))] sz)) 0 0 (va_A [(sp, .inr (2, [.int (nI n), .ref ak, .ref ac, .ref aq, .ref af])), (ak, .inl (cI, n, .inl zk)), (ac, .inl (cI, n, .inl zc)), (aq, .inl (cI, n, .inl zq)), (af, .inl (cI, n, .inl zf)), (mo, .inr (1, [.ref ax, .ref av])), (ax, .inl (cL, n, .inr (.inl px))), (av, .inl (cL, n, .inr (.inl pv)))] sz) := by
  refine met_go (cc := prog_4_method_4_code) (maxL := 7) (ret := (some .boolean)) (QA := fun A => va_Qi (fun (r : Int32) (u : Unit) => r = zAll (zDv n zk zc zq zf hh px pv) n) (fun u t => gB D vwCl (tyv cI cL cW cZ) A [(sp, .inr (2, [.int (nI n), .ref ak, .ref ac, .ref aq, .ref af])), (ak, .inl (cI, n, .inl zk)), (ac, .inl (cI, n, .inl zc)), (aq, .inl (cI, n, .inl zq)), (af, .inl (cI, n, .inl zf)), (mo, .inr (1, [.ref ax, .ref av])), (ax, .inl (cL, n, .inr (.inl px))), (av, .inl (cL, n, .inr (.inl (zDv n zk zc zq zf hh px pv))))] t) A) (by decide) (Nat.le_of_ble_eq_true rfl) ?_
  intro p e s m below meth c A ls hx hb hr hml hT hN hown hlocks hin hl hP hK hD hA hS
  have hl : lv_has ls 7 [(0, .ref sp), (1, .ref mo), (2, .int hh)] := hl
  refine lv_iconst (v := zAll (zDv n zk zc zq zf hh px pv) 0) hx hb d_S_changeSpeeds_0 rfl ?_
  refine lv_istore_n (lv' := [(3, .int (zAll (zDv n zk zc zq zf hh px pv) 0)), (0, .ref sp), (1, .ref mo), (2, .int hh)]) hx hb d_S_changeSpeeds_1 rfl hl (by decide) rfl (fun ls hl => ?_)
  refine lv_iconst (v := nI 0) hx hb d_S_changeSpeeds_2 (by decide) ?_
  refine lv_istore (lv' := [(4, .int (nI 0)), (3, .int (zAll (zDv n zk zc zq zf hh px pv) 0)), (0, .ref sp), (1, .ref mo), (2, .int hh)]) hx hb d_S_changeSpeeds_3 hl (by decide) rfl (fun ls hl => ?_)
  have hP : va_P D vwCl [(sp, .inr (2, [.int (nI n), .ref ak, .ref ac, .ref aq, .ref af])), (ak, .inl (cI, n, .inl zk)), (ac, .inl (cI, n, .inl zc)), (aq, .inl (cI, n, .inl zq)), (af, .inl (cI, n, .inl zf)), (mo, .inr (1, [.ref ax, .ref av])), (ax, .inl (cL, n, .inr (.inl px))), (av, .inl (cL, n, .inr (.inl (zMix 0 (zDv n zk zc zq zf hh px pv) pv))))] s.heap := by rw [zMix_0]; exact hP
  have hD : va_D A [(sp, .inr (2, [.int (nI n), .ref ak, .ref ac, .ref aq, .ref af])), (ak, .inl (cI, n, .inl zk)), (ac, .inl (cI, n, .inl zc)), (aq, .inl (cI, n, .inl zq)), (af, .inl (cI, n, .inl zf)), (mo, .inr (1, [.ref ax, .ref av])), (ax, .inl (cL, n, .inr (.inl px))), (av, .inl (cL, n, .inr (.inl (zMix 0 (zDv n zk zc zq zf hh px pv) pv))))] := by rw [zMix_0]; exact hD
  refine wp_loop (α := Nat) (I := fun k x H locs ls => (x ≤ n ∧ n < x + k) ∧ va_P D vwCl [(sp, .inr (2, [.int (nI n), .ref ak, .ref ac, .ref aq, .ref af])), (ak, .inl (cI, n, .inl zk)), (ac, .inl (cI, n, .inl zc)), (aq, .inl (cI, n, .inl zq)), (af, .inl (cI, n, .inl zf)), (mo, .inr (1, [.ref ax, .ref av])), (ax, .inl (cL, n, .inr (.inl px))), (av, .inl (cL, n, .inr (.inl (zMix x (zDv n zk zc zq zf hh px pv) pv))))] H ∧ va_D A [(sp, .inr (2, [.int (nI n), .ref ak, .ref ac, .ref aq, .ref af])), (ak, .inl (cI, n, .inl zk)), (ac, .inl (cI, n, .inl zc)), (aq, .inl (cI, n, .inl zq)), (af, .inl (cI, n, .inl zf)), (mo, .inr (1, [.ref ax, .ref av])), (ax, .inl (cL, n, .inr (.inl px))), (av, .inl (cL, n, .inr (.inl (zMix x (zDv n zk zc zq zf hh px pv) pv))))] ∧ va_S A s.heap H locs ∧ lv_has ls 7 [(0, .ref sp), (1, .ref mo), (2, .int hh), (3, .int (zAll (zDv n zk zc zq zf hh px pv) x)), (4, .int (nI x))]) ?_ ?_ (n + 1) 0 ⟨(by (try dsimp only); omega), hP.sub [0, 1, 2, 3, 4, 5, 6, 7] rfl, hD.sub [0, 1, 2, 3, 4, 5, 6, 7] (by decide) rfl, hS, lv_sub hl [2, 3, 4, 1, 0] rfl⟩
  · intro x H locs ls h; have h9 := h.1; (try dsimp only at h9); omega
  · intro k x H locs ls h ih
    obtain ⟨i, rfl⟩ : ∃ z, z = x := ⟨_, rfl⟩
    obtain ⟨hk, hP, hD, hS, hl⟩ := h
    have hk : i ≤ n ∧ n < i + (k + 1) := hk
    have hP : va_P D vwCl [(sp, .inr (2, [.int (nI n), .ref ak, .ref ac, .ref aq, .ref af])), (ak, .inl (cI, n, .inl zk)), (ac, .inl (cI, n, .inl zc)), (aq, .inl (cI, n, .inl zq)), (af, .inl (cI, n, .inl zf)), (mo, .inr (1, [.ref ax, .ref av])), (ax, .inl (cL, n, .inr (.inl px))), (av, .inl (cL, n, .inr (.inl (zMix i (zDv n zk zc zq zf hh px pv) pv))))] H := hP
    have hD : va_D A [(sp, .inr (2, [.int (nI n), .ref ak, .ref ac, .ref aq, .ref af])), (ak, .inl (cI, n, .inl zk)), (ac, .inl (cI, n, .inl zc)), (aq, .inl (cI, n, .inl zq)), (af, .inl (cI, n, .inl zf)), (mo, .inr (1, [.ref ax, .ref av])), (ax, .inl (cL, n, .inr (.inl px))), (av, .inl (cL, n, .inr (.inl (zMix i (zDv n zk zc zq zf hh px pv) pv))))] := hD
    have hl : lv_has ls 7 [(0, .ref sp), (1, .ref mo), (2, .int hh), (3, .int (zAll (zDv n zk zc zq zf hh px pv) i)), (4, .int (nI i))] := hl
    refine lv_iload hx hb d_S_changeSpeeds_5 (lv_at hl 4 rfl) ?_
    refine lv_aload_n hx hb d_S_changeSpeeds_7 rfl (lv_at hl 0 rfl) ?_
    refine va_get (D := D) (ci := 2) (v := .int (nI n)) (C := "OscillatorRow$Springs") (T := T_S) (N := 5) hx hb hT i_S hown hK hP 0 rfl rfl 0 (by decide) (hT _ k_29) (fun _ h9 => h9) rfl d_S_changeSpeeds_8 ?_
    refine lv_icmp_ge (tgt := 72) hx hb d_S_changeSpeeds_11 (by decide) (fun c11 => ?_) (fun c11 => ?_)
    · have c11 := nI_leM c11 (by omega) (by omega)
      have ein : n = i := by omega
      subst ein
      refine lv_iload_n hx hb d_S_changeSpeeds_72 rfl (lv_at hl 3 rfl) ?_
      obtain ⟨hP, hD⟩ := va_reL (zDv n zk zc zq zf hh px pv) 7 hP hD rfl (fun j hj => zMix_lt hj)
      have hP : va_P D vwCl [(sp, .inr (2, [.int (nI n), .ref ak, .ref ac, .ref aq, .ref af])), (ak, .inl (cI, n, .inl zk)), (ac, .inl (cI, n, .inl zc)), (aq, .inl (cI, n, .inl zq)), (af, .inl (cI, n, .inl zf)), (mo, .inr (1, [.ref ax, .ref av])), (ax, .inl (cL, n, .inr (.inl px))), (av, .inl (cL, n, .inr (.inl (zDv n zk zc zq zf hh px pv))))] H := hP
      have hD : va_D A [(sp, .inr (2, [.int (nI n), .ref ak, .ref ac, .ref aq, .ref af])), (ak, .inl (cI, n, .inl zk)), (ac, .inl (cI, n, .inl zc)), (aq, .inl (cI, n, .inl zq)), (af, .inl (cI, n, .inl zf)), (mo, .inr (1, [.ref ax, .ref av])), (ax, .inl (cL, n, .inr (.inl px))), (av, .inl (cL, n, .inr (.inl (zDv n zk zc zq zf hh px pv))))] := hD
      exact re_z (v := zAll (zDv n zk zc zq zf hh px pv) n) () hx hb hr (nz_01 (zAll_01 _ _)) hlocks rfl (hP.sub [0, 1, 2, 3, 4, 5, 6, 7] rfl) hK (hD.sub [0, 1, 2, 3, 4, 5, 6, 7] (by decide) rfl) hS d_S_changeSpeeds_73
    · have c11 := nI_nleM c11 (by omega) (by omega)
      refine lv_aload_n hx hb d_S_changeSpeeds_14 rfl (lv_at hl 0 rfl) ?_
      refine lv_iload hx hb d_S_changeSpeeds_15 (lv_at hl 4 rfl) ?_
      refine lv_aload_n hx hb d_S_changeSpeeds_17 rfl (lv_at hl 1 rfl) ?_
      have hPc := hP.sub (ws' := [(sp, .inr (2, [.int (nI n), .ref ak, .ref ac, .ref aq, .ref af])), (ak, .inl (cI, n, .inl zk)), (ac, .inl (cI, n, .inl zc)), (aq, .inl (cI, n, .inl zq)), (af, .inl (cI, n, .inl zf)), (mo, .inr (1, [.ref ax, .ref av])), (ax, .inl (cL, n, .inr (.inl px))), (av, .inl (cL, n, .inr (.inl (zMix i (zDv n zk zc zq zf hh px pv) pv))))]) [0, 1, 2, 3, 4, 5, 6, 7] rfl
      have hDc := hD.sub (ws' := [(sp, .inr (2, [.int (nI n), .ref ak, .ref ac, .ref aq, .ref af])), (ak, .inl (cI, n, .inl zk)), (ac, .inl (cI, n, .inl zc)), (aq, .inl (cI, n, .inl zq)), (af, .inl (cI, n, .inl zf)), (mo, .inr (1, [.ref ax, .ref av])), (ax, .inl (cL, n, .inr (.inl px))), (av, .inl (cL, n, .inr (.inl (zMix i (zDv n zk zc zq zf hh px pv) pv))))]) [0, 1, 2, 3, 4, 5, 6, 7] (by decide) rfl
      refine gc_l (w1 := fun (u : Unit) => [(sp, .inr (2, [.int (nI n), .ref ak, .ref ac, .ref aq, .ref af])), (ak, .inl (cI, n, .inl zk)), (ac, .inl (cI, n, .inl zc)), (aq, .inl (cI, n, .inl zq)), (af, .inl (cI, n, .inl zf)), (mo, .inr (1, [.ref ax, .ref av])), (ax, .inl (cL, n, .inr (.inl px))), (av, .inl (cL, n, .inr (.inl (zMix i (zDv n zk zc zq zf hh px pv) pv))))]) (wc := [(sp, .inr (2, [.int (nI n), .ref ak, .ref ac, .ref aq, .ref af])), (ak, .inl (cI, n, .inl zk)), (ac, .inl (cI, n, .inl zc)), (aq, .inl (cI, n, .inl zq)), (af, .inl (cI, n, .inl zf)), (mo, .inr (1, [.ref ax, .ref av])), (ax, .inl (cL, n, .inr (.inl px))), (av, .inl (cL, n, .inr (.inl (zMix i (zDv n zk zc zq zf hh px pv) pv))))]) (wr := []) hP hD hS hA [0, 1, 2, 3, 4, 5, 6, 7] [] rfl rfl (by decide) (by decide) (va_runV (As := [.int (nI i), .ref mo]) (rest := []) ⟨hx, hb, hml, hown, hT⟩ (c_S_push l D cI cL cW cZ sp ak ac aq af n zk zc zq zf mo ax av px (zMix i (zDv n zk zc zq zf hh px pv) pv) i H.size c11 hn) (cwV 2 hT (good_V k_235 k_236 k_237 k_3 k_238) rfl rfl rfl (by decide +kernel) ⟨Nat.le_of_ble_eq_true rfl, Nat.le_of_ble_eq_true rfl⟩) (pre_V hPc hDc hK hN (ci := 2) rfl rfl) rfl rfl hl.1 rfl (lv_room (Nat.le_of_ble_eq_true rfl)) d_S_changeSpeeds_18 ⟨(Nat.le_of_ble_eq_true rfl), (Nat.le_of_ble_eq_true rfl)⟩) (fun r u H locs hw hP hD hS => ?_)
      try dsimp only at hw
      have hP : va_P D vwCl [(sp, .inr (2, [.int (nI n), .ref ak, .ref ac, .ref aq, .ref af])), (ak, .inl (cI, n, .inl zk)), (ac, .inl (cI, n, .inl zc)), (aq, .inl (cI, n, .inl zq)), (af, .inl (cI, n, .inl zf)), (mo, .inr (1, [.ref ax, .ref av])), (ax, .inl (cL, n, .inr (.inl px))), (av, .inl (cL, n, .inr (.inl (zMix i (zDv n zk zc zq zf hh px pv) pv))))] H := hP
      have hD : va_D A [(sp, .inr (2, [.int (nI n), .ref ak, .ref ac, .ref aq, .ref af])), (ak, .inl (cI, n, .inl zk)), (ac, .inl (cI, n, .inl zc)), (aq, .inl (cI, n, .inl zq)), (af, .inl (cI, n, .inl zf)), (mo, .inr (1, [.ref ax, .ref av])), (ax, .inl (cL, n, .inr (.inl px))), (av, .inl (cL, n, .inr (.inl (zMix i (zDv n zk zc zq zf hh px pv) pv))))] := hD
      subst hw
      refine top_l (y := (zPush n zk zc zq zf px pv i)) (zPush_v (zMix_ge (Nat.le_refl i))) ?_
      refine lv_iconst (v := 4) hx hb d_S_changeSpeeds_21 (by decide) ?_
      refine lv_iload_n hx hb d_S_changeSpeeds_22 rfl (lv_at hl 2 rfl) ?_
      refine lv_iadd hx hb d_S_changeSpeeds_23 ?_
      refine lv_iconst (v := 1) hx hb d_S_changeSpeeds_24 (by decide) ?_
      refine lv_iadd hx hb d_S_changeSpeeds_25 ?_
      have hPc := hP.sub (ws' := []) [] rfl
      have hDc := hD.sub (ws' := []) [] (by decide) rfl
      refine gc_l (w1 := fun (u : Unit) => []) (wc := []) (wr := [(sp, .inr (2, [.int (nI n), .ref ak, .ref ac, .ref aq, .ref af])), (ak, .inl (cI, n, .inl zk)), (ac, .inl (cI, n, .inl zc)), (aq, .inl (cI, n, .inl zq)), (af, .inl (cI, n, .inl zf)), (mo, .inr (1, [.ref ax, .ref av])), (ax, .inl (cL, n, .inr (.inl px))), (av, .inl (cL, n, .inr (.inl (zMix i (zDv n zk zc zq zf hh px pv) pv))))]) hP hD hS hA [] [0, 1, 2, 3, 4, 5, 6, 7] rfl rfl (by decide) (by decide) (va_runS (As := [.long (zPush n zk zc zq zf px pv i), .int ((4 + hh) + 1)]) (rest := []) ⟨hx, hb, hml, hown, hT⟩ (c_S_rnd l D cI cL cW cZ (zPush n zk zc zq zf px pv i) ((4 + hh) + 1) H.size) (cwS 2 hT (good_S k_239 k_240 k_3 k_241) rfl rfl rfl (by decide +kernel) ⟨Nat.le_of_ble_eq_true rfl, Nat.le_of_ble_eq_true rfl⟩) (pre_S hPc hDc hK hN) rfl rfl hl.1 rfl (lv_room (Nat.le_of_ble_eq_true rfl)) d_S_changeSpeeds_26 ⟨(Nat.le_of_ble_eq_true rfl), (Nat.le_of_ble_eq_true rfl)⟩) (fun r u H locs hw hP hD hS => ?_)
      try dsimp only at hw
      have hP : va_P D vwCl [(sp, .inr (2, [.int (nI n), .ref ak, .ref ac, .ref aq, .ref af])), (ak, .inl (cI, n, .inl zk)), (ac, .inl (cI, n, .inl zc)), (aq, .inl (cI, n, .inl zq)), (af, .inl (cI, n, .inl zf)), (mo, .inr (1, [.ref ax, .ref av])), (ax, .inl (cL, n, .inr (.inl px))), (av, .inl (cL, n, .inr (.inl (zMix i (zDv n zk zc zq zf hh px pv) pv))))] H := hP
      have hD : va_D A [(sp, .inr (2, [.int (nI n), .ref ak, .ref ac, .ref aq, .ref af])), (ak, .inl (cI, n, .inl zk)), (ac, .inl (cI, n, .inl zc)), (aq, .inl (cI, n, .inl zq)), (af, .inl (cI, n, .inl zf)), (mo, .inr (1, [.ref ax, .ref av])), (ax, .inl (cL, n, .inr (.inl px))), (av, .inl (cL, n, .inr (.inl (zMix i (zDv n zk zc zq zf hh px pv) pv))))] := hD
      subst hw
      refine lv_lstore (lv' := [(5, .long (zRnd (zPush n zk zc zq zf px pv i) ((4 + hh) + 1))), (0, .ref sp), (1, .ref mo), (2, .int hh), (3, .int (zAll (zDv n zk zc zq zf hh px pv) i)), (4, .int (nI i))]) hx hb d_S_changeSpeeds_29 hl (by decide) rfl (fun ls hl => ?_)
      refine lv_aload_n hx hb d_S_changeSpeeds_31 rfl (lv_at hl 2 rfl) ?_
      refine va_getN (D := D) (ci := 1) (v := .ref av) (C := "OscillatorRow$Motion") (T := T_M) (N := 2) hx hb hT i_M hown hK hP 5 rfl rfl 1 (by decide) (va_Nw.use rfl (hN _ j_60)) (fun _ h9 => h9) rfl d_S_changeSpeeds_32 ?_
      refine lv_iload hx hb d_S_changeSpeeds_35 (lv_at hl 5 rfl) ?_
      refine lv_dup2_11 hx hb d_S_changeSpeeds_37 rfl rfl ?_
      refine ra_lald (j := i) hx hb hK hP 7 1 rfl rfl (by omega) (by omega) d_S_changeSpeeds_38 ?_
      refine top_l (y := (pv i)) (zMix_ge (Nat.le_refl i)) ?_
      refine lv_lload hx hb d_S_changeSpeeds_39 (lv_at hl 0 rfl) ?_
      refine lv_ladd hx hb d_S_changeSpeeds_41 ?_
      refine ra_last (j := i) hx hb hK hP hD hS 7 1 rfl rfl (by omega) (by omega) d_S_changeSpeeds_42 (fun H locs hP hD hS => ?_)
      have hP : va_P D vwCl [(sp, .inr (2, [.int (nI n), .ref ak, .ref ac, .ref aq, .ref af])), (ak, .inl (cI, n, .inl zk)), (ac, .inl (cI, n, .inl zc)), (aq, .inl (cI, n, .inl zq)), (af, .inl (cI, n, .inl zf)), (mo, .inr (1, [.ref ax, .ref av])), (ax, .inl (cL, n, .inr (.inl px))), (av, .inl (cL, n, .inr (.inl (vp_updL (zMix i (zDv n zk zc zq zf hh px pv) pv) i ((pv i) + (zRnd (zPush n zk zc zq zf px pv i) ((4 + hh) + 1)))))))] H := hP
      have hD : va_D A [(sp, .inr (2, [.int (nI n), .ref ak, .ref ac, .ref aq, .ref af])), (ak, .inl (cI, n, .inl zk)), (ac, .inl (cI, n, .inl zc)), (aq, .inl (cI, n, .inl zq)), (af, .inl (cI, n, .inl zf)), (mo, .inr (1, [.ref ax, .ref av])), (ax, .inl (cL, n, .inr (.inl px))), (av, .inl (cL, n, .inr (.inl (vp_updL (zMix i (zDv n zk zc zq zf hh px pv) pv) i ((pv i) + (zRnd (zPush n zk zc zq zf px pv i) ((4 + hh) + 1)))))))] := hD
      have hP : va_P D vwCl [(sp, .inr (2, [.int (nI n), .ref ak, .ref ac, .ref aq, .ref af])), (ak, .inl (cI, n, .inl zk)), (ac, .inl (cI, n, .inl zc)), (aq, .inl (cI, n, .inl zq)), (af, .inl (cI, n, .inl zf)), (mo, .inr (1, [.ref ax, .ref av])), (ax, .inl (cL, n, .inr (.inl px))), (av, .inl (cL, n, .inr (.inl (zMix (i + 1) (zDv n zk zc zq zf hh px pv) pv))))] H := by rw [zMix_put]; exact hP
      have hD : va_D A [(sp, .inr (2, [.int (nI n), .ref ak, .ref ac, .ref aq, .ref af])), (ak, .inl (cI, n, .inl zk)), (ac, .inl (cI, n, .inl zc)), (aq, .inl (cI, n, .inl zq)), (af, .inl (cI, n, .inl zf)), (mo, .inr (1, [.ref ax, .ref av])), (ax, .inl (cL, n, .inr (.inl px))), (av, .inl (cL, n, .inr (.inl (zMix (i + 1) (zDv n zk zc zq zf hh px pv) pv))))] := by rw [zMix_put]; exact hD
      refine lv_iload_n hx hb d_S_changeSpeeds_43 rfl (lv_at hl 4 rfl) ?_
      refine lv_if_eq (tgt := 64) hx hb d_S_changeSpeeds_44 (by decide) (fun c44 => ?_) (fun c44 => ?_)
      · refine lv_iconst (v := 0) hx hb d_S_changeSpeeds_64 (by decide) ?_
        refine top_i (y := (zAll (zDv n zk zc zq zf hh px pv) (i + 1))) (by rw [zAll, if_pos c44]) ?_
        refine lv_istore_n (lv' := [(3, .int (zAll (zDv n zk zc zq zf hh px pv) (i + 1))), (5, .long (zRnd (zPush n zk zc zq zf px pv i) ((4 + hh) + 1))), (0, .ref sp), (1, .ref mo), (2, .int hh), (4, .int (nI i))]) hx hb d_S_changeSpeeds_65 rfl hl (by decide) rfl (fun ls hl => ?_)
        refine lv_iinc (v := (nI (i + 1))) (lv' := [(4, .int (nI (i + 1))), (3, .int (zAll (zDv n zk zc zq zf hh px pv) (i + 1))), (5, .long (zRnd (zPush n zk zc zq zf px pv i) ((4 + hh) + 1))), (0, .ref sp), (1, .ref mo), (2, .int hh)]) hx hb d_S_changeSpeeds_66 hl (k := 5) rfl (nI_1 i) (by decide) rfl (fun ls hl => ?_)
        refine lv_goto (tgt := 5) hx hb d_S_changeSpeeds_69 (by decide) ?_
        exact ih (i + 1) _ _ _ ⟨(by (try dsimp only); omega), hP.sub [0, 1, 2, 3, 4, 5, 6, 7] rfl, hD.sub [0, 1, 2, 3, 4, 5, 6, 7] (by decide) rfl, hS, lv_sub hl [3, 4, 5, 1, 0] rfl⟩
      · refine lv_aload_n hx hb d_S_changeSpeeds_47 rfl (lv_at hl 2 rfl) ?_
        refine va_getN (D := D) (ci := 1) (v := .ref av) (C := "OscillatorRow$Motion") (T := T_M) (N := 2) hx hb hT i_M hown hK hP 5 rfl rfl 1 (by decide) (va_Nw.use rfl (hN _ j_60)) (fun _ h9 => h9) rfl d_S_changeSpeeds_48 ?_
        refine lv_iload hx hb d_S_changeSpeeds_51 (lv_at hl 5 rfl) ?_
        refine ra_lald (j := i) hx hb hK hP 7 1 rfl rfl (by omega) (by omega) d_S_changeSpeeds_53 ?_
        refine top_l (y := (zDv n zk zc zq zf hh px pv i)) (zMix_lt (Nat.lt_succ_self i)) ?_
        have hPc := hP.sub (ws' := []) [] rfl
        have hDc := hD.sub (ws' := []) [] (by decide) rfl
        refine gc_i (w1 := fun (u : Unit) => []) (wc := []) (wr := [(sp, .inr (2, [.int (nI n), .ref ak, .ref ac, .ref aq, .ref af])), (ak, .inl (cI, n, .inl zk)), (ac, .inl (cI, n, .inl zc)), (aq, .inl (cI, n, .inl zq)), (af, .inl (cI, n, .inl zf)), (mo, .inr (1, [.ref ax, .ref av])), (ax, .inl (cL, n, .inr (.inl px))), (av, .inl (cL, n, .inr (.inl (zMix (i + 1) (zDv n zk zc zq zf hh px pv) pv))))]) hP hD hS hA [] [0, 1, 2, 3, 4, 5, 6, 7] rfl rfl (by decide) (by decide) (va_runS (As := [.long (zDv n zk zc zq zf hh px pv i)]) (rest := []) ⟨hx, hb, hml, hown, hT⟩ (c_S_near l D cI cL cW cZ (zDv n zk zc zq zf hh px pv i) H.size) (cwS 1 hT (good_S k_242 k_243 k_3 k_244) rfl rfl rfl (by decide +kernel) ⟨Nat.le_of_ble_eq_true rfl, Nat.le_of_ble_eq_true rfl⟩) (pre_S hPc hDc hK hN) rfl rfl hl.1 rfl (lv_room (Nat.le_of_ble_eq_true rfl)) d_S_changeSpeeds_54 ⟨(Nat.le_of_ble_eq_true rfl), (Nat.le_of_ble_eq_true rfl)⟩) (fun r u H locs hw hP hD hS => ?_)
        try dsimp only at hw
        have hP : va_P D vwCl [(sp, .inr (2, [.int (nI n), .ref ak, .ref ac, .ref aq, .ref af])), (ak, .inl (cI, n, .inl zk)), (ac, .inl (cI, n, .inl zc)), (aq, .inl (cI, n, .inl zq)), (af, .inl (cI, n, .inl zf)), (mo, .inr (1, [.ref ax, .ref av])), (ax, .inl (cL, n, .inr (.inl px))), (av, .inl (cL, n, .inr (.inl (zMix (i + 1) (zDv n zk zc zq zf hh px pv) pv))))] H := hP
        have hD : va_D A [(sp, .inr (2, [.int (nI n), .ref ak, .ref ac, .ref aq, .ref af])), (ak, .inl (cI, n, .inl zk)), (ac, .inl (cI, n, .inl zc)), (aq, .inl (cI, n, .inl zq)), (af, .inl (cI, n, .inl zf)), (mo, .inr (1, [.ref ax, .ref av])), (ax, .inl (cL, n, .inr (.inl px))), (av, .inl (cL, n, .inr (.inl (zMix (i + 1) (zDv n zk zc zq zf hh px pv) pv))))] := hD
        subst hw
        refine lv_if_eq (tgt := 64) hx hb d_S_changeSpeeds_57 (by decide) (fun c57 => ?_) (fun c57 => ?_)
        · refine lv_iconst (v := 0) hx hb d_S_changeSpeeds_64 (by decide) ?_
          refine top_i (y := (zAll (zDv n zk zc zq zf hh px pv) (i + 1))) (by rw [zAll, if_neg c44, c57]) ?_
          refine lv_istore_n (lv' := [(3, .int (zAll (zDv n zk zc zq zf hh px pv) (i + 1))), (5, .long (zRnd (zPush n zk zc zq zf px pv i) ((4 + hh) + 1))), (0, .ref sp), (1, .ref mo), (2, .int hh), (4, .int (nI i))]) hx hb d_S_changeSpeeds_65 rfl hl (by decide) rfl (fun ls hl => ?_)
          refine lv_iinc (v := (nI (i + 1))) (lv' := [(4, .int (nI (i + 1))), (3, .int (zAll (zDv n zk zc zq zf hh px pv) (i + 1))), (5, .long (zRnd (zPush n zk zc zq zf px pv i) ((4 + hh) + 1))), (0, .ref sp), (1, .ref mo), (2, .int hh)]) hx hb d_S_changeSpeeds_66 hl (k := 5) rfl (nI_1 i) (by decide) rfl (fun ls hl => ?_)
          refine lv_goto (tgt := 5) hx hb d_S_changeSpeeds_69 (by decide) ?_
          exact ih (i + 1) _ _ _ ⟨(by (try dsimp only); omega), hP.sub [0, 1, 2, 3, 4, 5, 6, 7] rfl, hD.sub [0, 1, 2, 3, 4, 5, 6, 7] (by decide) rfl, hS, lv_sub hl [3, 4, 5, 1, 0] rfl⟩
        · refine lv_iconst (v := 1) hx hb d_S_changeSpeeds_60 (by decide) ?_
          refine lv_goto (tgt := 65) hx hb d_S_changeSpeeds_61 (by decide) ?_
          refine top_i (y := (zAll (zDv n zk zc zq zf hh px pv) (i + 1))) (by rw [zAll, if_neg c44, zNear_1 c57]) ?_
          refine lv_istore_n (lv' := [(3, .int (zAll (zDv n zk zc zq zf hh px pv) (i + 1))), (5, .long (zRnd (zPush n zk zc zq zf px pv i) ((4 + hh) + 1))), (0, .ref sp), (1, .ref mo), (2, .int hh), (4, .int (nI i))]) hx hb d_S_changeSpeeds_65 rfl hl (by decide) rfl (fun ls hl => ?_)
          refine lv_iinc (v := (nI (i + 1))) (lv' := [(4, .int (nI (i + 1))), (3, .int (zAll (zDv n zk zc zq zf hh px pv) (i + 1))), (5, .long (zRnd (zPush n zk zc zq zf px pv i) ((4 + hh) + 1))), (0, .ref sp), (1, .ref mo), (2, .int hh)]) hx hb d_S_changeSpeeds_66 hl (k := 5) rfl (nI_1 i) (by decide) rfl (fun ls hl => ?_)
          refine lv_goto (tgt := 5) hx hb d_S_changeSpeeds_69 (by decide) ?_
          exact ih (i + 1) _ _ _ ⟨(by (try dsimp only); omega), hP.sub [0, 1, 2, 3, 4, 5, 6, 7] rfl, hD.sub [0, 1, 2, 3, 4, 5, 6, 7] (by decide) rfl, hS, lv_sub hl [3, 4, 5, 1, 0] rfl⟩
set_option maxHeartbeats 4000000 in
set_option maxRecDepth 100000 in
theorem c_S_chp (l : Launch) (D : va_G) (cI cL cW cZ : ClassId) (sp : Nat) (ak : Nat) (ac : Nat) (aq : Nat) (af : Nat) (n : Nat) (zk : Nat → Int32) (zc : Nat → Int32) (zq : Nat → Int32) (zf : Nat → Int32) (mo : Nat) (ax : Nat) (av : Nat) (px : Nat → Int64) (pv : Nat → Int64) (hh : Int32) (sz : Nat) (hn : n ≤ 4) : Met l y_S_changePlaces w_S_changePlaces ({ frames := 1, cells := 0, slots := 0, locals := 24 }) (va_Pc [.ref sp, .ref mo, .int hh] (gP D vwCl (tyv cI cL cW cZ) [(sp, .inr (2, [.int (nI n), .ref ak, .ref ac, .ref aq, .ref af])), (ak, .inl (cI, n, .inl zk)), (ac, .inl (cI, n, .inl zc)), (aq, .inl (cI, n, .inl zq)), (af, .inl (cI, n, .inl zf)), (mo, .inr (1, [.ref ax, .ref av])), (ax, .inl (cL, n, .inr (.inl px))), (av, .inl (cL, n, .inr (.inl pv)))] sz)) (va_Qi (fun (r : Int32) (u : Unit) => r = zAll (zDx hh px pv) n) (fun u t => gB D vwCl (tyv cI cL cW cZ) (va_A [(sp, .inr (2, [.int (nI n), .ref ak, .ref ac, .ref aq, .ref af])), (ak, .inl (cI, n, .inl zk)), (ac, .inl (cI, n, .inl zc)), (aq, .inl (cI, n, .inl zq)), (af, .inl (cI, n, .inl zf)), (mo, .inr (1, [.ref ax, .ref av])), (ax, .inl (cL, n, .inr (.inl px))), (av, .inl (cL, n, .inr (.inl pv)))] sz) [(sp, .inr (2, [.int (nI n), .ref ak, .ref ac, .ref aq, .ref af])), (ak, .inl (cI, n, .inl zk)), (ac, .inl (cI, n, .inl zc)), (aq, .inl (cI, n, .inl zq)), (af, .inl (cI, n, .inl zf)), (mo, .inr (1, [.ref ax, .ref av])), (ax, .inl (cL, n, .inr (.inl (zDx hh px pv)))), (av, .inl (cL, n, .inr (.inl pv)))] t) (va_A [(sp, .inr (2, [.int (nI n), .ref ak, .ref ac, .ref aq, .ref af])), (ak, .inl (cI, n, .inl zk)), (ac, .inl (cI, n, .inl zc)), (aq, .inl (cI, n, .inl zq)), (af, .inl (cI, n, .inl zf)), (mo, .inr (1, [.ref ax, .ref av])), (ax, .inl (cL, n, .inr (.inl px))), (av, .inl (cL, n, .inr (.inl pv)))] sz)) 0 0 (va_A [(sp, .inr (2, [.int (nI n), .ref ak, .ref ac, .ref aq, .ref af])), (ak, .inl (cI, n, .inl zk)), (ac, .inl (cI, n, .inl zc)), (aq, .inl (cI, n, .inl zq)), (af, .inl (cI, n, .inl zf)), (mo, .inr (1, [.ref ax, .ref av])), (ax, .inl (cL, n, .inr (.inl px))), (av, .inl (cL, n, .inr (.inl pv)))] sz) := by
  refine met_go (cc := prog_4_method_5_code) (maxL := 5) (ret := (some .boolean)) (QA := fun A => va_Qi (fun (r : Int32) (u : Unit) => r = zAll (zDx hh px pv) n) (fun u t => gB D vwCl (tyv cI cL cW cZ) A [(sp, .inr (2, [.int (nI n), .ref ak, .ref ac, .ref aq, .ref af])), (ak, .inl (cI, n, .inl zk)), (ac, .inl (cI, n, .inl zc)), (aq, .inl (cI, n, .inl zq)), (af, .inl (cI, n, .inl zf)), (mo, .inr (1, [.ref ax, .ref av])), (ax, .inl (cL, n, .inr (.inl (zDx hh px pv)))), (av, .inl (cL, n, .inr (.inl pv)))] t) A) (by decide) (Nat.le_of_ble_eq_true rfl) ?_
  intro p e s m below meth c A ls hx hb hr hml hT hN hown hlocks hin hl hP hK hD hA hS
  have hl : lv_has ls 5 [(0, .ref sp), (1, .ref mo), (2, .int hh)] := hl
  refine lv_iconst (v := zAll (zDx hh px pv) 0) hx hb d_S_changePlaces_0 rfl ?_
  refine lv_istore_n (lv' := [(3, .int (zAll (zDx hh px pv) 0)), (0, .ref sp), (1, .ref mo), (2, .int hh)]) hx hb d_S_changePlaces_1 rfl hl (by decide) rfl (fun ls hl => ?_)
  refine lv_iconst (v := nI 0) hx hb d_S_changePlaces_2 (by decide) ?_
  refine lv_istore (lv' := [(4, .int (nI 0)), (3, .int (zAll (zDx hh px pv) 0)), (0, .ref sp), (1, .ref mo), (2, .int hh)]) hx hb d_S_changePlaces_3 hl (by decide) rfl (fun ls hl => ?_)
  have hP : va_P D vwCl [(sp, .inr (2, [.int (nI n), .ref ak, .ref ac, .ref aq, .ref af])), (ak, .inl (cI, n, .inl zk)), (ac, .inl (cI, n, .inl zc)), (aq, .inl (cI, n, .inl zq)), (af, .inl (cI, n, .inl zf)), (mo, .inr (1, [.ref ax, .ref av])), (ax, .inl (cL, n, .inr (.inl (zMix 0 (zDx hh px pv) px)))), (av, .inl (cL, n, .inr (.inl pv)))] s.heap := by rw [zMix_0]; exact hP
  have hD : va_D A [(sp, .inr (2, [.int (nI n), .ref ak, .ref ac, .ref aq, .ref af])), (ak, .inl (cI, n, .inl zk)), (ac, .inl (cI, n, .inl zc)), (aq, .inl (cI, n, .inl zq)), (af, .inl (cI, n, .inl zf)), (mo, .inr (1, [.ref ax, .ref av])), (ax, .inl (cL, n, .inr (.inl (zMix 0 (zDx hh px pv) px)))), (av, .inl (cL, n, .inr (.inl pv)))] := by rw [zMix_0]; exact hD
  refine wp_loop (α := Nat) (I := fun k x H locs ls => (x ≤ n ∧ n < x + k) ∧ va_P D vwCl [(sp, .inr (2, [.int (nI n), .ref ak, .ref ac, .ref aq, .ref af])), (ak, .inl (cI, n, .inl zk)), (ac, .inl (cI, n, .inl zc)), (aq, .inl (cI, n, .inl zq)), (af, .inl (cI, n, .inl zf)), (mo, .inr (1, [.ref ax, .ref av])), (ax, .inl (cL, n, .inr (.inl (zMix x (zDx hh px pv) px)))), (av, .inl (cL, n, .inr (.inl pv)))] H ∧ va_D A [(sp, .inr (2, [.int (nI n), .ref ak, .ref ac, .ref aq, .ref af])), (ak, .inl (cI, n, .inl zk)), (ac, .inl (cI, n, .inl zc)), (aq, .inl (cI, n, .inl zq)), (af, .inl (cI, n, .inl zf)), (mo, .inr (1, [.ref ax, .ref av])), (ax, .inl (cL, n, .inr (.inl (zMix x (zDx hh px pv) px)))), (av, .inl (cL, n, .inr (.inl pv)))] ∧ va_S A s.heap H locs ∧ lv_has ls 5 [(0, .ref sp), (1, .ref mo), (2, .int hh), (3, .int (zAll (zDx hh px pv) x)), (4, .int (nI x))]) ?_ ?_ (n + 1) 0 ⟨(by (try dsimp only); omega), hP.sub [0, 1, 2, 3, 4, 5, 6, 7] rfl, hD.sub [0, 1, 2, 3, 4, 5, 6, 7] (by decide) rfl, hS, lv_sub hl [2, 3, 4, 1, 0] rfl⟩
  · intro x H locs ls h; have h9 := h.1; (try dsimp only at h9); omega
  · intro k x H locs ls h ih
    obtain ⟨i, rfl⟩ : ∃ z, z = x := ⟨_, rfl⟩
    obtain ⟨hk, hP, hD, hS, hl⟩ := h
    have hk : i ≤ n ∧ n < i + (k + 1) := hk
    have hP : va_P D vwCl [(sp, .inr (2, [.int (nI n), .ref ak, .ref ac, .ref aq, .ref af])), (ak, .inl (cI, n, .inl zk)), (ac, .inl (cI, n, .inl zc)), (aq, .inl (cI, n, .inl zq)), (af, .inl (cI, n, .inl zf)), (mo, .inr (1, [.ref ax, .ref av])), (ax, .inl (cL, n, .inr (.inl (zMix i (zDx hh px pv) px)))), (av, .inl (cL, n, .inr (.inl pv)))] H := hP
    have hD : va_D A [(sp, .inr (2, [.int (nI n), .ref ak, .ref ac, .ref aq, .ref af])), (ak, .inl (cI, n, .inl zk)), (ac, .inl (cI, n, .inl zc)), (aq, .inl (cI, n, .inl zq)), (af, .inl (cI, n, .inl zf)), (mo, .inr (1, [.ref ax, .ref av])), (ax, .inl (cL, n, .inr (.inl (zMix i (zDx hh px pv) px)))), (av, .inl (cL, n, .inr (.inl pv)))] := hD
    have hl : lv_has ls 5 [(0, .ref sp), (1, .ref mo), (2, .int hh), (3, .int (zAll (zDx hh px pv) i)), (4, .int (nI i))] := hl
    refine lv_iload hx hb d_S_changePlaces_5 (lv_at hl 4 rfl) ?_
    refine lv_aload_n hx hb d_S_changePlaces_7 rfl (lv_at hl 0 rfl) ?_
    refine va_get (D := D) (ci := 2) (v := .int (nI n)) (C := "OscillatorRow$Springs") (T := T_S) (N := 5) hx hb hT i_S hown hK hP 0 rfl rfl 0 (by decide) (hT _ k_29) (fun _ h9 => h9) rfl d_S_changePlaces_8 ?_
    refine lv_icmp_ge (tgt := 64) hx hb d_S_changePlaces_11 (by decide) (fun c11 => ?_) (fun c11 => ?_)
    · have c11 := nI_leM c11 (by omega) (by omega)
      have ein : n = i := by omega
      subst ein
      refine lv_iload_n hx hb d_S_changePlaces_64 rfl (lv_at hl 3 rfl) ?_
      obtain ⟨hP, hD⟩ := va_reL (zDx hh px pv) 6 hP hD rfl (fun j hj => zMix_lt hj)
      have hP : va_P D vwCl [(sp, .inr (2, [.int (nI n), .ref ak, .ref ac, .ref aq, .ref af])), (ak, .inl (cI, n, .inl zk)), (ac, .inl (cI, n, .inl zc)), (aq, .inl (cI, n, .inl zq)), (af, .inl (cI, n, .inl zf)), (mo, .inr (1, [.ref ax, .ref av])), (ax, .inl (cL, n, .inr (.inl (zDx hh px pv)))), (av, .inl (cL, n, .inr (.inl pv)))] H := hP
      have hD : va_D A [(sp, .inr (2, [.int (nI n), .ref ak, .ref ac, .ref aq, .ref af])), (ak, .inl (cI, n, .inl zk)), (ac, .inl (cI, n, .inl zc)), (aq, .inl (cI, n, .inl zq)), (af, .inl (cI, n, .inl zf)), (mo, .inr (1, [.ref ax, .ref av])), (ax, .inl (cL, n, .inr (.inl (zDx hh px pv)))), (av, .inl (cL, n, .inr (.inl pv)))] := hD
      exact re_z (v := zAll (zDx hh px pv) n) () hx hb hr (nz_01 (zAll_01 _ _)) hlocks rfl (hP.sub [0, 1, 2, 3, 4, 5, 6, 7] rfl) hK (hD.sub [0, 1, 2, 3, 4, 5, 6, 7] (by decide) rfl) hS d_S_changePlaces_65
    · have c11 := nI_nleM c11 (by omega) (by omega)
      refine lv_aload_n hx hb d_S_changePlaces_14 rfl (lv_at hl 1 rfl) ?_
      refine va_getN (D := D) (ci := 1) (v := .ref ax) (C := "OscillatorRow$Motion") (T := T_M) (N := 2) hx hb hT i_M hown hK hP 5 rfl rfl 0 (by decide) (va_Nw.use rfl (hN _ j_57)) (fun _ h9 => h9) rfl d_S_changePlaces_15 ?_
      refine lv_iload hx hb d_S_changePlaces_18 (lv_at hl 4 rfl) ?_
      refine lv_dup2_11 hx hb d_S_changePlaces_20 rfl rfl ?_
      refine ra_lald (j := i) hx hb hK hP 6 1 rfl rfl (by omega) (by omega) d_S_changePlaces_21 ?_
      refine top_l (y := (px i)) (zMix_ge (Nat.le_refl i)) ?_
      refine lv_aload_n hx hb d_S_changePlaces_22 rfl (lv_at hl 1 rfl) ?_
      refine va_getN (D := D) (ci := 1) (v := .ref av) (C := "OscillatorRow$Motion") (T := T_M) (N := 2) hx hb hT i_M hown hK hP 5 rfl rfl 1 (by decide) (va_Nw.use rfl (hN _ j_60)) (fun _ h9 => h9) rfl d_S_changePlaces_23 ?_
      refine lv_iload hx hb d_S_changePlaces_26 (lv_at hl 4 rfl) ?_
      refine ra_lald (j := i) hx hb hK hP 7 1 rfl rfl (by omega) (by omega) d_S_changePlaces_28 ?_
      refine lv_iload_n hx hb d_S_changePlaces_29 rfl (lv_at hl 2 rfl) ?_
      have hPc := hP.sub (ws' := []) [] rfl
      have hDc := hD.sub (ws' := []) [] (by decide) rfl
      refine gc_l (w1 := fun (u : Unit) => []) (wc := []) (wr := [(sp, .inr (2, [.int (nI n), .ref ak, .ref ac, .ref aq, .ref af])), (ak, .inl (cI, n, .inl zk)), (ac, .inl (cI, n, .inl zc)), (aq, .inl (cI, n, .inl zq)), (af, .inl (cI, n, .inl zf)), (mo, .inr (1, [.ref ax, .ref av])), (ax, .inl (cL, n, .inr (.inl (zMix i (zDx hh px pv) px)))), (av, .inl (cL, n, .inr (.inl pv)))]) hP hD hS hA [] [0, 1, 2, 3, 4, 5, 6, 7] rfl rfl (by decide) (by decide) (va_runS (As := [.long (pv i), .int hh]) (rest := [.long (px i), .int (nI i), .ref ax]) ⟨hx, hb, hml, hown, hT⟩ (c_S_rnd l D cI cL cW cZ (pv i) hh H.size) (cwS 2 hT (good_S k_239 k_240 k_3 k_241) rfl rfl rfl (by decide +kernel) ⟨Nat.le_of_ble_eq_true rfl, Nat.le_of_ble_eq_true rfl⟩) (pre_S hPc hDc hK hN) rfl rfl hl.1 rfl (lv_room (Nat.le_of_ble_eq_true rfl)) d_S_changePlaces_30 ⟨(Nat.le_of_ble_eq_true rfl), (Nat.le_of_ble_eq_true rfl)⟩) (fun r u H locs hw hP hD hS => ?_)
      try dsimp only at hw
      have hP : va_P D vwCl [(sp, .inr (2, [.int (nI n), .ref ak, .ref ac, .ref aq, .ref af])), (ak, .inl (cI, n, .inl zk)), (ac, .inl (cI, n, .inl zc)), (aq, .inl (cI, n, .inl zq)), (af, .inl (cI, n, .inl zf)), (mo, .inr (1, [.ref ax, .ref av])), (ax, .inl (cL, n, .inr (.inl (zMix i (zDx hh px pv) px)))), (av, .inl (cL, n, .inr (.inl pv)))] H := hP
      have hD : va_D A [(sp, .inr (2, [.int (nI n), .ref ak, .ref ac, .ref aq, .ref af])), (ak, .inl (cI, n, .inl zk)), (ac, .inl (cI, n, .inl zc)), (aq, .inl (cI, n, .inl zq)), (af, .inl (cI, n, .inl zf)), (mo, .inr (1, [.ref ax, .ref av])), (ax, .inl (cL, n, .inr (.inl (zMix i (zDx hh px pv) px)))), (av, .inl (cL, n, .inr (.inl pv)))] := hD
      subst hw
      refine lv_ladd hx hb d_S_changePlaces_33 ?_
      refine ra_last (j := i) hx hb hK hP hD hS 6 1 rfl rfl (by omega) (by omega) d_S_changePlaces_34 (fun H locs hP hD hS => ?_)
      have hP : va_P D vwCl [(sp, .inr (2, [.int (nI n), .ref ak, .ref ac, .ref aq, .ref af])), (ak, .inl (cI, n, .inl zk)), (ac, .inl (cI, n, .inl zc)), (aq, .inl (cI, n, .inl zq)), (af, .inl (cI, n, .inl zf)), (mo, .inr (1, [.ref ax, .ref av])), (ax, .inl (cL, n, .inr (.inl (vp_updL (zMix i (zDx hh px pv) px) i ((px i) + (zRnd (pv i) hh)))))), (av, .inl (cL, n, .inr (.inl pv)))] H := hP
      have hD : va_D A [(sp, .inr (2, [.int (nI n), .ref ak, .ref ac, .ref aq, .ref af])), (ak, .inl (cI, n, .inl zk)), (ac, .inl (cI, n, .inl zc)), (aq, .inl (cI, n, .inl zq)), (af, .inl (cI, n, .inl zf)), (mo, .inr (1, [.ref ax, .ref av])), (ax, .inl (cL, n, .inr (.inl (vp_updL (zMix i (zDx hh px pv) px) i ((px i) + (zRnd (pv i) hh)))))), (av, .inl (cL, n, .inr (.inl pv)))] := hD
      have hP : va_P D vwCl [(sp, .inr (2, [.int (nI n), .ref ak, .ref ac, .ref aq, .ref af])), (ak, .inl (cI, n, .inl zk)), (ac, .inl (cI, n, .inl zc)), (aq, .inl (cI, n, .inl zq)), (af, .inl (cI, n, .inl zf)), (mo, .inr (1, [.ref ax, .ref av])), (ax, .inl (cL, n, .inr (.inl (zMix (i + 1) (zDx hh px pv) px)))), (av, .inl (cL, n, .inr (.inl pv)))] H := by rw [zMix_put]; exact hP
      have hD : va_D A [(sp, .inr (2, [.int (nI n), .ref ak, .ref ac, .ref aq, .ref af])), (ak, .inl (cI, n, .inl zk)), (ac, .inl (cI, n, .inl zc)), (aq, .inl (cI, n, .inl zq)), (af, .inl (cI, n, .inl zf)), (mo, .inr (1, [.ref ax, .ref av])), (ax, .inl (cL, n, .inr (.inl (zMix (i + 1) (zDx hh px pv) px)))), (av, .inl (cL, n, .inr (.inl pv)))] := by rw [zMix_put]; exact hD
      refine lv_iload_n hx hb d_S_changePlaces_35 rfl (lv_at hl 3 rfl) ?_
      refine lv_if_eq (tgt := 56) hx hb d_S_changePlaces_36 (by decide) (fun c36 => ?_) (fun c36 => ?_)
      · refine lv_iconst (v := 0) hx hb d_S_changePlaces_56 (by decide) ?_
        refine top_i (y := (zAll (zDx hh px pv) (i + 1))) (by rw [zAll, if_pos c36]) ?_
        refine lv_istore_n (lv' := [(3, .int (zAll (zDx hh px pv) (i + 1))), (0, .ref sp), (1, .ref mo), (2, .int hh), (4, .int (nI i))]) hx hb d_S_changePlaces_57 rfl hl (by decide) rfl (fun ls hl => ?_)
        refine lv_iinc (v := (nI (i + 1))) (lv' := [(4, .int (nI (i + 1))), (3, .int (zAll (zDx hh px pv) (i + 1))), (0, .ref sp), (1, .ref mo), (2, .int hh)]) hx hb d_S_changePlaces_58 hl (k := 4) rfl (nI_1 i) (by decide) rfl (fun ls hl => ?_)
        refine lv_goto (tgt := 5) hx hb d_S_changePlaces_61 (by decide) ?_
        exact ih (i + 1) _ _ _ ⟨(by (try dsimp only); omega), hP.sub [0, 1, 2, 3, 4, 5, 6, 7] rfl, hD.sub [0, 1, 2, 3, 4, 5, 6, 7] (by decide) rfl, hS, lv_sub hl [2, 3, 4, 1, 0] rfl⟩
      · refine lv_aload_n hx hb d_S_changePlaces_39 rfl (lv_at hl 1 rfl) ?_
        refine va_getN (D := D) (ci := 1) (v := .ref ax) (C := "OscillatorRow$Motion") (T := T_M) (N := 2) hx hb hT i_M hown hK hP 5 rfl rfl 0 (by decide) (va_Nw.use rfl (hN _ j_57)) (fun _ h9 => h9) rfl d_S_changePlaces_40 ?_
        refine lv_iload hx hb d_S_changePlaces_43 (lv_at hl 4 rfl) ?_
        refine ra_lald (j := i) hx hb hK hP 6 1 rfl rfl (by omega) (by omega) d_S_changePlaces_45 ?_
        refine top_l (y := (zDx hh px pv i)) (zMix_lt (Nat.lt_succ_self i)) ?_
        have hPc := hP.sub (ws' := []) [] rfl
        have hDc := hD.sub (ws' := []) [] (by decide) rfl
        refine gc_i (w1 := fun (u : Unit) => []) (wc := []) (wr := [(sp, .inr (2, [.int (nI n), .ref ak, .ref ac, .ref aq, .ref af])), (ak, .inl (cI, n, .inl zk)), (ac, .inl (cI, n, .inl zc)), (aq, .inl (cI, n, .inl zq)), (af, .inl (cI, n, .inl zf)), (mo, .inr (1, [.ref ax, .ref av])), (ax, .inl (cL, n, .inr (.inl (zMix (i + 1) (zDx hh px pv) px)))), (av, .inl (cL, n, .inr (.inl pv)))]) hP hD hS hA [] [0, 1, 2, 3, 4, 5, 6, 7] rfl rfl (by decide) (by decide) (va_runS (As := [.long (zDx hh px pv i)]) (rest := []) ⟨hx, hb, hml, hown, hT⟩ (c_S_near l D cI cL cW cZ (zDx hh px pv i) H.size) (cwS 1 hT (good_S k_242 k_243 k_3 k_244) rfl rfl rfl (by decide +kernel) ⟨Nat.le_of_ble_eq_true rfl, Nat.le_of_ble_eq_true rfl⟩) (pre_S hPc hDc hK hN) rfl rfl hl.1 rfl (lv_room (Nat.le_of_ble_eq_true rfl)) d_S_changePlaces_46 ⟨(Nat.le_of_ble_eq_true rfl), (Nat.le_of_ble_eq_true rfl)⟩) (fun r u H locs hw hP hD hS => ?_)
        try dsimp only at hw
        have hP : va_P D vwCl [(sp, .inr (2, [.int (nI n), .ref ak, .ref ac, .ref aq, .ref af])), (ak, .inl (cI, n, .inl zk)), (ac, .inl (cI, n, .inl zc)), (aq, .inl (cI, n, .inl zq)), (af, .inl (cI, n, .inl zf)), (mo, .inr (1, [.ref ax, .ref av])), (ax, .inl (cL, n, .inr (.inl (zMix (i + 1) (zDx hh px pv) px)))), (av, .inl (cL, n, .inr (.inl pv)))] H := hP
        have hD : va_D A [(sp, .inr (2, [.int (nI n), .ref ak, .ref ac, .ref aq, .ref af])), (ak, .inl (cI, n, .inl zk)), (ac, .inl (cI, n, .inl zc)), (aq, .inl (cI, n, .inl zq)), (af, .inl (cI, n, .inl zf)), (mo, .inr (1, [.ref ax, .ref av])), (ax, .inl (cL, n, .inr (.inl (zMix (i + 1) (zDx hh px pv) px)))), (av, .inl (cL, n, .inr (.inl pv)))] := hD
        subst hw
        refine lv_if_eq (tgt := 56) hx hb d_S_changePlaces_49 (by decide) (fun c49 => ?_) (fun c49 => ?_)
        · refine lv_iconst (v := 0) hx hb d_S_changePlaces_56 (by decide) ?_
          refine top_i (y := (zAll (zDx hh px pv) (i + 1))) (by rw [zAll, if_neg c36, c49]) ?_
          refine lv_istore_n (lv' := [(3, .int (zAll (zDx hh px pv) (i + 1))), (0, .ref sp), (1, .ref mo), (2, .int hh), (4, .int (nI i))]) hx hb d_S_changePlaces_57 rfl hl (by decide) rfl (fun ls hl => ?_)
          refine lv_iinc (v := (nI (i + 1))) (lv' := [(4, .int (nI (i + 1))), (3, .int (zAll (zDx hh px pv) (i + 1))), (0, .ref sp), (1, .ref mo), (2, .int hh)]) hx hb d_S_changePlaces_58 hl (k := 4) rfl (nI_1 i) (by decide) rfl (fun ls hl => ?_)
          refine lv_goto (tgt := 5) hx hb d_S_changePlaces_61 (by decide) ?_
          exact ih (i + 1) _ _ _ ⟨(by (try dsimp only); omega), hP.sub [0, 1, 2, 3, 4, 5, 6, 7] rfl, hD.sub [0, 1, 2, 3, 4, 5, 6, 7] (by decide) rfl, hS, lv_sub hl [2, 3, 4, 1, 0] rfl⟩
        · refine lv_iconst (v := 1) hx hb d_S_changePlaces_52 (by decide) ?_
          refine lv_goto (tgt := 57) hx hb d_S_changePlaces_53 (by decide) ?_
          refine top_i (y := (zAll (zDx hh px pv) (i + 1))) (by rw [zAll, if_neg c36, zNear_1 c49]) ?_
          refine lv_istore_n (lv' := [(3, .int (zAll (zDx hh px pv) (i + 1))), (0, .ref sp), (1, .ref mo), (2, .int hh), (4, .int (nI i))]) hx hb d_S_changePlaces_57 rfl hl (by decide) rfl (fun ls hl => ?_)
          refine lv_iinc (v := (nI (i + 1))) (lv' := [(4, .int (nI (i + 1))), (3, .int (zAll (zDx hh px pv) (i + 1))), (0, .ref sp), (1, .ref mo), (2, .int hh)]) hx hb d_S_changePlaces_58 hl (k := 4) rfl (nI_1 i) (by decide) rfl (fun ls hl => ?_)
          refine lv_goto (tgt := 5) hx hb d_S_changePlaces_61 (by decide) ?_
          exact ih (i + 1) _ _ _ ⟨(by (try dsimp only); omega), hP.sub [0, 1, 2, 3, 4, 5, 6, 7] rfl, hD.sub [0, 1, 2, 3, 4, 5, 6, 7] (by decide) rfl, hS, lv_sub hl [2, 3, 4, 1, 0] rfl⟩
set_option maxHeartbeats 4000000 in
set_option maxRecDepth 100000 in
theorem c_S_step (l : Launch) (D : va_G) (cI cL cW cZ : ClassId) (sp : Nat) (ak : Nat) (ac : Nat) (aq : Nat) (af : Nat) (n : Nat) (zk : Nat → Int32) (zc : Nat → Int32) (zq : Nat → Int32) (zf : Nat → Int32) (mo : Nat) (ax : Nat) (av : Nat) (px : Nat → Int64) (pv : Nat → Int64) (hh : Int32) (sz : Nat) (hn : n ≤ 4) : Met l y_S_step w_S_step ({ frames := 2, cells := 0, slots := 0, locals := 52 }) (va_Pc [.ref sp, .ref mo, .int hh] (gP D vwCl (tyv cI cL cW cZ) [(sp, .inr (2, [.int (nI n), .ref ak, .ref ac, .ref aq, .ref af])), (ak, .inl (cI, n, .inl zk)), (ac, .inl (cI, n, .inl zc)), (aq, .inl (cI, n, .inl zq)), (af, .inl (cI, n, .inl zf)), (mo, .inr (1, [.ref ax, .ref av])), (ax, .inl (cL, n, .inr (.inl px))), (av, .inl (cL, n, .inr (.inl pv)))] sz)) (va_Qi (fun (r : Int32) (u : (Nat → Int64) × (Nat → Int64)) => (r, u.1, u.2) = zStep n zk zc zq zf hh px pv) (fun u t => gB D vwCl (tyv cI cL cW cZ) (va_A [(sp, .inr (2, [.int (nI n), .ref ak, .ref ac, .ref aq, .ref af])), (ak, .inl (cI, n, .inl zk)), (ac, .inl (cI, n, .inl zc)), (aq, .inl (cI, n, .inl zq)), (af, .inl (cI, n, .inl zf)), (mo, .inr (1, [.ref ax, .ref av])), (ax, .inl (cL, n, .inr (.inl px))), (av, .inl (cL, n, .inr (.inl pv)))] sz) [(sp, .inr (2, [.int (nI n), .ref ak, .ref ac, .ref aq, .ref af])), (ak, .inl (cI, n, .inl zk)), (ac, .inl (cI, n, .inl zc)), (aq, .inl (cI, n, .inl zq)), (af, .inl (cI, n, .inl zf)), (mo, .inr (1, [.ref ax, .ref av])), (ax, .inl (cL, n, .inr (.inl u.1))), (av, .inl (cL, n, .inr (.inl u.2)))] t) (va_A [(sp, .inr (2, [.int (nI n), .ref ak, .ref ac, .ref aq, .ref af])), (ak, .inl (cI, n, .inl zk)), (ac, .inl (cI, n, .inl zc)), (aq, .inl (cI, n, .inl zq)), (af, .inl (cI, n, .inl zf)), (mo, .inr (1, [.ref ax, .ref av])), (ax, .inl (cL, n, .inr (.inl px))), (av, .inl (cL, n, .inr (.inl pv)))] sz)) 0 0 (va_A [(sp, .inr (2, [.int (nI n), .ref ak, .ref ac, .ref aq, .ref af])), (ak, .inl (cI, n, .inl zk)), (ac, .inl (cI, n, .inl zc)), (aq, .inl (cI, n, .inl zq)), (af, .inl (cI, n, .inl zf)), (mo, .inr (1, [.ref ax, .ref av])), (ax, .inl (cL, n, .inr (.inl px))), (av, .inl (cL, n, .inr (.inl pv)))] sz) := by
  refine met_go (cc := prog_4_method_3_code) (maxL := 3) (ret := (some .boolean)) (QA := fun A => va_Qi (fun (r : Int32) (u : (Nat → Int64) × (Nat → Int64)) => (r, u.1, u.2) = zStep n zk zc zq zf hh px pv) (fun u t => gB D vwCl (tyv cI cL cW cZ) A [(sp, .inr (2, [.int (nI n), .ref ak, .ref ac, .ref aq, .ref af])), (ak, .inl (cI, n, .inl zk)), (ac, .inl (cI, n, .inl zc)), (aq, .inl (cI, n, .inl zq)), (af, .inl (cI, n, .inl zf)), (mo, .inr (1, [.ref ax, .ref av])), (ax, .inl (cL, n, .inr (.inl u.1))), (av, .inl (cL, n, .inr (.inl u.2)))] t) A) (by decide) (Nat.le_of_ble_eq_true rfl) ?_
  intro p e s m below meth c A ls hx hb hr hml hT hN hown hlocks hin hl hP hK hD hA hS
  have hl : lv_has ls 3 [(0, .ref sp), (1, .ref mo), (2, .int hh)] := hl
  refine lv_aload_n hx hb d_S_step_0 rfl (lv_at hl 0 rfl) ?_
  refine lv_aload_n hx hb d_S_step_1 rfl (lv_at hl 1 rfl) ?_
  refine lv_iload_n hx hb d_S_step_2 rfl (lv_at hl 2 rfl) ?_
  have hPc := hP.sub (ws' := [(sp, .inr (2, [.int (nI n), .ref ak, .ref ac, .ref aq, .ref af])), (ak, .inl (cI, n, .inl zk)), (ac, .inl (cI, n, .inl zc)), (aq, .inl (cI, n, .inl zq)), (af, .inl (cI, n, .inl zf)), (mo, .inr (1, [.ref ax, .ref av])), (ax, .inl (cL, n, .inr (.inl px))), (av, .inl (cL, n, .inr (.inl pv)))]) [0, 1, 2, 3, 4, 5, 6, 7] rfl
  have hDc := hD.sub (ws' := [(sp, .inr (2, [.int (nI n), .ref ak, .ref ac, .ref aq, .ref af])), (ak, .inl (cI, n, .inl zk)), (ac, .inl (cI, n, .inl zc)), (aq, .inl (cI, n, .inl zq)), (af, .inl (cI, n, .inl zf)), (mo, .inr (1, [.ref ax, .ref av])), (ax, .inl (cL, n, .inr (.inl px))), (av, .inl (cL, n, .inr (.inl pv)))]) [0, 1, 2, 3, 4, 5, 6, 7] (by decide) rfl
  refine gc_i (w1 := fun (u : Unit) => [(sp, .inr (2, [.int (nI n), .ref ak, .ref ac, .ref aq, .ref af])), (ak, .inl (cI, n, .inl zk)), (ac, .inl (cI, n, .inl zc)), (aq, .inl (cI, n, .inl zq)), (af, .inl (cI, n, .inl zf)), (mo, .inr (1, [.ref ax, .ref av])), (ax, .inl (cL, n, .inr (.inl px))), (av, .inl (cL, n, .inr (.inl (zDv n zk zc zq zf hh px pv))))]) (wc := [(sp, .inr (2, [.int (nI n), .ref ak, .ref ac, .ref aq, .ref af])), (ak, .inl (cI, n, .inl zk)), (ac, .inl (cI, n, .inl zc)), (aq, .inl (cI, n, .inl zq)), (af, .inl (cI, n, .inl zf)), (mo, .inr (1, [.ref ax, .ref av])), (ax, .inl (cL, n, .inr (.inl px))), (av, .inl (cL, n, .inr (.inl pv)))]) (wr := []) hP hD hS hA [0, 1, 2, 3, 4, 5, 6, 7] [] rfl rfl (by decide) (by decide) (va_runV (As := [.ref mo, .int hh]) (rest := []) ⟨hx, hb, hml, hown, hT⟩ (c_S_chs l D cI cL cW cZ sp ak ac aq af n zk zc zq zf mo ax av px pv hh s.heap.size hn) (cwV 2 hT (good_V k_231 k_233 p_5 k_3 k_234) rfl rfl rfl (by decide +kernel) ⟨Nat.le_of_ble_eq_true rfl, Nat.le_of_ble_eq_true rfl⟩) (pre_V hPc hDc hK hN (ci := 2) rfl rfl) rfl rfl hl.1 rfl (lv_room (Nat.le_of_ble_eq_true rfl)) d_S_step_3 ⟨(Nat.le_of_ble_eq_true rfl), (Nat.le_of_ble_eq_true rfl)⟩) (fun r u H locs hw hP hD hS => ?_)
  try dsimp only at hw
  have hP : va_P D vwCl [(sp, .inr (2, [.int (nI n), .ref ak, .ref ac, .ref aq, .ref af])), (ak, .inl (cI, n, .inl zk)), (ac, .inl (cI, n, .inl zc)), (aq, .inl (cI, n, .inl zq)), (af, .inl (cI, n, .inl zf)), (mo, .inr (1, [.ref ax, .ref av])), (ax, .inl (cL, n, .inr (.inl px))), (av, .inl (cL, n, .inr (.inl (zDv n zk zc zq zf hh px pv))))] H := hP
  have hD : va_D A [(sp, .inr (2, [.int (nI n), .ref ak, .ref ac, .ref aq, .ref af])), (ak, .inl (cI, n, .inl zk)), (ac, .inl (cI, n, .inl zc)), (aq, .inl (cI, n, .inl zq)), (af, .inl (cI, n, .inl zf)), (mo, .inr (1, [.ref ax, .ref av])), (ax, .inl (cL, n, .inr (.inl px))), (av, .inl (cL, n, .inr (.inl (zDv n zk zc zq zf hh px pv))))] := hD
  subst hw
  refine lv_if_eq (tgt := 31) hx hb d_S_step_6 (by decide) (fun c6 => ?_) (fun c6 => ?_)
  · refine lv_iconst (v := 0) hx hb d_S_step_31 (by decide) ?_
    exact re_z (v := 0) (px, (zDv n zk zc zq zf hh px pv)) hx hb hr rfl hlocks (by rw [zStep, if_pos c6]) (hP.sub [0, 1, 2, 3, 4, 5, 6, 7] rfl) hK (hD.sub [0, 1, 2, 3, 4, 5, 6, 7] (by decide) rfl) hS d_S_step_32
  · refine lv_aload_n hx hb d_S_step_9 rfl (lv_at hl 0 rfl) ?_
    refine lv_aload_n hx hb d_S_step_10 rfl (lv_at hl 1 rfl) ?_
    refine lv_iload_n hx hb d_S_step_11 rfl (lv_at hl 2 rfl) ?_
    have hPc := hP.sub (ws' := [(sp, .inr (2, [.int (nI n), .ref ak, .ref ac, .ref aq, .ref af])), (ak, .inl (cI, n, .inl zk)), (ac, .inl (cI, n, .inl zc)), (aq, .inl (cI, n, .inl zq)), (af, .inl (cI, n, .inl zf)), (mo, .inr (1, [.ref ax, .ref av])), (ax, .inl (cL, n, .inr (.inl px))), (av, .inl (cL, n, .inr (.inl (zDv n zk zc zq zf hh px pv))))]) [0, 1, 2, 3, 4, 5, 6, 7] rfl
    have hDc := hD.sub (ws' := [(sp, .inr (2, [.int (nI n), .ref ak, .ref ac, .ref aq, .ref af])), (ak, .inl (cI, n, .inl zk)), (ac, .inl (cI, n, .inl zc)), (aq, .inl (cI, n, .inl zq)), (af, .inl (cI, n, .inl zf)), (mo, .inr (1, [.ref ax, .ref av])), (ax, .inl (cL, n, .inr (.inl px))), (av, .inl (cL, n, .inr (.inl (zDv n zk zc zq zf hh px pv))))]) [0, 1, 2, 3, 4, 5, 6, 7] (by decide) rfl
    refine gc_i (w1 := fun (u : Unit) => [(sp, .inr (2, [.int (nI n), .ref ak, .ref ac, .ref aq, .ref af])), (ak, .inl (cI, n, .inl zk)), (ac, .inl (cI, n, .inl zc)), (aq, .inl (cI, n, .inl zq)), (af, .inl (cI, n, .inl zf)), (mo, .inr (1, [.ref ax, .ref av])), (ax, .inl (cL, n, .inr (.inl (zDx hh px (zDv n zk zc zq zf hh px pv))))), (av, .inl (cL, n, .inr (.inl (zDv n zk zc zq zf hh px pv))))]) (wc := [(sp, .inr (2, [.int (nI n), .ref ak, .ref ac, .ref aq, .ref af])), (ak, .inl (cI, n, .inl zk)), (ac, .inl (cI, n, .inl zc)), (aq, .inl (cI, n, .inl zq)), (af, .inl (cI, n, .inl zf)), (mo, .inr (1, [.ref ax, .ref av])), (ax, .inl (cL, n, .inr (.inl px))), (av, .inl (cL, n, .inr (.inl (zDv n zk zc zq zf hh px pv))))]) (wr := []) hP hD hS hA [0, 1, 2, 3, 4, 5, 6, 7] [] rfl rfl (by decide) (by decide) (va_runV (As := [.ref mo, .int hh]) (rest := []) ⟨hx, hb, hml, hown, hT⟩ (c_S_chp l D cI cL cW cZ sp ak ac aq af n zk zc zq zf mo ax av px (zDv n zk zc zq zf hh px pv) hh H.size hn) (cwV 2 hT (good_V k_247 k_249 p_6 k_3 k_250) rfl rfl rfl (by decide +kernel) ⟨Nat.le_of_ble_eq_true rfl, Nat.le_of_ble_eq_true rfl⟩) (pre_V hPc hDc hK hN (ci := 2) rfl rfl) rfl rfl hl.1 rfl (lv_room (Nat.le_of_ble_eq_true rfl)) d_S_step_12 ⟨(Nat.le_of_ble_eq_true rfl), (Nat.le_of_ble_eq_true rfl)⟩) (fun r u H locs hw hP hD hS => ?_)
    try dsimp only at hw
    have hP : va_P D vwCl [(sp, .inr (2, [.int (nI n), .ref ak, .ref ac, .ref aq, .ref af])), (ak, .inl (cI, n, .inl zk)), (ac, .inl (cI, n, .inl zc)), (aq, .inl (cI, n, .inl zq)), (af, .inl (cI, n, .inl zf)), (mo, .inr (1, [.ref ax, .ref av])), (ax, .inl (cL, n, .inr (.inl (zDx hh px (zDv n zk zc zq zf hh px pv))))), (av, .inl (cL, n, .inr (.inl (zDv n zk zc zq zf hh px pv))))] H := hP
    have hD : va_D A [(sp, .inr (2, [.int (nI n), .ref ak, .ref ac, .ref aq, .ref af])), (ak, .inl (cI, n, .inl zk)), (ac, .inl (cI, n, .inl zc)), (aq, .inl (cI, n, .inl zq)), (af, .inl (cI, n, .inl zf)), (mo, .inr (1, [.ref ax, .ref av])), (ax, .inl (cL, n, .inr (.inl (zDx hh px (zDv n zk zc zq zf hh px pv))))), (av, .inl (cL, n, .inr (.inl (zDv n zk zc zq zf hh px pv))))] := hD
    subst hw
    refine lv_if_eq (tgt := 31) hx hb d_S_step_15 (by decide) (fun c15 => ?_) (fun c15 => ?_)
    · refine lv_iconst (v := 0) hx hb d_S_step_31 (by decide) ?_
      exact re_z (v := 0) ((zDx hh px (zDv n zk zc zq zf hh px pv)), (zDv n zk zc zq zf hh px pv)) hx hb hr rfl hlocks (by rw [zStep, if_neg c6, if_pos c15]) (hP.sub [0, 1, 2, 3, 4, 5, 6, 7] rfl) hK (hD.sub [0, 1, 2, 3, 4, 5, 6, 7] (by decide) rfl) hS d_S_step_32
    · refine lv_aload_n hx hb d_S_step_18 rfl (lv_at hl 0 rfl) ?_
      refine lv_aload_n hx hb d_S_step_19 rfl (lv_at hl 1 rfl) ?_
      refine lv_iload_n hx hb d_S_step_20 rfl (lv_at hl 2 rfl) ?_
      have hPc := hP.sub (ws' := [(sp, .inr (2, [.int (nI n), .ref ak, .ref ac, .ref aq, .ref af])), (ak, .inl (cI, n, .inl zk)), (ac, .inl (cI, n, .inl zc)), (aq, .inl (cI, n, .inl zq)), (af, .inl (cI, n, .inl zf)), (mo, .inr (1, [.ref ax, .ref av])), (ax, .inl (cL, n, .inr (.inl (zDx hh px (zDv n zk zc zq zf hh px pv))))), (av, .inl (cL, n, .inr (.inl (zDv n zk zc zq zf hh px pv))))]) [0, 1, 2, 3, 4, 5, 6, 7] rfl
      have hDc := hD.sub (ws' := [(sp, .inr (2, [.int (nI n), .ref ak, .ref ac, .ref aq, .ref af])), (ak, .inl (cI, n, .inl zk)), (ac, .inl (cI, n, .inl zc)), (aq, .inl (cI, n, .inl zq)), (af, .inl (cI, n, .inl zf)), (mo, .inr (1, [.ref ax, .ref av])), (ax, .inl (cL, n, .inr (.inl (zDx hh px (zDv n zk zc zq zf hh px pv))))), (av, .inl (cL, n, .inr (.inl (zDv n zk zc zq zf hh px pv))))]) [0, 1, 2, 3, 4, 5, 6, 7] (by decide) rfl
      refine gc_i (w1 := fun (u : Unit) => [(sp, .inr (2, [.int (nI n), .ref ak, .ref ac, .ref aq, .ref af])), (ak, .inl (cI, n, .inl zk)), (ac, .inl (cI, n, .inl zc)), (aq, .inl (cI, n, .inl zq)), (af, .inl (cI, n, .inl zf)), (mo, .inr (1, [.ref ax, .ref av])), (ax, .inl (cL, n, .inr (.inl (zDx hh px (zDv n zk zc zq zf hh px pv))))), (av, .inl (cL, n, .inr (.inl (zDv n zk zc zq zf hh (zDx hh px (zDv n zk zc zq zf hh px pv)) (zDv n zk zc zq zf hh px pv)))))]) (wc := [(sp, .inr (2, [.int (nI n), .ref ak, .ref ac, .ref aq, .ref af])), (ak, .inl (cI, n, .inl zk)), (ac, .inl (cI, n, .inl zc)), (aq, .inl (cI, n, .inl zq)), (af, .inl (cI, n, .inl zf)), (mo, .inr (1, [.ref ax, .ref av])), (ax, .inl (cL, n, .inr (.inl (zDx hh px (zDv n zk zc zq zf hh px pv))))), (av, .inl (cL, n, .inr (.inl (zDv n zk zc zq zf hh px pv))))]) (wr := []) hP hD hS hA [0, 1, 2, 3, 4, 5, 6, 7] [] rfl rfl (by decide) (by decide) (va_runV (As := [.ref mo, .int hh]) (rest := []) ⟨hx, hb, hml, hown, hT⟩ (c_S_chs l D cI cL cW cZ sp ak ac aq af n zk zc zq zf mo ax av (zDx hh px (zDv n zk zc zq zf hh px pv)) (zDv n zk zc zq zf hh px pv) hh H.size hn) (cwV 2 hT (good_V k_231 k_233 p_5 k_3 k_234) rfl rfl rfl (by decide +kernel) ⟨Nat.le_of_ble_eq_true rfl, Nat.le_of_ble_eq_true rfl⟩) (pre_V hPc hDc hK hN (ci := 2) rfl rfl) rfl rfl hl.1 rfl (lv_room (Nat.le_of_ble_eq_true rfl)) d_S_step_21 ⟨(Nat.le_of_ble_eq_true rfl), (Nat.le_of_ble_eq_true rfl)⟩) (fun r u H locs hw hP hD hS => ?_)
      try dsimp only at hw
      have hP : va_P D vwCl [(sp, .inr (2, [.int (nI n), .ref ak, .ref ac, .ref aq, .ref af])), (ak, .inl (cI, n, .inl zk)), (ac, .inl (cI, n, .inl zc)), (aq, .inl (cI, n, .inl zq)), (af, .inl (cI, n, .inl zf)), (mo, .inr (1, [.ref ax, .ref av])), (ax, .inl (cL, n, .inr (.inl (zDx hh px (zDv n zk zc zq zf hh px pv))))), (av, .inl (cL, n, .inr (.inl (zDv n zk zc zq zf hh (zDx hh px (zDv n zk zc zq zf hh px pv)) (zDv n zk zc zq zf hh px pv)))))] H := hP
      have hD : va_D A [(sp, .inr (2, [.int (nI n), .ref ak, .ref ac, .ref aq, .ref af])), (ak, .inl (cI, n, .inl zk)), (ac, .inl (cI, n, .inl zc)), (aq, .inl (cI, n, .inl zq)), (af, .inl (cI, n, .inl zf)), (mo, .inr (1, [.ref ax, .ref av])), (ax, .inl (cL, n, .inr (.inl (zDx hh px (zDv n zk zc zq zf hh px pv))))), (av, .inl (cL, n, .inr (.inl (zDv n zk zc zq zf hh (zDx hh px (zDv n zk zc zq zf hh px pv)) (zDv n zk zc zq zf hh px pv)))))] := hD
      subst hw
      refine lv_if_eq (tgt := 31) hx hb d_S_step_24 (by decide) (fun c24 => ?_) (fun c24 => ?_)
      · refine lv_iconst (v := 0) hx hb d_S_step_31 (by decide) ?_
        exact re_z (v := 0) ((zDx hh px (zDv n zk zc zq zf hh px pv)), (zDv n zk zc zq zf hh (zDx hh px (zDv n zk zc zq zf hh px pv)) (zDv n zk zc zq zf hh px pv))) hx hb hr rfl hlocks (by rw [zStep, if_neg c6, if_neg c15, if_pos c24]) (hP.sub [0, 1, 2, 3, 4, 5, 6, 7] rfl) hK (hD.sub [0, 1, 2, 3, 4, 5, 6, 7] (by decide) rfl) hS d_S_step_32
      · refine lv_iconst (v := 1) hx hb d_S_step_27 (by decide) ?_
        refine lv_goto (tgt := 32) hx hb d_S_step_28 (by decide) ?_
        exact re_z (v := 1) ((zDx hh px (zDv n zk zc zq zf hh px pv)), (zDv n zk zc zq zf hh (zDx hh px (zDv n zk zc zq zf hh px pv)) (zDv n zk zc zq zf hh px pv))) hx hb hr rfl hlocks (by rw [zStep, if_neg c6, if_neg c15, if_neg c24]) (hP.sub [0, 1, 2, 3, 4, 5, 6, 7] rfl) hK (hD.sub [0, 1, 2, 3, 4, 5, 6, 7] (by decide) rfl) hS d_S_step_32
set_option maxHeartbeats 4000000 in
set_option maxRecDepth 100000 in
theorem c_M_copy (l : Launch) (D : va_G) (cI cL cW cZ : ClassId) (mo : Nat) (ax : Nat) (av : Nat) (mp : Nat) (bx : Nat) (bv : Nat) (px : Nat → Int64) (pv : Nat → Int64) (qx : Nat → Int64) (qv : Nat → Int64) (n : Nat) (sz : Nat) (hn : n ≤ 4) : Met l y_M_copyFrom w_M_copyFrom ({ frames := 1, cells := 0, slots := 0, locals := 18 }) (va_Pc [.ref mo, .ref mp] (gP D vwCl (tyv cI cL cW cZ) [(mo, .inr (1, [.ref ax, .ref av])), (ax, .inl (cL, n, .inr (.inl px))), (av, .inl (cL, n, .inr (.inl pv))), (mp, .inr (1, [.ref bx, .ref bv])), (bx, .inl (cL, n, .inr (.inl qx))), (bv, .inl (cL, n, .inr (.inl qv)))] sz)) (va_Qv (fun (u : Unit) => True) (fun u t => gB D vwCl (tyv cI cL cW cZ) (va_A [(mo, .inr (1, [.ref ax, .ref av])), (ax, .inl (cL, n, .inr (.inl px))), (av, .inl (cL, n, .inr (.inl pv))), (mp, .inr (1, [.ref bx, .ref bv])), (bx, .inl (cL, n, .inr (.inl qx))), (bv, .inl (cL, n, .inr (.inl qv)))] sz) [(mo, .inr (1, [.ref ax, .ref av])), (ax, .inl (cL, n, .inr (.inl qx))), (av, .inl (cL, n, .inr (.inl qv))), (mp, .inr (1, [.ref bx, .ref bv])), (bx, .inl (cL, n, .inr (.inl qx))), (bv, .inl (cL, n, .inr (.inl qv)))] t) (va_A [(mo, .inr (1, [.ref ax, .ref av])), (ax, .inl (cL, n, .inr (.inl px))), (av, .inl (cL, n, .inr (.inl pv))), (mp, .inr (1, [.ref bx, .ref bv])), (bx, .inl (cL, n, .inr (.inl qx))), (bv, .inl (cL, n, .inr (.inl qv)))] sz)) 0 0 (va_A [(mo, .inr (1, [.ref ax, .ref av])), (ax, .inl (cL, n, .inr (.inl px))), (av, .inl (cL, n, .inr (.inl pv))), (mp, .inr (1, [.ref bx, .ref bv])), (bx, .inl (cL, n, .inr (.inl qx))), (bv, .inl (cL, n, .inr (.inl qv)))] sz) := by
  refine met_go (cc := prog_3_method_2_code) (maxL := 2) (ret := none) (QA := fun A => va_Qv (fun (u : Unit) => True) (fun u t => gB D vwCl (tyv cI cL cW cZ) A [(mo, .inr (1, [.ref ax, .ref av])), (ax, .inl (cL, n, .inr (.inl qx))), (av, .inl (cL, n, .inr (.inl qv))), (mp, .inr (1, [.ref bx, .ref bv])), (bx, .inl (cL, n, .inr (.inl qx))), (bv, .inl (cL, n, .inr (.inl qv)))] t) A) (by decide) (Nat.le_of_ble_eq_true rfl) ?_
  intro p e s m below meth c A ls hx hb hr hml hT hN hown hlocks hin hl hP hK hD hA hS
  have hl : lv_has ls 2 [(0, .ref mo), (1, .ref mp)] := hl
  refine lv_aload_n hx hb d_M_copyFrom_0 rfl (lv_at hl 1 rfl) ?_
  refine va_get (D := D) (ci := 1) (v := .ref bx) (C := "OscillatorRow$Motion") (T := T_M) (N := 2) hx hb hT i_M hown hK hP 3 rfl rfl 0 (by decide) (hT _ k_56) (fun _ h9 => h9) rfl d_M_copyFrom_1 ?_
  refine lv_iconst (v := 0) hx hb d_M_copyFrom_4 (by decide) ?_
  refine lv_aload_n hx hb d_M_copyFrom_5 rfl (lv_at hl 0 rfl) ?_
  refine va_get (D := D) (ci := 1) (v := .ref ax) (C := "OscillatorRow$Motion") (T := T_M) (N := 2) hx hb hT i_M hown hK hP 0 rfl rfl 0 (by decide) (hT _ k_56) (fun _ h9 => h9) rfl d_M_copyFrom_6 ?_
  refine lv_iconst (v := 0) hx hb d_M_copyFrom_9 (by decide) ?_
  refine lv_aload_n hx hb d_M_copyFrom_10 rfl (lv_at hl 0 rfl) ?_
  refine va_get (D := D) (ci := 1) (v := .ref ax) (C := "OscillatorRow$Motion") (T := T_M) (N := 2) hx hb hT i_M hown hK hP 0 rfl rfl 0 (by decide) (hT _ k_56) (fun _ h9 => h9) rfl d_M_copyFrom_11 ?_
  refine va_alen (v := nI n) hx hb hK hP 1 1 rfl rfl rfl d_M_copyFrom_14 ?_
  refine va_copyl hx hb (by rw [hml, hl.1]) hown (hT _ k_224) (hT _ k_226) (hT _ k_225) (hT _ k_8) hK hP hD hS 4 1 1 1 rfl rfl rfl rfl rfl (by decide) (by decide) (nI_pos (by omega)) (by rw [nI_clamp (by omega)]; exact Nat.le_of_eq (Nat.zero_add n)) (by rw [nI_clamp (by omega)]; exact Nat.le_of_eq (Nat.zero_add n)) (fun _ _ => rfl) (Nat.le_of_ble_eq_true rfl) (Nat.le_of_ble_eq_true rfl) d_M_copyFrom_15 (fun H locs hP hD hS => ?_)
  have hP : va_P D vwCl [(mo, .inr (1, [.ref ax, .ref av])), (ax, .inl (cL, n, .inr (.inl (va_cpy qx px (0 : Int32).toNatClampNeg (0 : Int32).toNatClampNeg (nI n).toNatClampNeg)))), (av, .inl (cL, n, .inr (.inl pv))), (mp, .inr (1, [.ref bx, .ref bv])), (bx, .inl (cL, n, .inr (.inl qx))), (bv, .inl (cL, n, .inr (.inl qv)))] H := hP
  have hD : va_D A [(mo, .inr (1, [.ref ax, .ref av])), (ax, .inl (cL, n, .inr (.inl (va_cpy qx px (0 : Int32).toNatClampNeg (0 : Int32).toNatClampNeg (nI n).toNatClampNeg)))), (av, .inl (cL, n, .inr (.inl pv))), (mp, .inr (1, [.ref bx, .ref bv])), (bx, .inl (cL, n, .inr (.inl qx))), (bv, .inl (cL, n, .inr (.inl qv)))] := hD
  obtain ⟨hP, hD⟩ := va_reL qx 1 hP hD rfl (fun j hj => cpy_lt hj (by omega))
  have hP : va_P D vwCl [(mo, .inr (1, [.ref ax, .ref av])), (ax, .inl (cL, n, .inr (.inl qx))), (av, .inl (cL, n, .inr (.inl pv))), (mp, .inr (1, [.ref bx, .ref bv])), (bx, .inl (cL, n, .inr (.inl qx))), (bv, .inl (cL, n, .inr (.inl qv)))] H := hP
  have hD : va_D A [(mo, .inr (1, [.ref ax, .ref av])), (ax, .inl (cL, n, .inr (.inl qx))), (av, .inl (cL, n, .inr (.inl pv))), (mp, .inr (1, [.ref bx, .ref bv])), (bx, .inl (cL, n, .inr (.inl qx))), (bv, .inl (cL, n, .inr (.inl qv)))] := hD
  refine lv_aload_n hx hb d_M_copyFrom_18 rfl (lv_at hl 1 rfl) ?_
  refine va_get (D := D) (ci := 1) (v := .ref bv) (C := "OscillatorRow$Motion") (T := T_M) (N := 2) hx hb hT i_M hown hK hP 3 rfl rfl 1 (by decide) (hT _ k_59) (fun _ h9 => h9) rfl d_M_copyFrom_19 ?_
  refine lv_iconst (v := 0) hx hb d_M_copyFrom_22 (by decide) ?_
  refine lv_aload_n hx hb d_M_copyFrom_23 rfl (lv_at hl 0 rfl) ?_
  refine va_get (D := D) (ci := 1) (v := .ref av) (C := "OscillatorRow$Motion") (T := T_M) (N := 2) hx hb hT i_M hown hK hP 0 rfl rfl 1 (by decide) (hT _ k_59) (fun _ h9 => h9) rfl d_M_copyFrom_24 ?_
  refine lv_iconst (v := 0) hx hb d_M_copyFrom_27 (by decide) ?_
  refine lv_aload_n hx hb d_M_copyFrom_28 rfl (lv_at hl 0 rfl) ?_
  refine va_get (D := D) (ci := 1) (v := .ref av) (C := "OscillatorRow$Motion") (T := T_M) (N := 2) hx hb hT i_M hown hK hP 0 rfl rfl 1 (by decide) (hT _ k_59) (fun _ h9 => h9) rfl d_M_copyFrom_29 ?_
  refine va_alen (v := nI n) hx hb hK hP 2 1 rfl rfl rfl d_M_copyFrom_32 ?_
  refine va_copyl hx hb (by rw [hml, hl.1]) hown (hT _ k_224) (hT _ k_226) (hT _ k_225) (hT _ k_8) hK hP hD hS 5 2 1 1 rfl rfl rfl rfl rfl (by decide) (by decide) (nI_pos (by omega)) (by rw [nI_clamp (by omega)]; exact Nat.le_of_eq (Nat.zero_add n)) (by rw [nI_clamp (by omega)]; exact Nat.le_of_eq (Nat.zero_add n)) (fun _ _ => rfl) (Nat.le_of_ble_eq_true rfl) (Nat.le_of_ble_eq_true rfl) d_M_copyFrom_33 (fun H locs hP hD hS => ?_)
  have hP : va_P D vwCl [(mo, .inr (1, [.ref ax, .ref av])), (ax, .inl (cL, n, .inr (.inl qx))), (av, .inl (cL, n, .inr (.inl (va_cpy qv pv (0 : Int32).toNatClampNeg (0 : Int32).toNatClampNeg (nI n).toNatClampNeg)))), (mp, .inr (1, [.ref bx, .ref bv])), (bx, .inl (cL, n, .inr (.inl qx))), (bv, .inl (cL, n, .inr (.inl qv)))] H := hP
  have hD : va_D A [(mo, .inr (1, [.ref ax, .ref av])), (ax, .inl (cL, n, .inr (.inl qx))), (av, .inl (cL, n, .inr (.inl (va_cpy qv pv (0 : Int32).toNatClampNeg (0 : Int32).toNatClampNeg (nI n).toNatClampNeg)))), (mp, .inr (1, [.ref bx, .ref bv])), (bx, .inl (cL, n, .inr (.inl qx))), (bv, .inl (cL, n, .inr (.inl qv)))] := hD
  obtain ⟨hP, hD⟩ := va_reL qv 2 hP hD rfl (fun j hj => cpy_lt hj (by omega))
  have hP : va_P D vwCl [(mo, .inr (1, [.ref ax, .ref av])), (ax, .inl (cL, n, .inr (.inl qx))), (av, .inl (cL, n, .inr (.inl qv))), (mp, .inr (1, [.ref bx, .ref bv])), (bx, .inl (cL, n, .inr (.inl qx))), (bv, .inl (cL, n, .inr (.inl qv)))] H := hP
  have hD : va_D A [(mo, .inr (1, [.ref ax, .ref av])), (ax, .inl (cL, n, .inr (.inl qx))), (av, .inl (cL, n, .inr (.inl qv))), (mp, .inr (1, [.ref bx, .ref bv])), (bx, .inl (cL, n, .inr (.inl qx))), (bv, .inl (cL, n, .inr (.inl qv)))] := hD
  exact re_v () hx hb hr hlocks trivial (hP.sub [0, 1, 2, 3, 4, 5] rfl) hK (hD.sub [0, 1, 2, 3, 4, 5] (by decide) rfl) hS d_M_copyFrom_36
set_option maxHeartbeats 4000000 in
set_option maxRecDepth 100000 in
theorem c_M_gd (l : Launch) (D : va_G) (cI cL cW cZ : ClassId) (mo : Nat) (ax : Nat) (av : Nat) (mp : Nat) (bx : Nat) (bv : Nat) (px : Nat → Int64) (pv : Nat → Int64) (qx : Nat → Int64) (qv : Nat → Int64) (n : Nat) (sz : Nat) (hn : n ≤ 4) : Met l y_M_greatestDifference w_M_greatestDifference ({ frames := 1, cells := 0, slots := 0, locals := 17 }) (va_Pc [.ref mo, .ref mp] (gP D vwCl (tyv cI cL cW cZ) [(mo, .inr (1, [.ref ax, .ref av])), (ax, .inl (cL, n, .inr (.inl px))), (av, .inl (cL, n, .inr (.inl pv))), (mp, .inr (1, [.ref bx, .ref bv])), (bx, .inl (cL, n, .inr (.inl qx))), (bv, .inl (cL, n, .inr (.inl qv)))] sz)) (va_Ql (fun (r : Int64) (u : Unit) => r = zGd px pv qx qv n) (fun u t => gB D vwCl (tyv cI cL cW cZ) (va_A [(mo, .inr (1, [.ref ax, .ref av])), (ax, .inl (cL, n, .inr (.inl px))), (av, .inl (cL, n, .inr (.inl pv))), (mp, .inr (1, [.ref bx, .ref bv])), (bx, .inl (cL, n, .inr (.inl qx))), (bv, .inl (cL, n, .inr (.inl qv)))] sz) [(mo, .inr (1, [.ref ax, .ref av])), (ax, .inl (cL, n, .inr (.inl px))), (av, .inl (cL, n, .inr (.inl pv))), (mp, .inr (1, [.ref bx, .ref bv])), (bx, .inl (cL, n, .inr (.inl qx))), (bv, .inl (cL, n, .inr (.inl qv)))] t) (va_A [(mo, .inr (1, [.ref ax, .ref av])), (ax, .inl (cL, n, .inr (.inl px))), (av, .inl (cL, n, .inr (.inl pv))), (mp, .inr (1, [.ref bx, .ref bv])), (bx, .inl (cL, n, .inr (.inl qx))), (bv, .inl (cL, n, .inr (.inl qv)))] sz)) 0 0 (va_A [(mo, .inr (1, [.ref ax, .ref av])), (ax, .inl (cL, n, .inr (.inl px))), (av, .inl (cL, n, .inr (.inl pv))), (mp, .inr (1, [.ref bx, .ref bv])), (bx, .inl (cL, n, .inr (.inl qx))), (bv, .inl (cL, n, .inr (.inl qv)))] sz) := by
  refine met_go (cc := prog_3_method_3_code) (maxL := 5) (ret := (some .long)) (QA := fun A => va_Ql (fun (r : Int64) (u : Unit) => r = zGd px pv qx qv n) (fun u t => gB D vwCl (tyv cI cL cW cZ) A [(mo, .inr (1, [.ref ax, .ref av])), (ax, .inl (cL, n, .inr (.inl px))), (av, .inl (cL, n, .inr (.inl pv))), (mp, .inr (1, [.ref bx, .ref bv])), (bx, .inl (cL, n, .inr (.inl qx))), (bv, .inl (cL, n, .inr (.inl qv)))] t) A) (by decide) (Nat.le_of_ble_eq_true rfl) ?_
  intro p e s m below meth c A ls hx hb hr hml hT hN hown hlocks hin hl hP hK hD hA hS
  have hl : lv_has ls 5 [(0, .ref mo), (1, .ref mp)] := hl
  refine lv_lconst (v := zGd px pv qx qv 0) hx hb d_M_greatestDifference_0 rfl ?_
  refine lv_lstore_n (lv' := [(2, .long (zGd px pv qx qv 0)), (0, .ref mo), (1, .ref mp)]) hx hb d_M_greatestDifference_1 rfl hl (by decide) rfl (fun ls hl => ?_)
  refine lv_iconst (v := nI 0) hx hb d_M_greatestDifference_2 (by decide) ?_
  refine lv_istore (lv' := [(4, .int (nI 0)), (2, .long (zGd px pv qx qv 0)), (0, .ref mo), (1, .ref mp)]) hx hb d_M_greatestDifference_3 hl (by decide) rfl (fun ls hl => ?_)
  refine wp_loop (α := Nat) (I := fun k x H locs ls => (x ≤ n ∧ n < x + k) ∧ va_P D vwCl [(mo, .inr (1, [.ref ax, .ref av])), (ax, .inl (cL, n, .inr (.inl px))), (av, .inl (cL, n, .inr (.inl pv))), (mp, .inr (1, [.ref bx, .ref bv])), (bx, .inl (cL, n, .inr (.inl qx))), (bv, .inl (cL, n, .inr (.inl qv)))] H ∧ va_D A [(mo, .inr (1, [.ref ax, .ref av])), (ax, .inl (cL, n, .inr (.inl px))), (av, .inl (cL, n, .inr (.inl pv))), (mp, .inr (1, [.ref bx, .ref bv])), (bx, .inl (cL, n, .inr (.inl qx))), (bv, .inl (cL, n, .inr (.inl qv)))] ∧ va_S A s.heap H locs ∧ lv_has ls 5 [(0, .ref mo), (1, .ref mp), (2, .long (zGd px pv qx qv x)), (4, .int (nI x))]) ?_ ?_ (n + 1) 0 ⟨(by (try dsimp only); omega), hP.sub [0, 1, 2, 3, 4, 5] rfl, hD.sub [0, 1, 2, 3, 4, 5] (by decide) rfl, hS, lv_sub hl [2, 3, 1, 0] rfl⟩
  · intro x H locs ls h; have h9 := h.1; (try dsimp only at h9); omega
  · intro k x H locs ls h ih
    obtain ⟨i, rfl⟩ : ∃ z, z = x := ⟨_, rfl⟩
    obtain ⟨hk, hP, hD, hS, hl⟩ := h
    have hk : i ≤ n ∧ n < i + (k + 1) := hk
    have hP : va_P D vwCl [(mo, .inr (1, [.ref ax, .ref av])), (ax, .inl (cL, n, .inr (.inl px))), (av, .inl (cL, n, .inr (.inl pv))), (mp, .inr (1, [.ref bx, .ref bv])), (bx, .inl (cL, n, .inr (.inl qx))), (bv, .inl (cL, n, .inr (.inl qv)))] H := hP
    have hD : va_D A [(mo, .inr (1, [.ref ax, .ref av])), (ax, .inl (cL, n, .inr (.inl px))), (av, .inl (cL, n, .inr (.inl pv))), (mp, .inr (1, [.ref bx, .ref bv])), (bx, .inl (cL, n, .inr (.inl qx))), (bv, .inl (cL, n, .inr (.inl qv)))] := hD
    have hl : lv_has ls 5 [(0, .ref mo), (1, .ref mp), (2, .long (zGd px pv qx qv i)), (4, .int (nI i))] := hl
    refine lv_iload hx hb d_M_greatestDifference_5 (lv_at hl 3 rfl) ?_
    refine lv_aload_n hx hb d_M_greatestDifference_7 rfl (lv_at hl 0 rfl) ?_
    refine va_get (D := D) (ci := 1) (v := .ref ax) (C := "OscillatorRow$Motion") (T := T_M) (N := 2) hx hb hT i_M hown hK hP 0 rfl rfl 0 (by decide) (hT _ k_56) (fun _ h9 => h9) rfl d_M_greatestDifference_8 ?_
    refine va_alen (v := nI n) hx hb hK hP 1 1 rfl rfl rfl d_M_greatestDifference_11 ?_
    refine lv_icmp_ge (tgt := 67) hx hb d_M_greatestDifference_12 (by decide) (fun c12 => ?_) (fun c12 => ?_)
    · have c12 := nI_leM c12 (by omega) (by omega)
      have ein : n = i := by omega
      subst ein
      refine lv_lload_n hx hb d_M_greatestDifference_67 rfl (lv_at hl 2 rfl) ?_
      exact re_l (v := zGd px pv qx qv n) () hx hb hr hlocks rfl (hP.sub [0, 1, 2, 3, 4, 5] rfl) hK (hD.sub [0, 1, 2, 3, 4, 5] (by decide) rfl) hS d_M_greatestDifference_68
    · have c12 := nI_nleM c12 (by omega) (by omega)
      refine lv_lload_n hx hb d_M_greatestDifference_15 rfl (lv_at hl 2 rfl) ?_
      refine lv_aload_n hx hb d_M_greatestDifference_16 rfl (lv_at hl 0 rfl) ?_
      refine va_get (D := D) (ci := 1) (v := .ref ax) (C := "OscillatorRow$Motion") (T := T_M) (N := 2) hx hb hT i_M hown hK hP 0 rfl rfl 0 (by decide) (hT _ k_56) (fun _ h9 => h9) rfl d_M_greatestDifference_17 ?_
      refine lv_iload hx hb d_M_greatestDifference_20 (lv_at hl 3 rfl) ?_
      refine ra_lald (j := i) hx hb hK hP 1 1 rfl rfl (by omega) (by omega) d_M_greatestDifference_22 ?_
      refine lv_aload_n hx hb d_M_greatestDifference_23 rfl (lv_at hl 1 rfl) ?_
      refine va_get (D := D) (ci := 1) (v := .ref bx) (C := "OscillatorRow$Motion") (T := T_M) (N := 2) hx hb hT i_M hown hK hP 3 rfl rfl 0 (by decide) (hT _ k_56) (fun _ h9 => h9) rfl d_M_greatestDifference_24 ?_
      refine lv_iload hx hb d_M_greatestDifference_27 (lv_at hl 3 rfl) ?_
      refine ra_lald (j := i) hx hb hK hP 4 1 rfl rfl (by omega) (by omega) d_M_greatestDifference_29 ?_
      refine lv_lsub hx hb d_M_greatestDifference_30 ?_
      refine va_mabs_long hx hb (by rw [hml, hl.1]) hown (hT _ k_255) (hT _ k_256) (hT _ k_2) (hT _ k_257) (Nat.le_of_ble_eq_true rfl) (Nat.le_of_ble_eq_true rfl) (Nat.le_of_ble_eq_true rfl) (Nat.le_of_ble_eq_true rfl) d_M_greatestDifference_31 ?_
      refine top_l (y := (zAbs (px i - qx i))) rfl ?_
      refine va_mmax_long hx hb (by rw [hml, hl.1]) hown (hT _ k_258) (hT _ k_259) (hT _ k_2) (hT _ k_260) (Nat.le_of_ble_eq_true rfl) (Nat.le_of_ble_eq_true rfl) (Nat.le_of_ble_eq_true rfl) (Nat.le_of_ble_eq_true rfl) d_M_greatestDifference_34 ?_
      refine top_l (y := (zMax (zGd px pv qx qv i) (zAbs (px i - qx i)))) rfl ?_
      refine lv_lstore_n (lv' := [(2, .long (zMax (zGd px pv qx qv i) (zAbs (px i - qx i)))), (0, .ref mo), (1, .ref mp), (4, .int (nI i))]) hx hb d_M_greatestDifference_37 rfl hl (by decide) rfl (fun ls hl => ?_)
      refine lv_lload_n hx hb d_M_greatestDifference_38 rfl (lv_at hl 0 rfl) ?_
      refine lv_aload_n hx hb d_M_greatestDifference_39 rfl (lv_at hl 1 rfl) ?_
      refine va_get (D := D) (ci := 1) (v := .ref av) (C := "OscillatorRow$Motion") (T := T_M) (N := 2) hx hb hT i_M hown hK hP 0 rfl rfl 1 (by decide) (hT _ k_59) (fun _ h9 => h9) rfl d_M_greatestDifference_40 ?_
      refine lv_iload hx hb d_M_greatestDifference_43 (lv_at hl 3 rfl) ?_
      refine ra_lald (j := i) hx hb hK hP 2 1 rfl rfl (by omega) (by omega) d_M_greatestDifference_45 ?_
      refine lv_aload_n hx hb d_M_greatestDifference_46 rfl (lv_at hl 2 rfl) ?_
      refine va_get (D := D) (ci := 1) (v := .ref bv) (C := "OscillatorRow$Motion") (T := T_M) (N := 2) hx hb hT i_M hown hK hP 3 rfl rfl 1 (by decide) (hT _ k_59) (fun _ h9 => h9) rfl d_M_greatestDifference_47 ?_
      refine lv_iload hx hb d_M_greatestDifference_50 (lv_at hl 3 rfl) ?_
      refine ra_lald (j := i) hx hb hK hP 5 1 rfl rfl (by omega) (by omega) d_M_greatestDifference_52 ?_
      refine lv_lsub hx hb d_M_greatestDifference_53 ?_
      refine va_mabs_long hx hb (by rw [hml, hl.1]) hown (hT _ k_255) (hT _ k_256) (hT _ k_2) (hT _ k_257) (Nat.le_of_ble_eq_true rfl) (Nat.le_of_ble_eq_true rfl) (Nat.le_of_ble_eq_true rfl) (Nat.le_of_ble_eq_true rfl) d_M_greatestDifference_54 ?_
      refine top_l (y := (zAbs (pv i - qv i))) rfl ?_
      refine va_mmax_long hx hb (by rw [hml, hl.1]) hown (hT _ k_258) (hT _ k_259) (hT _ k_2) (hT _ k_260) (Nat.le_of_ble_eq_true rfl) (Nat.le_of_ble_eq_true rfl) (Nat.le_of_ble_eq_true rfl) (Nat.le_of_ble_eq_true rfl) d_M_greatestDifference_57 ?_
      refine top_l (y := (zGd px pv qx qv (i + 1))) rfl ?_
      refine lv_lstore_n (lv' := [(2, .long (zGd px pv qx qv (i + 1))), (0, .ref mo), (1, .ref mp), (4, .int (nI i))]) hx hb d_M_greatestDifference_60 rfl hl (by decide) rfl (fun ls hl => ?_)
      refine lv_iinc (v := (nI (i + 1))) (lv' := [(4, .int (nI (i + 1))), (2, .long (zGd px pv qx qv (i + 1))), (0, .ref mo), (1, .ref mp)]) hx hb d_M_greatestDifference_61 hl (k := 3) rfl (nI_1 i) (by decide) rfl (fun ls hl => ?_)
      refine lv_goto (tgt := 5) hx hb d_M_greatestDifference_64 (by decide) ?_
      exact ih (i + 1) _ _ _ ⟨(by (try dsimp only); omega), hP.sub [0, 1, 2, 3, 4, 5] rfl, hD.sub [0, 1, 2, 3, 4, 5] (by decide) rfl, hS, lv_sub hl [2, 3, 1, 0] rfl⟩
