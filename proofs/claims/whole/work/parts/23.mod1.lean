set_option maxHeartbeats 4000000 in
set_option maxRecDepth 100000 in
theorem c_X_no (l : Launch) (D : va_G) (cI cL cW cZ : ClassId) (xo : Nat) (n : Nat) (yk : Nat) (yc : Nat) (yq : Nat) (yf : Nat) (yp : Nat) (ys : Nat) (ym : Nat) (yb : Nat) (yl : Nat) (yu : Nat) (ya : Nat) (yt : Nat) (yh : Nat) (ye : Nat) (ct : Nat) (tm : Nat) (fs : Nat) (sd : Nat) (rj : Nat) (tol : Nat) (le : Int32) (ia : Int32) (sz : Nat) : Met l y_X_no w_X_no ({ frames := 0, cells := 0, slots := 0, locals := 0 }) (va_Pc [.ref xo, .int ia] (gP D vwCl (tyv cI cL cW cZ) [(xo, .inr (5, [.int (nI n), .ref yk, .ref yc, .ref yq, .ref yf, .ref yp, .ref ys, .ref ym, .ref yb, .ref yl, .ref yu, .ref ya, .ref yt, .ref yh, .ref ye, .int (nI ct), .int (nI tm), .int (nI fs), .int (nI sd), .int (nI rj), .int le, .int (nI tol)]))] sz)) (va_Qi (fun (r : Int32) (u : Unit) => r = zNo ia (nI n)) (fun u t => gB D vwCl (tyv cI cL cW cZ) (va_A [(xo, .inr (5, [.int (nI n), .ref yk, .ref yc, .ref yq, .ref yf, .ref yp, .ref ys, .ref ym, .ref yb, .ref yl, .ref yu, .ref ya, .ref yt, .ref yh, .ref ye, .int (nI ct), .int (nI tm), .int (nI fs), .int (nI sd), .int (nI rj), .int le, .int (nI tol)]))] sz) [(xo, .inr (5, [.int (nI n), .ref yk, .ref yc, .ref yq, .ref yf, .ref yp, .ref ys, .ref ym, .ref yb, .ref yl, .ref yu, .ref ya, .ref yt, .ref yh, .ref ye, .int (nI ct), .int (nI tm), .int (nI fs), .int (nI sd), .int (nI rj), .int le, .int (nI tol)]))] t) (va_A [(xo, .inr (5, [.int (nI n), .ref yk, .ref yc, .ref yq, .ref yf, .ref yp, .ref ys, .ref ym, .ref yb, .ref yl, .ref yu, .ref ya, .ref yt, .ref yh, .ref ye, .int (nI ct), .int (nI tm), .int (nI fs), .int (nI sd), .int (nI rj), .int le, .int (nI tol)]))] sz)) 0 0 (va_A [(xo, .inr (5, [.int (nI n), .ref yk, .ref yc, .ref yq, .ref yf, .ref yp, .ref ys, .ref ym, .ref yb, .ref yl, .ref yu, .ref ya, .ref yt, .ref yh, .ref ye, .int (nI ct), .int (nI tm), .int (nI fs), .int (nI sd), .int (nI rj), .int le, .int (nI tol)]))] sz) := by
  refine met_go (cc := prog_7_method_2_code) (maxL := 2) (ret := (some .boolean)) (QA := fun A => va_Qi (fun (r : Int32) (u : Unit) => r = zNo ia (nI n)) (fun u t => gB D vwCl (tyv cI cL cW cZ) A [(xo, .inr (5, [.int (nI n), .ref yk, .ref yc, .ref yq, .ref yf, .ref yp, .ref ys, .ref ym, .ref yb, .ref yl, .ref yu, .ref ya, .ref yt, .ref yh, .ref ye, .int (nI ct), .int (nI tm), .int (nI fs), .int (nI sd), .int (nI rj), .int le, .int (nI tol)]))] t) A) (by decide) (Nat.le_of_ble_eq_true rfl) ?_
  intro p e s m below meth c A ls hx hb hr hml hT hN hown hlocks hin hl hP hK hD hA hS
  have hl : lv_has ls 2 [(0, .ref xo), (1, .int ia)] := hl
  refine lv_iload_n hx hb d_X_no_0 rfl (lv_at hl 1 rfl) ?_
  refine lv_if_lt (tgt := 12) hx hb d_X_no_1 (by decide) (fun c1 => ?_) (fun c1 => ?_)
  · refine lv_iconst (v := 1) hx hb d_X_no_12 (by decide) ?_
    refine lv_goto (tgt := 17) hx hb d_X_no_13 (by decide) ?_
    exact re_z (v := 1) () hx hb hr rfl hlocks (by rw [zNo, if_pos c1]) (hP.sub [0] rfl) hK (hD.sub [0] (by decide) rfl) hS d_X_no_17
  · refine lv_iload_n hx hb d_X_no_4 rfl (lv_at hl 1 rfl) ?_
    refine lv_aload_n hx hb d_X_no_5 rfl (lv_at hl 0 rfl) ?_
    refine va_get (D := D) (ci := 5) (v := .int (nI n)) (C := "OscillatorRowModel") (T := T_X) (N := 22) hx hb hT i_X hown hK hP 0 rfl rfl 0 (by decide) (hT _ k_337) (fun _ h9 => h9) rfl d_X_no_6 ?_
    refine lv_icmp_lt (tgt := 16) hx hb d_X_no_9 (by decide) (fun c9 => ?_) (fun c9 => ?_)
    · refine lv_iconst (v := 0) hx hb d_X_no_16 (by decide) ?_
      exact re_z (v := 0) () hx hb hr rfl hlocks (by rw [zNo, if_neg c1, if_pos c9]) (hP.sub [0] rfl) hK (hD.sub [0] (by decide) rfl) hS d_X_no_17
    · refine lv_iconst (v := 1) hx hb d_X_no_12 (by decide) ?_
      refine lv_goto (tgt := 17) hx hb d_X_no_13 (by decide) ?_
      exact re_z (v := 1) () hx hb hr rfl hlocks (by rw [zNo, if_neg c1, if_neg c9]) (hP.sub [0] rfl) hK (hD.sub [0] (by decide) rfl) hS d_X_no_17
set_option maxHeartbeats 4000000 in
set_option maxRecDepth 100000 in
theorem c_X_off (l : Launch) (D : va_G) (cI cL cW cZ : ClassId) (xo : Nat) (n : Nat) (yk : Nat) (yc : Nat) (yq : Nat) (yf : Nat) (yp : Nat) (ys : Nat) (ym : Nat) (yb : Nat) (yl : Nat) (yu : Nat) (ya : Nat) (yt : Nat) (yh : Nat) (ye : Nat) (ct : Nat) (tm : Nat) (fs : Nat) (sd : Nat) (rj : Nat) (tol : Nat) (le : Int32) (ia : Int32) (ib : Int32) (sz : Nat) : Met l y_X_off w_X_off ({ frames := 0, cells := 0, slots := 0, locals := 0 }) (va_Pc [.ref xo, .int ia, .int ib] (gP D vwCl (tyv cI cL cW cZ) [(xo, .inr (5, [.int (nI n), .ref yk, .ref yc, .ref yq, .ref yf, .ref yp, .ref ys, .ref ym, .ref yb, .ref yl, .ref yu, .ref ya, .ref yt, .ref yh, .ref ye, .int (nI ct), .int (nI tm), .int (nI fs), .int (nI sd), .int (nI rj), .int le, .int (nI tol)]))] sz)) (va_Qi (fun (r : Int32) (u : Unit) => r = zOff ia ib) (fun u t => gB D vwCl (tyv cI cL cW cZ) (va_A [(xo, .inr (5, [.int (nI n), .ref yk, .ref yc, .ref yq, .ref yf, .ref yp, .ref ys, .ref ym, .ref yb, .ref yl, .ref yu, .ref ya, .ref yt, .ref yh, .ref ye, .int (nI ct), .int (nI tm), .int (nI fs), .int (nI sd), .int (nI rj), .int le, .int (nI tol)]))] sz) [(xo, .inr (5, [.int (nI n), .ref yk, .ref yc, .ref yq, .ref yf, .ref yp, .ref ys, .ref ym, .ref yb, .ref yl, .ref yu, .ref ya, .ref yt, .ref yh, .ref ye, .int (nI ct), .int (nI tm), .int (nI fs), .int (nI sd), .int (nI rj), .int le, .int (nI tol)]))] t) (va_A [(xo, .inr (5, [.int (nI n), .ref yk, .ref yc, .ref yq, .ref yf, .ref yp, .ref ys, .ref ym, .ref yb, .ref yl, .ref yu, .ref ya, .ref yt, .ref yh, .ref ye, .int (nI ct), .int (nI tm), .int (nI fs), .int (nI sd), .int (nI rj), .int le, .int (nI tol)]))] sz)) 0 0 (va_A [(xo, .inr (5, [.int (nI n), .ref yk, .ref yc, .ref yq, .ref yf, .ref yp, .ref ys, .ref ym, .ref yb, .ref yl, .ref yu, .ref ya, .ref yt, .ref yh, .ref ye, .int (nI ct), .int (nI tm), .int (nI fs), .int (nI sd), .int (nI rj), .int le, .int (nI tol)]))] sz) := by
  refine met_go (cc := prog_7_method_3_code) (maxL := 3) (ret := (some .boolean)) (QA := fun A => va_Qi (fun (r : Int32) (u : Unit) => r = zOff ia ib) (fun u t => gB D vwCl (tyv cI cL cW cZ) A [(xo, .inr (5, [.int (nI n), .ref yk, .ref yc, .ref yq, .ref yf, .ref yp, .ref ys, .ref ym, .ref yb, .ref yl, .ref yu, .ref ya, .ref yt, .ref yh, .ref ye, .int (nI ct), .int (nI tm), .int (nI fs), .int (nI sd), .int (nI rj), .int le, .int (nI tol)]))] t) A) (by decide) (Nat.le_of_ble_eq_true rfl) ?_
  intro p e s m below meth c A ls hx hb hr hml hT hN hown hlocks hin hl hP hK hD hA hS
  have hl : lv_has ls 3 [(0, .ref xo), (1, .int ia), (2, .int ib)] := hl
  refine lv_iload_n hx hb d_X_off_0 rfl (lv_at hl 1 rfl) ?_
  refine lv_iload_n hx hb d_X_off_1 rfl (lv_at hl 2 rfl) ?_
  refine lv_ineg hx hb d_X_off_2 ?_
  refine lv_icmp_lt (tgt := 11) hx hb d_X_off_3 (by decide) (fun c3 => ?_) (fun c3 => ?_)
  · refine lv_iconst (v := 1) hx hb d_X_off_11 (by decide) ?_
    refine lv_goto (tgt := 16) hx hb d_X_off_12 (by decide) ?_
    exact re_z (v := 1) () hx hb hr rfl hlocks (by rw [zOff, if_pos c3]) (hP.sub [0] rfl) hK (hD.sub [0] (by decide) rfl) hS d_X_off_16
  · refine lv_iload_n hx hb d_X_off_6 rfl (lv_at hl 1 rfl) ?_
    refine lv_iload_n hx hb d_X_off_7 rfl (lv_at hl 2 rfl) ?_
    refine lv_icmp_le (tgt := 15) hx hb d_X_off_8 (by decide) (fun c8 => ?_) (fun c8 => ?_)
    · refine lv_iconst (v := 0) hx hb d_X_off_15 (by decide) ?_
      exact re_z (v := 0) () hx hb hr rfl hlocks (by rw [zOff, if_neg c3, if_pos c8]) (hP.sub [0] rfl) hK (hD.sub [0] (by decide) rfl) hS d_X_off_16
    · refine lv_iconst (v := 1) hx hb d_X_off_11 (by decide) ?_
      refine lv_goto (tgt := 16) hx hb d_X_off_12 (by decide) ?_
      exact re_z (v := 1) () hx hb hr rfl hlocks (by rw [zOff, if_neg c3, if_neg c8]) (hP.sub [0] rfl) hK (hD.sub [0] (by decide) rfl) hS d_X_off_16
set_option maxHeartbeats 4000000 in
set_option maxRecDepth 100000 in
theorem c_X_far (l : Launch) (D : va_G) (cI cL cW cZ : ClassId) (xo : Nat) (n : Nat) (yk : Nat) (yc : Nat) (yq : Nat) (yf : Nat) (yp : Nat) (ys : Nat) (ym : Nat) (yb : Nat) (yl : Nat) (yu : Nat) (ya : Nat) (yt : Nat) (yh : Nat) (ye : Nat) (ct : Nat) (tm : Nat) (fs : Nat) (sd : Nat) (rj : Nat) (tol : Nat) (le : Int32) (am : Int64) (sz : Nat) : Met l y_X_far w_X_far ({ frames := 0, cells := 0, slots := 0, locals := 0 }) (va_Pc [.ref xo, .long am] (gP D vwCl (tyv cI cL cW cZ) [(xo, .inr (5, [.int (nI n), .ref yk, .ref yc, .ref yq, .ref yf, .ref yp, .ref ys, .ref ym, .ref yb, .ref yl, .ref yu, .ref ya, .ref yt, .ref yh, .ref ye, .int (nI ct), .int (nI tm), .int (nI fs), .int (nI sd), .int (nI rj), .int le, .int (nI tol)]))] sz)) (va_Qi (fun (r : Int32) (u : Unit) => r = zFar am) (fun u t => gB D vwCl (tyv cI cL cW cZ) (va_A [(xo, .inr (5, [.int (nI n), .ref yk, .ref yc, .ref yq, .ref yf, .ref yp, .ref ys, .ref ym, .ref yb, .ref yl, .ref yu, .ref ya, .ref yt, .ref yh, .ref ye, .int (nI ct), .int (nI tm), .int (nI fs), .int (nI sd), .int (nI rj), .int le, .int (nI tol)]))] sz) [(xo, .inr (5, [.int (nI n), .ref yk, .ref yc, .ref yq, .ref yf, .ref yp, .ref ys, .ref ym, .ref yb, .ref yl, .ref yu, .ref ya, .ref yt, .ref yh, .ref ye, .int (nI ct), .int (nI tm), .int (nI fs), .int (nI sd), .int (nI rj), .int le, .int (nI tol)]))] t) (va_A [(xo, .inr (5, [.int (nI n), .ref yk, .ref yc, .ref yq, .ref yf, .ref yp, .ref ys, .ref ym, .ref yb, .ref yl, .ref yu, .ref ya, .ref yt, .ref yh, .ref ye, .int (nI ct), .int (nI tm), .int (nI fs), .int (nI sd), .int (nI rj), .int le, .int (nI tol)]))] sz)) 0 0 (va_A [(xo, .inr (5, [.int (nI n), .ref yk, .ref yc, .ref yq, .ref yf, .ref yp, .ref ys, .ref ym, .ref yb, .ref yl, .ref yu, .ref ya, .ref yt, .ref yh, .ref ye, .int (nI ct), .int (nI tm), .int (nI fs), .int (nI sd), .int (nI rj), .int le, .int (nI tol)]))] sz) := by
  refine met_go (cc := prog_7_method_11_code) (maxL := 3) (ret := (some .boolean)) (QA := fun A => va_Qi (fun (r : Int32) (u : Unit) => r = zFar am) (fun u t => gB D vwCl (tyv cI cL cW cZ) A [(xo, .inr (5, [.int (nI n), .ref yk, .ref yc, .ref yq, .ref yf, .ref yp, .ref ys, .ref ym, .ref yb, .ref yl, .ref yu, .ref ya, .ref yt, .ref yh, .ref ye, .int (nI ct), .int (nI tm), .int (nI fs), .int (nI sd), .int (nI rj), .int le, .int (nI tol)]))] t) A) (by decide) (Nat.le_of_ble_eq_true rfl) ?_
  intro p e s m below meth c A ls hx hb hr hml hT hN hown hlocks hin hl hP hK hD hA hS
  have hl : lv_has ls 3 [(0, .ref xo), (1, .long am)] := hl
  refine lv_lload_n hx hb d_X_far_0 rfl (lv_at hl 1 rfl) ?_
  refine lv_ldc2 (v := 1024000000) hx hb hown (hT _ k_472) d_X_far_1 ?_
  refine W.lcmp hx hb d_X_far_4 ?_
  refine lv_if_gt (tgt := 16) hx hb d_X_far_5 (by decide) (fun c5 => ?_) (fun c5 => ?_)
  · have c5 := lgt_gt c5
    refine lv_iconst (v := 1) hx hb d_X_far_16 (by decide) ?_
    refine lv_goto (tgt := 21) hx hb d_X_far_17 (by decide) ?_
    exact re_z (v := 1) () hx hb hr rfl hlocks (by rw [zFar, if_pos c5]) (hP.sub [0] rfl) hK (hD.sub [0] (by decide) rfl) hS d_X_far_21
  · have c5 := lgf_gt c5
    refine lv_lload_n hx hb d_X_far_8 rfl (lv_at hl 1 rfl) ?_
    refine lv_ldc2 (v := (-1024000000)) hx hb hown (hT _ k_473) d_X_far_9 ?_
    refine W.lcmp hx hb d_X_far_12 ?_
    refine lv_if_ge (tgt := 20) hx hb d_X_far_13 (by decide) (fun c13 => ?_) (fun c13 => ?_)
    · have c13 := lgt_ge c13
      refine lv_iconst (v := 0) hx hb d_X_far_20 (by decide) ?_
      exact re_z (v := 0) () hx hb hr rfl hlocks (by rw [zFar, if_neg c5, if_pos c13]) (hP.sub [0] rfl) hK (hD.sub [0] (by decide) rfl) hS d_X_far_21
    · have c13 := lgf_ge c13
      refine lv_iconst (v := 1) hx hb d_X_far_16 (by decide) ?_
      refine lv_goto (tgt := 21) hx hb d_X_far_17 (by decide) ?_
      exact re_z (v := 1) () hx hb hr rfl hlocks (by rw [zFar, if_neg c5, if_neg c13]) (hP.sub [0] rfl) hK (hD.sub [0] (by decide) rfl) hS d_X_far_21
set_option maxHeartbeats 4000000 in
set_option maxRecDepth 100000 in
theorem c_X_kick (l : Launch) (D : va_G) (cI cL cW cZ : ClassId) (xo : Nat) (n : Nat) (yk : Nat) (yc : Nat) (yq : Nat) (yf : Nat) (yp : Nat) (ys : Nat) (ym : Nat) (yb : Nat) (yl : Nat) (yu : Nat) (ya : Nat) (yt : Nat) (yh : Nat) (ye : Nat) (ct : Nat) (tm : Nat) (fs : Nat) (sd : Nat) (rj : Nat) (tol : Nat) (le : Int32) (am : Int64) (hh : Int32) (sz : Nat) : Met l y_X_kick w_X_kick ({ frames := 0, cells := 0, slots := 0, locals := 0 }) (va_Pc [.ref xo, .long am, .int hh] (gP D vwCl (tyv cI cL cW cZ) [(xo, .inr (5, [.int (nI n), .ref yk, .ref yc, .ref yq, .ref yf, .ref yp, .ref ys, .ref ym, .ref yb, .ref yl, .ref yu, .ref ya, .ref yt, .ref yh, .ref ye, .int (nI ct), .int (nI tm), .int (nI fs), .int (nI sd), .int (nI rj), .int le, .int (nI tol)]))] sz)) (va_Ql (fun (r : Int64) (u : Unit) => r = zKick am hh) (fun u t => gB D vwCl (tyv cI cL cW cZ) (va_A [(xo, .inr (5, [.int (nI n), .ref yk, .ref yc, .ref yq, .ref yf, .ref yp, .ref ys, .ref ym, .ref yb, .ref yl, .ref yu, .ref ya, .ref yt, .ref yh, .ref ye, .int (nI ct), .int (nI tm), .int (nI fs), .int (nI sd), .int (nI rj), .int le, .int (nI tol)]))] sz) [(xo, .inr (5, [.int (nI n), .ref yk, .ref yc, .ref yq, .ref yf, .ref yp, .ref ys, .ref ym, .ref yb, .ref yl, .ref yu, .ref ya, .ref yt, .ref yh, .ref ye, .int (nI ct), .int (nI tm), .int (nI fs), .int (nI sd), .int (nI rj), .int le, .int (nI tol)]))] t) (va_A [(xo, .inr (5, [.int (nI n), .ref yk, .ref yc, .ref yq, .ref yf, .ref yp, .ref ys, .ref ym, .ref yb, .ref yl, .ref yu, .ref ya, .ref yt, .ref yh, .ref ye, .int (nI ct), .int (nI tm), .int (nI fs), .int (nI sd), .int (nI rj), .int le, .int (nI tol)]))] sz)) 0 0 (va_A [(xo, .inr (5, [.int (nI n), .ref yk, .ref yc, .ref yq, .ref yf, .ref yp, .ref ys, .ref ym, .ref yb, .ref yl, .ref yu, .ref ya, .ref yt, .ref yh, .ref ye, .int (nI ct), .int (nI tm), .int (nI fs), .int (nI sd), .int (nI rj), .int le, .int (nI tol)]))] sz) := by
  refine met_go (cc := prog_7_method_12_code) (maxL := 4) (ret := (some .long)) (QA := fun A => va_Ql (fun (r : Int64) (u : Unit) => r = zKick am hh) (fun u t => gB D vwCl (tyv cI cL cW cZ) A [(xo, .inr (5, [.int (nI n), .ref yk, .ref yc, .ref yq, .ref yf, .ref yp, .ref ys, .ref ym, .ref yb, .ref yl, .ref yu, .ref ya, .ref yt, .ref yh, .ref ye, .int (nI ct), .int (nI tm), .int (nI fs), .int (nI sd), .int (nI rj), .int le, .int (nI tol)]))] t) A) (by decide) (Nat.le_of_ble_eq_true rfl) ?_
  intro p e s m below meth c A ls hx hb hr hml hT hN hown hlocks hin hl hP hK hD hA hS
  have hl : lv_has ls 4 [(0, .ref xo), (1, .long am), (3, .int hh)] := hl
  refine lv_lload_n hx hb d_X_kick_0 rfl (lv_at hl 1 rfl) ?_
  refine lv_lconst (v := 1) hx hb d_X_kick_1 (by decide) ?_
  refine lv_iload_n hx hb d_X_kick_2 rfl (lv_at hl 2 rfl) ?_
  refine lv_iconst (v := 4) hx hb d_X_kick_3 (by decide) ?_
  refine lv_iadd hx hb d_X_kick_4 ?_
  refine lv_lshl hx hb d_X_kick_5 rfl ?_
  refine lv_ladd hx hb d_X_kick_6 ?_
  refine lv_iload_n hx hb d_X_kick_7 rfl (lv_at hl 2 rfl) ?_
  refine lv_iconst (v := 5) hx hb d_X_kick_8 (by decide) ?_
  refine lv_iadd hx hb d_X_kick_9 ?_
  refine lv_lshr hx hb d_X_kick_10 rfl ?_
  exact re_l (v := (am + (1 <<< ((hh + 4).toInt64 &&& 63))) >>> ((hh + 5).toInt64 &&& 63)) () hx hb hr hlocks rfl (hP.sub [0] rfl) hK (hD.sub [0] (by decide) rfl) hS d_X_kick_11
set_option maxHeartbeats 4000000 in
set_option maxRecDepth 100000 in
theorem c_X_ticks (l : Launch) (D : va_G) (cI cL cW cZ : ClassId) (xo : Nat) (n : Nat) (yk : Nat) (yc : Nat) (yq : Nat) (yf : Nat) (yp : Nat) (ys : Nat) (ym : Nat) (yb : Nat) (yl : Nat) (yu : Nat) (ya : Nat) (yt : Nat) (yh : Nat) (ye : Nat) (ct : Nat) (tm : Nat) (fs : Nat) (sd : Nat) (rj : Nat) (tol : Nat) (le : Int32) (sz : Nat) : Met l y_X_ticks w_X_ticks ({ frames := 0, cells := 0, slots := 0, locals := 0 }) (va_Pc [.ref xo] (gP D vwCl (tyv cI cL cW cZ) [(xo, .inr (5, [.int (nI n), .ref yk, .ref yc, .ref yq, .ref yf, .ref yp, .ref ys, .ref ym, .ref yb, .ref yl, .ref yu, .ref ya, .ref yt, .ref yh, .ref ye, .int (nI ct), .int (nI tm), .int (nI fs), .int (nI sd), .int (nI rj), .int le, .int (nI tol)]))] sz)) (va_Qi (fun (r : Int32) (u : Unit) => r = 256 >>> (nI fs &&& 31)) (fun u t => gB D vwCl (tyv cI cL cW cZ) (va_A [(xo, .inr (5, [.int (nI n), .ref yk, .ref yc, .ref yq, .ref yf, .ref yp, .ref ys, .ref ym, .ref yb, .ref yl, .ref yu, .ref ya, .ref yt, .ref yh, .ref ye, .int (nI ct), .int (nI tm), .int (nI fs), .int (nI sd), .int (nI rj), .int le, .int (nI tol)]))] sz) [(xo, .inr (5, [.int (nI n), .ref yk, .ref yc, .ref yq, .ref yf, .ref yp, .ref ys, .ref ym, .ref yb, .ref yl, .ref yu, .ref ya, .ref yt, .ref yh, .ref ye, .int (nI ct), .int (nI tm), .int (nI fs), .int (nI sd), .int (nI rj), .int le, .int (nI tol)]))] t) (va_A [(xo, .inr (5, [.int (nI n), .ref yk, .ref yc, .ref yq, .ref yf, .ref yp, .ref ys, .ref ym, .ref yb, .ref yl, .ref yu, .ref ya, .ref yt, .ref yh, .ref ye, .int (nI ct), .int (nI tm), .int (nI fs), .int (nI sd), .int (nI rj), .int le, .int (nI tol)]))] sz)) 0 0 (va_A [(xo, .inr (5, [.int (nI n), .ref yk, .ref yc, .ref yq, .ref yf, .ref yp, .ref ys, .ref ym, .ref yb, .ref yl, .ref yu, .ref ya, .ref yt, .ref yh, .ref ye, .int (nI ct), .int (nI tm), .int (nI fs), .int (nI sd), .int (nI rj), .int le, .int (nI tol)]))] sz) := by
  refine met_go (cc := prog_7_method_16_code) (maxL := 1) (ret := (some .int)) (QA := fun A => va_Qi (fun (r : Int32) (u : Unit) => r = 256 >>> (nI fs &&& 31)) (fun u t => gB D vwCl (tyv cI cL cW cZ) A [(xo, .inr (5, [.int (nI n), .ref yk, .ref yc, .ref yq, .ref yf, .ref yp, .ref ys, .ref ym, .ref yb, .ref yl, .ref yu, .ref ya, .ref yt, .ref yh, .ref ye, .int (nI ct), .int (nI tm), .int (nI fs), .int (nI sd), .int (nI rj), .int le, .int (nI tol)]))] t) A) (by decide) (Nat.le_of_ble_eq_true rfl) ?_
  intro p e s m below meth c A ls hx hb hr hml hT hN hown hlocks hin hl hP hK hD hA hS
  have hl : lv_has ls 1 [(0, .ref xo)] := hl
  refine lv_sipush (v := 256) hx hb d_X_ticks_0 (by decide) ?_
  refine lv_aload_n hx hb d_X_ticks_3 rfl (lv_at hl 0 rfl) ?_
  refine va_get (D := D) (ci := 5) (v := .int (nI fs)) (C := "OscillatorRowModel") (T := T_X) (N := 22) hx hb hT i_X hown hK hP 0 rfl rfl 17 (by decide) (hT _ k_354) (fun _ h9 => h9) rfl d_X_ticks_4 ?_
  refine lv_ishr hx hb d_X_ticks_7 ?_
  exact re_i (v := 256 >>> ((nI fs) &&& 31)) () hx hb hr hlocks rfl (hP.sub [0] rfl) hK (hD.sub [0] (by decide) rfl) hS d_X_ticks_8
set_option maxHeartbeats 4000000 in
set_option maxRecDepth 100000 in
theorem c_X_push0 (l : Launch) (D : va_G) (cI cL cW cZ : ClassId) (xo : Nat) (n : Nat) (yk : Nat) (yc : Nat) (yq : Nat) (yf : Nat) (yp : Nat) (ys : Nat) (ym : Nat) (yb : Nat) (yl : Nat) (yu : Nat) (ya : Nat) (yt : Nat) (yh : Nat) (ye : Nat) (ct : Nat) (tm : Nat) (fs : Nat) (sd : Nat) (rj : Nat) (tol : Nat) (le : Int32) (zk : Nat → Int32) (zc : Nat → Int32) (zq : Nat → Int32) (zf : Nat → Int32) (pp : Nat → Int64) (px : Nat → Int64) (rw : Nat) (j : Nat) (vm : Int64) (sz : Nat) (hn : n ≤ 4) (hj : j < n) (hr2 : rw ≤ 2) (hp : ∀ q, q < n → pp (rw * 4 + q) = px q) : Met l y_X_pushIn w_X_pushIn ({ frames := 0, cells := 0, slots := 0, locals := 0 }) (va_Pc [.ref xo, .int (nI rw), .int (nI j), .long vm] (gP D vwCl (tyv cI cL cW cZ) [(xo, .inr (5, [.int (nI n), .ref yk, .ref yc, .ref yq, .ref yf, .ref yp, .ref ys, .ref ym, .ref yb, .ref yl, .ref yu, .ref ya, .ref yt, .ref yh, .ref ye, .int (nI ct), .int (nI tm), .int (nI fs), .int (nI sd), .int (nI rj), .int le, .int (nI tol)])), (yk, .inl (cL, 4, .inr (.inl (zI2 zk)))), (yc, .inl (cL, 4, .inr (.inl (zI2 zc)))), (yq, .inl (cL, 4, .inr (.inl (zI2 zq)))), (yf, .inl (cL, 4, .inr (.inl (zI2 zf)))), (yp, .inl (cL, 12, .inr (.inl pp)))] sz)) (va_Ql (fun (r : Int64) (u : Unit) => r = zPush n zk zc zq zf px (fun _ => vm) j) (fun u t => gB D vwCl (tyv cI cL cW cZ) (va_A [(xo, .inr (5, [.int (nI n), .ref yk, .ref yc, .ref yq, .ref yf, .ref yp, .ref ys, .ref ym, .ref yb, .ref yl, .ref yu, .ref ya, .ref yt, .ref yh, .ref ye, .int (nI ct), .int (nI tm), .int (nI fs), .int (nI sd), .int (nI rj), .int le, .int (nI tol)])), (yk, .inl (cL, 4, .inr (.inl (zI2 zk)))), (yc, .inl (cL, 4, .inr (.inl (zI2 zc)))), (yq, .inl (cL, 4, .inr (.inl (zI2 zq)))), (yf, .inl (cL, 4, .inr (.inl (zI2 zf)))), (yp, .inl (cL, 12, .inr (.inl pp)))] sz) [(xo, .inr (5, [.int (nI n), .ref yk, .ref yc, .ref yq, .ref yf, .ref yp, .ref ys, .ref ym, .ref yb, .ref yl, .ref yu, .ref ya, .ref yt, .ref yh, .ref ye, .int (nI ct), .int (nI tm), .int (nI fs), .int (nI sd), .int (nI rj), .int le, .int (nI tol)])), (yk, .inl (cL, 4, .inr (.inl (zI2 zk)))), (yc, .inl (cL, 4, .inr (.inl (zI2 zc)))), (yq, .inl (cL, 4, .inr (.inl (zI2 zq)))), (yf, .inl (cL, 4, .inr (.inl (zI2 zf)))), (yp, .inl (cL, 12, .inr (.inl pp)))] t) (va_A [(xo, .inr (5, [.int (nI n), .ref yk, .ref yc, .ref yq, .ref yf, .ref yp, .ref ys, .ref ym, .ref yb, .ref yl, .ref yu, .ref ya, .ref yt, .ref yh, .ref ye, .int (nI ct), .int (nI tm), .int (nI fs), .int (nI sd), .int (nI rj), .int le, .int (nI tol)])), (yk, .inl (cL, 4, .inr (.inl (zI2 zk)))), (yc, .inl (cL, 4, .inr (.inl (zI2 zc)))), (yq, .inl (cL, 4, .inr (.inl (zI2 zq)))), (yf, .inl (cL, 4, .inr (.inl (zI2 zf)))), (yp, .inl (cL, 12, .inr (.inl pp)))] sz)) 0 0 (va_A [(xo, .inr (5, [.int (nI n), .ref yk, .ref yc, .ref yq, .ref yf, .ref yp, .ref ys, .ref ym, .ref yb, .ref yl, .ref yu, .ref ya, .ref yt, .ref yh, .ref ye, .int (nI ct), .int (nI tm), .int (nI fs), .int (nI sd), .int (nI rj), .int le, .int (nI tol)])), (yk, .inl (cL, 4, .inr (.inl (zI2 zk)))), (yc, .inl (cL, 4, .inr (.inl (zI2 zc)))), (yq, .inl (cL, 4, .inr (.inl (zI2 zq)))), (yf, .inl (cL, 4, .inr (.inl (zI2 zf)))), (yp, .inl (cL, 12, .inr (.inl pp)))] sz) := by
  refine met_go (cc := prog_7_method_10_code) (maxL := 9) (ret := (some .long)) (QA := fun A => va_Ql (fun (r : Int64) (u : Unit) => r = zPush n zk zc zq zf px (fun _ => vm) j) (fun u t => gB D vwCl (tyv cI cL cW cZ) A [(xo, .inr (5, [.int (nI n), .ref yk, .ref yc, .ref yq, .ref yf, .ref yp, .ref ys, .ref ym, .ref yb, .ref yl, .ref yu, .ref ya, .ref yt, .ref yh, .ref ye, .int (nI ct), .int (nI tm), .int (nI fs), .int (nI sd), .int (nI rj), .int le, .int (nI tol)])), (yk, .inl (cL, 4, .inr (.inl (zI2 zk)))), (yc, .inl (cL, 4, .inr (.inl (zI2 zc)))), (yq, .inl (cL, 4, .inr (.inl (zI2 zq)))), (yf, .inl (cL, 4, .inr (.inl (zI2 zf)))), (yp, .inl (cL, 12, .inr (.inl pp)))] t) A) (by decide) (Nat.le_of_ble_eq_true rfl) ?_
  intro p e s m below meth c A ls hx hb hr hml hT hN hown hlocks hin hl hP hK hD hA hS
  have hl : lv_has ls 9 [(0, .ref xo), (1, .int (nI rw)), (2, .int (nI j)), (3, .long vm)] := hl
  refine lv_aload_n hx hb d_X_pushIn_0 rfl (lv_at hl 0 rfl) ?_
  refine va_get (D := D) (ci := 5) (v := .ref yp) (C := "OscillatorRowModel") (T := T_X) (N := 22) hx hb hT i_X hown hK hP 0 rfl rfl 5 (by decide) (hT _ k_342) (fun _ h9 => h9) rfl d_X_pushIn_1 ?_
  refine lv_iload_n hx hb d_X_pushIn_4 rfl (lv_at hl 1 rfl) ?_
  refine lv_iconst (v := nI 4) hx hb d_X_pushIn_5 (by decide) ?_
  refine lv_imul hx hb d_X_pushIn_6 ?_
  refine top_i (y := (nI (rw * 4))) (pk_mul rw 4) ?_
  refine lv_iload_n hx hb d_X_pushIn_7 rfl (lv_at hl 2 rfl) ?_
  refine lv_iadd hx hb d_X_pushIn_8 ?_
  refine top_i (y := (nI (rw * 4 + j))) (nI_add (rw * 4) j) ?_
  refine ra_lald (j := (rw * 4 + j)) hx hb hK hP 5 1 rfl rfl (by omega) (by omega) d_X_pushIn_9 ?_
  refine top_l (y := (px j)) (hp j hj) ?_
  refine lv_lstore (lv' := [(5, .long (px j)), (0, .ref xo), (1, .int (nI rw)), (2, .int (nI j)), (3, .long vm)]) hx hb d_X_pushIn_10 hl (by decide) rfl (fun ls hl => ?_)
  refine lv_ldc2 (v := 16) hx hb hown (hT _ k_463) d_X_pushIn_12 ?_
  refine lv_aload_n hx hb d_X_pushIn_15 rfl (lv_at hl 1 rfl) ?_
  refine va_get (D := D) (ci := 5) (v := .ref yf) (C := "OscillatorRowModel") (T := T_X) (N := 22) hx hb hT i_X hown hK hP 0 rfl rfl 4 (by decide) (hT _ k_341) (fun _ h9 => h9) rfl d_X_pushIn_16 ?_
  refine lv_iload_n hx hb d_X_pushIn_19 rfl (lv_at hl 3 rfl) ?_
  refine ra_lald (j := j) hx hb hK hP 4 1 rfl rfl (by omega) (by omega) d_X_pushIn_20 ?_
  refine lv_lmul hx hb d_X_pushIn_21 ?_
  refine top_l (y := ((zf j).toInt64 <<< ((4 : Int32).toInt64 &&& 63))) (sh4 _) ?_
  refine lv_aload_n hx hb d_X_pushIn_22 rfl (lv_at hl 1 rfl) ?_
  refine va_get (D := D) (ci := 5) (v := .ref yk) (C := "OscillatorRowModel") (T := T_X) (N := 22) hx hb hT i_X hown hK hP 0 rfl rfl 1 (by decide) (hT _ k_338) (fun _ h9 => h9) rfl d_X_pushIn_23 ?_
  refine lv_iload_n hx hb d_X_pushIn_26 rfl (lv_at hl 3 rfl) ?_
  refine ra_lald (j := j) hx hb hK hP 1 1 rfl rfl (by omega) (by omega) d_X_pushIn_27 ?_
  refine lv_lload hx hb d_X_pushIn_28 (lv_at hl 0 rfl) ?_
  refine lv_lmul hx hb d_X_pushIn_30 ?_
  refine lv_lsub hx hb d_X_pushIn_31 ?_
  refine lv_aload_n hx hb d_X_pushIn_32 rfl (lv_at hl 1 rfl) ?_
  refine va_get (D := D) (ci := 5) (v := .ref yc) (C := "OscillatorRowModel") (T := T_X) (N := 22) hx hb hT i_X hown hK hP 0 rfl rfl 2 (by decide) (hT _ k_339) (fun _ h9 => h9) rfl d_X_pushIn_33 ?_
  refine lv_iload_n hx hb d_X_pushIn_36 rfl (lv_at hl 3 rfl) ?_
  refine ra_lald (j := j) hx hb hK hP 2 1 rfl rfl (by omega) (by omega) d_X_pushIn_37 ?_
  refine lv_lload_n hx hb d_X_pushIn_38 rfl (lv_at hl 4 rfl) ?_
  refine lv_lmul hx hb d_X_pushIn_39 ?_
  refine lv_lsub hx hb d_X_pushIn_40 ?_
  refine lv_lstore (lv' := [(7, .long ((((zf j).toInt64 <<< ((4 : Int32).toInt64 &&& 63)) - (((zk j).toInt64) * (px j))) - (((zc j).toInt64) * vm))), (5, .long (px j)), (0, .ref xo), (1, .int (nI rw)), (2, .int (nI j)), (3, .long vm)]) hx hb d_X_pushIn_41 hl (by decide) rfl (fun ls hl => ?_)
  refine lv_iload_n hx hb d_X_pushIn_43 rfl (lv_at hl 4 rfl) ?_
  refine lv_aload_n hx hb d_X_pushIn_44 rfl (lv_at hl 2 rfl) ?_
  refine va_get (D := D) (ci := 5) (v := .int (nI n)) (C := "OscillatorRowModel") (T := T_X) (N := 22) hx hb hT i_X hown hK hP 0 rfl rfl 0 (by decide) (hT _ k_337) (fun _ h9 => h9) rfl d_X_pushIn_45 ?_
  refine lv_iconst (v := 1) hx hb d_X_pushIn_48 (by decide) ?_
  refine lv_isub hx hb d_X_pushIn_49 ?_
  refine top_i (y := (nI (n - 1))) (nI_p (by omega)) ?_
  refine lv_icmp_ge (tgt := 80) hx hb d_X_pushIn_50 (by decide) (fun c50 => ?_) (fun c50 => ?_)
  · have c50 := nI_leM c50 (by omega) (by omega)
    refine lv_iload_n hx hb d_X_pushIn_80 rfl (lv_at hl 4 rfl) ?_
    refine lv_if_le (tgt := 113) hx hb d_X_pushIn_81 (by decide) (fun c81 => ?_) (fun c81 => ?_)
    · have c81 := nI_le0M c81 (by omega)
      refine lv_lload hx hb d_X_pushIn_113 (lv_at hl 0 rfl) ?_
      exact re_l (v := (((zf j).toInt64 <<< ((4 : Int32).toInt64 &&& 63)) - (((zk j).toInt64) * (px j))) - (((zc j).toInt64) * vm)) () hx hb hr hlocks (by rw [zPush, if_pos c81, zP1, if_pos (show n ≤ j + 1 by omega)]; rfl) (hP.sub [0, 1, 2, 3, 4, 5] rfl) hK (hD.sub [0, 1, 2, 3, 4, 5] (by decide) rfl) hS d_X_pushIn_115
    · have c81 := nI_nle0M c81 (by omega)
      refine lv_lload hx hb d_X_pushIn_84 (lv_at hl 0 rfl) ?_
      refine lv_aload_n hx hb d_X_pushIn_86 rfl (lv_at hl 2 rfl) ?_
      refine va_get (D := D) (ci := 5) (v := .ref yq) (C := "OscillatorRowModel") (T := T_X) (N := 22) hx hb hT i_X hown hK hP 0 rfl rfl 3 (by decide) (hT _ k_340) (fun _ h9 => h9) rfl d_X_pushIn_87 ?_
      refine lv_iload_n hx hb d_X_pushIn_90 rfl (lv_at hl 4 rfl) ?_
      refine lv_iconst (v := 1) hx hb d_X_pushIn_91 (by decide) ?_
      refine lv_isub hx hb d_X_pushIn_92 ?_
      refine top_i (y := (nI (j - 1))) (nI_p c81) ?_
      refine ra_lald (j := (j - 1)) hx hb hK hP 3 1 rfl rfl (by omega) (by omega) d_X_pushIn_93 ?_
      refine lv_lload hx hb d_X_pushIn_94 (lv_at hl 1 rfl) ?_
      refine lv_aload_n hx hb d_X_pushIn_96 rfl (lv_at hl 2 rfl) ?_
      refine va_get (D := D) (ci := 5) (v := .ref yp) (C := "OscillatorRowModel") (T := T_X) (N := 22) hx hb hT i_X hown hK hP 0 rfl rfl 5 (by decide) (hT _ k_342) (fun _ h9 => h9) rfl d_X_pushIn_97 ?_
      refine lv_iload_n hx hb d_X_pushIn_100 rfl (lv_at hl 3 rfl) ?_
      refine lv_iconst (v := nI 4) hx hb d_X_pushIn_101 (by decide) ?_
      refine lv_imul hx hb d_X_pushIn_102 ?_
      refine top_i (y := (nI (rw * 4))) (pk_mul rw 4) ?_
      refine lv_iload_n hx hb d_X_pushIn_103 rfl (lv_at hl 4 rfl) ?_
      refine lv_iadd hx hb d_X_pushIn_104 ?_
      refine top_i (y := (nI (rw * 4 + j))) (nI_add (rw * 4) j) ?_
      refine lv_iconst (v := 1) hx hb d_X_pushIn_105 (by decide) ?_
      refine lv_isub hx hb d_X_pushIn_106 ?_
      refine top_i (y := (nI (rw * 4 + (j - 1)))) ((nI_p (by omega)).trans (by congr 1; omega)) ?_
      refine ra_lald (j := (rw * 4 + (j - 1))) hx hb hK hP 5 1 rfl rfl (by omega) (by omega) d_X_pushIn_107 ?_
      refine top_l (y := (px (j - 1))) (hp (j - 1) (by omega)) ?_
      refine lv_lsub hx hb d_X_pushIn_108 ?_
      refine lv_lmul hx hb d_X_pushIn_109 ?_
      refine lv_lsub hx hb d_X_pushIn_110 ?_
      refine lv_lstore (lv' := [(7, .long (((((zf j).toInt64 <<< ((4 : Int32).toInt64 &&& 63)) - (((zk j).toInt64) * (px j))) - (((zc j).toInt64) * vm)) - (((zq (j - 1)).toInt64) * ((px j) - (px (j - 1)))))), (5, .long (px j)), (0, .ref xo), (1, .int (nI rw)), (2, .int (nI j)), (3, .long vm)]) hx hb d_X_pushIn_111 hl (by decide) rfl (fun ls hl => ?_)
      refine lv_lload hx hb d_X_pushIn_113 (lv_at hl 0 rfl) ?_
      exact re_l (v := ((((zf j).toInt64 <<< ((4 : Int32).toInt64 &&& 63)) - (((zk j).toInt64) * (px j))) - (((zc j).toInt64) * vm)) - (((zq (j - 1)).toInt64) * ((px j) - (px (j - 1))))) () hx hb hr hlocks (by rw [zPush, if_neg (Nat.not_le.mpr c81), zP1, if_pos (show n ≤ j + 1 by omega)]; rfl) (hP.sub [0, 1, 2, 3, 4, 5] rfl) hK (hD.sub [0, 1, 2, 3, 4, 5] (by decide) rfl) hS d_X_pushIn_115
  · have c50 := nI_nleM c50 (by omega) (by omega)
    refine lv_lload hx hb d_X_pushIn_53 (lv_at hl 0 rfl) ?_
    refine lv_aload_n hx hb d_X_pushIn_55 rfl (lv_at hl 2 rfl) ?_
    refine va_get (D := D) (ci := 5) (v := .ref yq) (C := "OscillatorRowModel") (T := T_X) (N := 22) hx hb hT i_X hown hK hP 0 rfl rfl 3 (by decide) (hT _ k_340) (fun _ h9 => h9) rfl d_X_pushIn_56 ?_
    refine lv_iload_n hx hb d_X_pushIn_59 rfl (lv_at hl 4 rfl) ?_
    refine ra_lald (j := j) hx hb hK hP 3 1 rfl rfl (by omega) (by omega) d_X_pushIn_60 ?_
    refine lv_aload_n hx hb d_X_pushIn_61 rfl (lv_at hl 2 rfl) ?_
    refine va_get (D := D) (ci := 5) (v := .ref yp) (C := "OscillatorRowModel") (T := T_X) (N := 22) hx hb hT i_X hown hK hP 0 rfl rfl 5 (by decide) (hT _ k_342) (fun _ h9 => h9) rfl d_X_pushIn_62 ?_
    refine lv_iload_n hx hb d_X_pushIn_65 rfl (lv_at hl 3 rfl) ?_
    refine lv_iconst (v := nI 4) hx hb d_X_pushIn_66 (by decide) ?_
    refine lv_imul hx hb d_X_pushIn_67 ?_
    refine top_i (y := (nI (rw * 4))) (pk_mul rw 4) ?_
    refine lv_iload_n hx hb d_X_pushIn_68 rfl (lv_at hl 4 rfl) ?_
    refine lv_iadd hx hb d_X_pushIn_69 ?_
    refine top_i (y := (nI (rw * 4 + j))) (nI_add (rw * 4) j) ?_
    refine lv_iconst (v := 1) hx hb d_X_pushIn_70 (by decide) ?_
    refine lv_iadd hx hb d_X_pushIn_71 ?_
    refine top_i (y := (nI (rw * 4 + (j + 1)))) (nI_1 (rw * 4 + j)) ?_
    refine ra_lald (j := (rw * 4 + (j + 1))) hx hb hK hP 5 1 rfl rfl (by omega) (by omega) d_X_pushIn_72 ?_
    refine top_l (y := (px (j + 1))) (hp (j + 1) (by omega)) ?_
    refine lv_lload hx hb d_X_pushIn_73 (lv_at hl 1 rfl) ?_
    refine lv_lsub hx hb d_X_pushIn_75 ?_
    refine lv_lmul hx hb d_X_pushIn_76 ?_
    refine lv_ladd hx hb d_X_pushIn_77 ?_
    refine lv_lstore (lv' := [(7, .long (((((zf j).toInt64 <<< ((4 : Int32).toInt64 &&& 63)) - (((zk j).toInt64) * (px j))) - (((zc j).toInt64) * vm)) + (((zq j).toInt64) * ((px (j + 1)) - (px j))))), (5, .long (px j)), (0, .ref xo), (1, .int (nI rw)), (2, .int (nI j)), (3, .long vm)]) hx hb d_X_pushIn_78 hl (by decide) rfl (fun ls hl => ?_)
    refine lv_iload_n hx hb d_X_pushIn_80 rfl (lv_at hl 4 rfl) ?_
    refine lv_if_le (tgt := 113) hx hb d_X_pushIn_81 (by decide) (fun c81 => ?_) (fun c81 => ?_)
    · have c81 := nI_le0M c81 (by omega)
      refine lv_lload hx hb d_X_pushIn_113 (lv_at hl 0 rfl) ?_
      exact re_l (v := ((((zf j).toInt64 <<< ((4 : Int32).toInt64 &&& 63)) - (((zk j).toInt64) * (px j))) - (((zc j).toInt64) * vm)) + (((zq j).toInt64) * ((px (j + 1)) - (px j)))) () hx hb hr hlocks (by rw [zPush, if_pos c81, zP1, if_neg (show ¬ n ≤ j + 1 by omega)]; rfl) (hP.sub [0, 1, 2, 3, 4, 5] rfl) hK (hD.sub [0, 1, 2, 3, 4, 5] (by decide) rfl) hS d_X_pushIn_115
    · have c81 := nI_nle0M c81 (by omega)
      refine lv_lload hx hb d_X_pushIn_84 (lv_at hl 0 rfl) ?_
      refine lv_aload_n hx hb d_X_pushIn_86 rfl (lv_at hl 2 rfl) ?_
      refine va_get (D := D) (ci := 5) (v := .ref yq) (C := "OscillatorRowModel") (T := T_X) (N := 22) hx hb hT i_X hown hK hP 0 rfl rfl 3 (by decide) (hT _ k_340) (fun _ h9 => h9) rfl d_X_pushIn_87 ?_
      refine lv_iload_n hx hb d_X_pushIn_90 rfl (lv_at hl 4 rfl) ?_
      refine lv_iconst (v := 1) hx hb d_X_pushIn_91 (by decide) ?_
      refine lv_isub hx hb d_X_pushIn_92 ?_
      refine top_i (y := (nI (j - 1))) (nI_p c81) ?_
      refine ra_lald (j := (j - 1)) hx hb hK hP 3 1 rfl rfl (by omega) (by omega) d_X_pushIn_93 ?_
      refine lv_lload hx hb d_X_pushIn_94 (lv_at hl 1 rfl) ?_
      refine lv_aload_n hx hb d_X_pushIn_96 rfl (lv_at hl 2 rfl) ?_
      refine va_get (D := D) (ci := 5) (v := .ref yp) (C := "OscillatorRowModel") (T := T_X) (N := 22) hx hb hT i_X hown hK hP 0 rfl rfl 5 (by decide) (hT _ k_342) (fun _ h9 => h9) rfl d_X_pushIn_97 ?_
      refine lv_iload_n hx hb d_X_pushIn_100 rfl (lv_at hl 3 rfl) ?_
      refine lv_iconst (v := nI 4) hx hb d_X_pushIn_101 (by decide) ?_
      refine lv_imul hx hb d_X_pushIn_102 ?_
      refine top_i (y := (nI (rw * 4))) (pk_mul rw 4) ?_
      refine lv_iload_n hx hb d_X_pushIn_103 rfl (lv_at hl 4 rfl) ?_
      refine lv_iadd hx hb d_X_pushIn_104 ?_
      refine top_i (y := (nI (rw * 4 + j))) (nI_add (rw * 4) j) ?_
      refine lv_iconst (v := 1) hx hb d_X_pushIn_105 (by decide) ?_
      refine lv_isub hx hb d_X_pushIn_106 ?_
      refine top_i (y := (nI (rw * 4 + (j - 1)))) ((nI_p (by omega)).trans (by congr 1; omega)) ?_
      refine ra_lald (j := (rw * 4 + (j - 1))) hx hb hK hP 5 1 rfl rfl (by omega) (by omega) d_X_pushIn_107 ?_
      refine top_l (y := (px (j - 1))) (hp (j - 1) (by omega)) ?_
      refine lv_lsub hx hb d_X_pushIn_108 ?_
      refine lv_lmul hx hb d_X_pushIn_109 ?_
      refine lv_lsub hx hb d_X_pushIn_110 ?_
      refine lv_lstore (lv' := [(7, .long ((((((zf j).toInt64 <<< ((4 : Int32).toInt64 &&& 63)) - (((zk j).toInt64) * (px j))) - (((zc j).toInt64) * vm)) + (((zq j).toInt64) * ((px (j + 1)) - (px j)))) - (((zq (j - 1)).toInt64) * ((px j) - (px (j - 1)))))), (5, .long (px j)), (0, .ref xo), (1, .int (nI rw)), (2, .int (nI j)), (3, .long vm)]) hx hb d_X_pushIn_111 hl (by decide) rfl (fun ls hl => ?_)
      refine lv_lload hx hb d_X_pushIn_113 (lv_at hl 0 rfl) ?_
      exact re_l (v := (((((zf j).toInt64 <<< ((4 : Int32).toInt64 &&& 63)) - (((zk j).toInt64) * (px j))) - (((zc j).toInt64) * vm)) + (((zq j).toInt64) * ((px (j + 1)) - (px j)))) - (((zq (j - 1)).toInt64) * ((px j) - (px (j - 1))))) () hx hb hr hlocks (by rw [zPush, if_neg (Nat.not_le.mpr c81), zP1, if_neg (show ¬ n ≤ j + 1 by omega)]; rfl) (hP.sub [0, 1, 2, 3, 4, 5] rfl) hK (hD.sub [0, 1, 2, 3, 4, 5] (by decide) rfl) hS d_X_pushIn_115
set_option maxHeartbeats 4000000 in
set_option maxRecDepth 100000 in
theorem c_X_copy (l : Launch) (D : va_G) (cI cL cW cZ : ClassId) (xo : Nat) (n : Nat) (yk : Nat) (yc : Nat) (yq : Nat) (yf : Nat) (yp : Nat) (ys : Nat) (ym : Nat) (yb : Nat) (yl : Nat) (yu : Nat) (ya : Nat) (yt : Nat) (yh : Nat) (ye : Nat) (ct : Nat) (tm : Nat) (fs : Nat) (sd : Nat) (rj : Nat) (tol : Nat) (le : Int32) (pp : Nat → Int64) (vv : Nat → Int64) (ro : Nat) (to : Nat) (sz : Nat) (h1 : ro ≤ 2) (h2 : to ≤ 2) (h3 : ro ≠ to) : Met l y_X_copy w_X_copy ({ frames := 0, cells := 0, slots := 0, locals := 0 }) (va_Pc [.ref xo, .int (nI ro), .int (nI to)] (gP D vwCl (tyv cI cL cW cZ) [(xo, .inr (5, [.int (nI n), .ref yk, .ref yc, .ref yq, .ref yf, .ref yp, .ref ys, .ref ym, .ref yb, .ref yl, .ref yu, .ref ya, .ref yt, .ref yh, .ref ye, .int (nI ct), .int (nI tm), .int (nI fs), .int (nI sd), .int (nI rj), .int le, .int (nI tol)])), (yp, .inl (cL, 12, .inr (.inl pp))), (ys, .inl (cL, 12, .inr (.inl vv)))] sz)) (va_Qv (fun (u : Unit) => True) (fun u t => gB D vwCl (tyv cI cL cW cZ) (va_A [(xo, .inr (5, [.int (nI n), .ref yk, .ref yc, .ref yq, .ref yf, .ref yp, .ref ys, .ref ym, .ref yb, .ref yl, .ref yu, .ref ya, .ref yt, .ref yh, .ref ye, .int (nI ct), .int (nI tm), .int (nI fs), .int (nI sd), .int (nI rj), .int le, .int (nI tol)])), (yp, .inl (cL, 12, .inr (.inl pp))), (ys, .inl (cL, 12, .inr (.inl vv)))] sz) [(xo, .inr (5, [.int (nI n), .ref yk, .ref yc, .ref yq, .ref yf, .ref yp, .ref ys, .ref ym, .ref yb, .ref yl, .ref yu, .ref ya, .ref yt, .ref yh, .ref ye, .int (nI ct), .int (nI tm), .int (nI fs), .int (nI sd), .int (nI rj), .int le, .int (nI tol)])), (yp, .inl (cL, 12, .inr (.inl (zRM to 4 (fun q => pp (ro * 4 + q)) pp)))), (ys, .inl (cL, 12, .inr (.inl (zRM to 4 (fun q => vv (ro * 4 + q)) vv))))] t) (va_A [(xo, .inr (5, [.int (nI n), .ref yk, .ref yc, .ref yq, .ref yf, .ref yp, .ref ys, .ref ym, .ref yb, .ref yl, .ref yu, .ref ya, .ref yt, .ref yh, .ref ye, .int (nI ct), .int (nI tm), .int (nI fs), .int (nI sd), .int (nI rj), .int le, .int (nI tol)])), (yp, .inl (cL, 12, .inr (.inl pp))), (ys, .inl (cL, 12, .inr (.inl vv)))] sz)) 0 0 (va_A [(xo, .inr (5, [.int (nI n), .ref yk, .ref yc, .ref yq, .ref yf, .ref yp, .ref ys, .ref ym, .ref yb, .ref yl, .ref yu, .ref ya, .ref yt, .ref yh, .ref ye, .int (nI ct), .int (nI tm), .int (nI fs), .int (nI sd), .int (nI rj), .int le, .int (nI tol)])), (yp, .inl (cL, 12, .inr (.inl pp))), (ys, .inl (cL, 12, .inr (.inl vv)))] sz) := by
  refine met_go (cc := prog_7_method_14_code) (maxL := 4) (ret := none) (QA := fun A => va_Qv (fun (u : Unit) => True) (fun u t => gB D vwCl (tyv cI cL cW cZ) A [(xo, .inr (5, [.int (nI n), .ref yk, .ref yc, .ref yq, .ref yf, .ref yp, .ref ys, .ref ym, .ref yb, .ref yl, .ref yu, .ref ya, .ref yt, .ref yh, .ref ye, .int (nI ct), .int (nI tm), .int (nI fs), .int (nI sd), .int (nI rj), .int le, .int (nI tol)])), (yp, .inl (cL, 12, .inr (.inl (zRM to 4 (fun q => pp (ro * 4 + q)) pp)))), (ys, .inl (cL, 12, .inr (.inl (zRM to 4 (fun q => vv (ro * 4 + q)) vv))))] t) A) (by decide) (Nat.le_of_ble_eq_true rfl) ?_
  intro p e s m below meth c A ls hx hb hr hml hT hN hown hlocks hin hl hP hK hD hA hS
  have hl : lv_has ls 4 [(0, .ref xo), (1, .int (nI ro)), (2, .int (nI to))] := hl
  refine lv_iconst (v := nI 0) hx hb d_X_copy_0 (by decide) ?_
  refine lv_istore_n (lv' := [(3, .int (nI 0)), (0, .ref xo), (1, .int (nI ro)), (2, .int (nI to))]) hx hb d_X_copy_1 rfl hl (by decide) rfl (fun ls hl => ?_)
  have hP : va_P D vwCl [(xo, .inr (5, [.int (nI n), .ref yk, .ref yc, .ref yq, .ref yf, .ref yp, .ref ys, .ref ym, .ref yb, .ref yl, .ref yu, .ref ya, .ref yt, .ref yh, .ref ye, .int (nI ct), .int (nI tm), .int (nI fs), .int (nI sd), .int (nI rj), .int le, .int (nI tol)])), (yp, .inl (cL, 12, .inr (.inl (zRM to 0 (fun q => pp (ro * 4 + q)) pp)))), (ys, .inl (cL, 12, .inr (.inl vv)))] s.heap := by rw [zRM_0 to (fun q => pp (ro * 4 + q)) pp]; exact hP
  have hD : va_D A [(xo, .inr (5, [.int (nI n), .ref yk, .ref yc, .ref yq, .ref yf, .ref yp, .ref ys, .ref ym, .ref yb, .ref yl, .ref yu, .ref ya, .ref yt, .ref yh, .ref ye, .int (nI ct), .int (nI tm), .int (nI fs), .int (nI sd), .int (nI rj), .int le, .int (nI tol)])), (yp, .inl (cL, 12, .inr (.inl (zRM to 0 (fun q => pp (ro * 4 + q)) pp)))), (ys, .inl (cL, 12, .inr (.inl vv)))] := by rw [zRM_0 to (fun q => pp (ro * 4 + q)) pp]; exact hD
  have hP : va_P D vwCl [(xo, .inr (5, [.int (nI n), .ref yk, .ref yc, .ref yq, .ref yf, .ref yp, .ref ys, .ref ym, .ref yb, .ref yl, .ref yu, .ref ya, .ref yt, .ref yh, .ref ye, .int (nI ct), .int (nI tm), .int (nI fs), .int (nI sd), .int (nI rj), .int le, .int (nI tol)])), (yp, .inl (cL, 12, .inr (.inl (zRM to 0 (fun q => pp (ro * 4 + q)) pp)))), (ys, .inl (cL, 12, .inr (.inl (zRM to 0 (fun q => vv (ro * 4 + q)) vv))))] s.heap := by rw [zRM_0 to (fun q => vv (ro * 4 + q)) vv]; exact hP
  have hD : va_D A [(xo, .inr (5, [.int (nI n), .ref yk, .ref yc, .ref yq, .ref yf, .ref yp, .ref ys, .ref ym, .ref yb, .ref yl, .ref yu, .ref ya, .ref yt, .ref yh, .ref ye, .int (nI ct), .int (nI tm), .int (nI fs), .int (nI sd), .int (nI rj), .int le, .int (nI tol)])), (yp, .inl (cL, 12, .inr (.inl (zRM to 0 (fun q => pp (ro * 4 + q)) pp)))), (ys, .inl (cL, 12, .inr (.inl (zRM to 0 (fun q => vv (ro * 4 + q)) vv))))] := by rw [zRM_0 to (fun q => vv (ro * 4 + q)) vv]; exact hD
  refine wp_loop (α := Nat) (I := fun k x H locs ls => (x ≤ 4 ∧ 4 < x + k) ∧ va_P D vwCl [(xo, .inr (5, [.int (nI n), .ref yk, .ref yc, .ref yq, .ref yf, .ref yp, .ref ys, .ref ym, .ref yb, .ref yl, .ref yu, .ref ya, .ref yt, .ref yh, .ref ye, .int (nI ct), .int (nI tm), .int (nI fs), .int (nI sd), .int (nI rj), .int le, .int (nI tol)])), (yp, .inl (cL, 12, .inr (.inl (zRM to x (fun q => pp (ro * 4 + q)) pp)))), (ys, .inl (cL, 12, .inr (.inl (zRM to x (fun q => vv (ro * 4 + q)) vv))))] H ∧ va_D A [(xo, .inr (5, [.int (nI n), .ref yk, .ref yc, .ref yq, .ref yf, .ref yp, .ref ys, .ref ym, .ref yb, .ref yl, .ref yu, .ref ya, .ref yt, .ref yh, .ref ye, .int (nI ct), .int (nI tm), .int (nI fs), .int (nI sd), .int (nI rj), .int le, .int (nI tol)])), (yp, .inl (cL, 12, .inr (.inl (zRM to x (fun q => pp (ro * 4 + q)) pp)))), (ys, .inl (cL, 12, .inr (.inl (zRM to x (fun q => vv (ro * 4 + q)) vv))))] ∧ va_S A s.heap H locs ∧ lv_has ls 4 [(0, .ref xo), (1, .int (nI ro)), (2, .int (nI to)), (3, .int (nI x))]) ?_ ?_ 5 0 ⟨(by (try dsimp only); omega), hP.sub [0, 1, 2] rfl, hD.sub [0, 1, 2] (by decide) rfl, hS, lv_sub hl [1, 2, 3, 0] rfl⟩
  · intro x H locs ls h; have h9 := h.1; (try dsimp only at h9); omega
  · intro k x H locs ls h ih
    obtain ⟨i, rfl⟩ : ∃ z, z = x := ⟨_, rfl⟩
    obtain ⟨hk, hP, hD, hS, hl⟩ := h
    have hk : i ≤ 4 ∧ 4 < i + (k + 1) := hk
    have hP : va_P D vwCl [(xo, .inr (5, [.int (nI n), .ref yk, .ref yc, .ref yq, .ref yf, .ref yp, .ref ys, .ref ym, .ref yb, .ref yl, .ref yu, .ref ya, .ref yt, .ref yh, .ref ye, .int (nI ct), .int (nI tm), .int (nI fs), .int (nI sd), .int (nI rj), .int le, .int (nI tol)])), (yp, .inl (cL, 12, .inr (.inl (zRM to i (fun q => pp (ro * 4 + q)) pp)))), (ys, .inl (cL, 12, .inr (.inl (zRM to i (fun q => vv (ro * 4 + q)) vv))))] H := hP
    have hD : va_D A [(xo, .inr (5, [.int (nI n), .ref yk, .ref yc, .ref yq, .ref yf, .ref yp, .ref ys, .ref ym, .ref yb, .ref yl, .ref yu, .ref ya, .ref yt, .ref yh, .ref ye, .int (nI ct), .int (nI tm), .int (nI fs), .int (nI sd), .int (nI rj), .int le, .int (nI tol)])), (yp, .inl (cL, 12, .inr (.inl (zRM to i (fun q => pp (ro * 4 + q)) pp)))), (ys, .inl (cL, 12, .inr (.inl (zRM to i (fun q => vv (ro * 4 + q)) vv))))] := hD
    have hl : lv_has ls 4 [(0, .ref xo), (1, .int (nI ro)), (2, .int (nI to)), (3, .int (nI i))] := hl
    refine lv_iload_n hx hb d_X_copy_2 rfl (lv_at hl 3 rfl) ?_
    refine lv_iconst (v := 4) hx hb d_X_copy_3 (by decide) ?_
    refine lv_icmp_ge (tgt := 53) hx hb d_X_copy_4 (by decide) (fun c4 => ?_) (fun c4 => ?_)
    · have c4 := nI_leM (a := 4) c4 (by omega) (by omega)
      have ein : i = 4 := by omega
      subst ein
      exact re_v () hx hb hr hlocks trivial (hP.sub [0, 1, 2] rfl) hK (hD.sub [0, 1, 2] (by decide) rfl) hS d_X_copy_53
    · have c4 := nI_nleM (a := 4) c4 (by omega) (by omega)
      refine lv_aload_n hx hb d_X_copy_7 rfl (lv_at hl 0 rfl) ?_
      refine va_get (D := D) (ci := 5) (v := .ref yp) (C := "OscillatorRowModel") (T := T_X) (N := 22) hx hb hT i_X hown hK hP 0 rfl rfl 5 (by decide) (hT _ k_342) (fun _ h9 => h9) rfl d_X_copy_8 ?_
      refine lv_iload_n hx hb d_X_copy_11 rfl (lv_at hl 2 rfl) ?_
      refine lv_iconst (v := nI 4) hx hb d_X_copy_12 (by decide) ?_
      refine lv_imul hx hb d_X_copy_13 ?_
      refine top_i (y := (nI (to * 4))) (pk_mul to 4) ?_
      refine lv_iload_n hx hb d_X_copy_14 rfl (lv_at hl 3 rfl) ?_
      refine lv_iadd hx hb d_X_copy_15 ?_
      refine top_i (y := (nI (to * 4 + i))) (nI_add (to * 4) i) ?_
      refine lv_aload_n hx hb d_X_copy_16 rfl (lv_at hl 0 rfl) ?_
      refine va_get (D := D) (ci := 5) (v := .ref yp) (C := "OscillatorRowModel") (T := T_X) (N := 22) hx hb hT i_X hown hK hP 0 rfl rfl 5 (by decide) (hT _ k_342) (fun _ h9 => h9) rfl d_X_copy_17 ?_
      refine lv_iload_n hx hb d_X_copy_20 rfl (lv_at hl 1 rfl) ?_
      refine lv_iconst (v := nI 4) hx hb d_X_copy_21 (by decide) ?_
      refine lv_imul hx hb d_X_copy_22 ?_
      refine top_i (y := (nI (ro * 4))) (pk_mul ro 4) ?_
      refine lv_iload_n hx hb d_X_copy_23 rfl (lv_at hl 3 rfl) ?_
      refine lv_iadd hx hb d_X_copy_24 ?_
      refine top_i (y := (nI (ro * 4 + i))) (nI_add (ro * 4) i) ?_
      refine ra_lald (j := (ro * 4 + i)) hx hb hK hP 1 1 rfl rfl (by omega) (by omega) d_X_copy_25 ?_
      refine top_l (y := (pp (ro * 4 + i))) (zRM_out (by omega)) ?_
      refine ra_last (j := (to * 4 + i)) hx hb hK hP hD hS 1 1 rfl rfl (by omega) (by omega) d_X_copy_26 (fun H locs hP hD hS => ?_)
      have hP : va_P D vwCl [(xo, .inr (5, [.int (nI n), .ref yk, .ref yc, .ref yq, .ref yf, .ref yp, .ref ys, .ref ym, .ref yb, .ref yl, .ref yu, .ref ya, .ref yt, .ref yh, .ref ye, .int (nI ct), .int (nI tm), .int (nI fs), .int (nI sd), .int (nI rj), .int le, .int (nI tol)])), (yp, .inl (cL, 12, .inr (.inl (vp_updL (zRM to i (fun q => pp (ro * 4 + q)) pp) (to * 4 + i) (pp (ro * 4 + i)))))), (ys, .inl (cL, 12, .inr (.inl (zRM to i (fun q => vv (ro * 4 + q)) vv))))] H := hP
      have hD : va_D A [(xo, .inr (5, [.int (nI n), .ref yk, .ref yc, .ref yq, .ref yf, .ref yp, .ref ys, .ref ym, .ref yb, .ref yl, .ref yu, .ref ya, .ref yt, .ref yh, .ref ye, .int (nI ct), .int (nI tm), .int (nI fs), .int (nI sd), .int (nI rj), .int le, .int (nI tol)])), (yp, .inl (cL, 12, .inr (.inl (vp_updL (zRM to i (fun q => pp (ro * 4 + q)) pp) (to * 4 + i) (pp (ro * 4 + i)))))), (ys, .inl (cL, 12, .inr (.inl (zRM to i (fun q => vv (ro * 4 + q)) vv))))] := hD
      have hP : va_P D vwCl [(xo, .inr (5, [.int (nI n), .ref yk, .ref yc, .ref yq, .ref yf, .ref yp, .ref ys, .ref ym, .ref yb, .ref yl, .ref yu, .ref ya, .ref yt, .ref yh, .ref ye, .int (nI ct), .int (nI tm), .int (nI fs), .int (nI sd), .int (nI rj), .int le, .int (nI tol)])), (yp, .inl (cL, 12, .inr (.inl (zRM to (i + 1) (fun q => pp (ro * 4 + q)) pp)))), (ys, .inl (cL, 12, .inr (.inl (zRM to i (fun q => vv (ro * 4 + q)) vv))))] H := by rw [zRM_put to i (fun q => pp (ro * 4 + q)) pp]; exact hP
      have hD : va_D A [(xo, .inr (5, [.int (nI n), .ref yk, .ref yc, .ref yq, .ref yf, .ref yp, .ref ys, .ref ym, .ref yb, .ref yl, .ref yu, .ref ya, .ref yt, .ref yh, .ref ye, .int (nI ct), .int (nI tm), .int (nI fs), .int (nI sd), .int (nI rj), .int le, .int (nI tol)])), (yp, .inl (cL, 12, .inr (.inl (zRM to (i + 1) (fun q => pp (ro * 4 + q)) pp)))), (ys, .inl (cL, 12, .inr (.inl (zRM to i (fun q => vv (ro * 4 + q)) vv))))] := by rw [zRM_put to i (fun q => pp (ro * 4 + q)) pp]; exact hD
      refine lv_aload_n hx hb d_X_copy_27 rfl (lv_at hl 0 rfl) ?_
      refine va_get (D := D) (ci := 5) (v := .ref ys) (C := "OscillatorRowModel") (T := T_X) (N := 22) hx hb hT i_X hown hK hP 0 rfl rfl 6 (by decide) (hT _ k_343) (fun _ h9 => h9) rfl d_X_copy_28 ?_
      refine lv_iload_n hx hb d_X_copy_31 rfl (lv_at hl 2 rfl) ?_
      refine lv_iconst (v := nI 4) hx hb d_X_copy_32 (by decide) ?_
      refine lv_imul hx hb d_X_copy_33 ?_
      refine top_i (y := (nI (to * 4))) (pk_mul to 4) ?_
      refine lv_iload_n hx hb d_X_copy_34 rfl (lv_at hl 3 rfl) ?_
      refine lv_iadd hx hb d_X_copy_35 ?_
      refine top_i (y := (nI (to * 4 + i))) (nI_add (to * 4) i) ?_
      refine lv_aload_n hx hb d_X_copy_36 rfl (lv_at hl 0 rfl) ?_
      refine va_get (D := D) (ci := 5) (v := .ref ys) (C := "OscillatorRowModel") (T := T_X) (N := 22) hx hb hT i_X hown hK hP 0 rfl rfl 6 (by decide) (hT _ k_343) (fun _ h9 => h9) rfl d_X_copy_37 ?_
      refine lv_iload_n hx hb d_X_copy_40 rfl (lv_at hl 1 rfl) ?_
      refine lv_iconst (v := nI 4) hx hb d_X_copy_41 (by decide) ?_
      refine lv_imul hx hb d_X_copy_42 ?_
      refine top_i (y := (nI (ro * 4))) (pk_mul ro 4) ?_
      refine lv_iload_n hx hb d_X_copy_43 rfl (lv_at hl 3 rfl) ?_
      refine lv_iadd hx hb d_X_copy_44 ?_
      refine top_i (y := (nI (ro * 4 + i))) (nI_add (ro * 4) i) ?_
      refine ra_lald (j := (ro * 4 + i)) hx hb hK hP 2 1 rfl rfl (by omega) (by omega) d_X_copy_45 ?_
      refine top_l (y := (vv (ro * 4 + i))) (zRM_out (by omega)) ?_
      refine ra_last (j := (to * 4 + i)) hx hb hK hP hD hS 2 1 rfl rfl (by omega) (by omega) d_X_copy_46 (fun H locs hP hD hS => ?_)
      have hP : va_P D vwCl [(xo, .inr (5, [.int (nI n), .ref yk, .ref yc, .ref yq, .ref yf, .ref yp, .ref ys, .ref ym, .ref yb, .ref yl, .ref yu, .ref ya, .ref yt, .ref yh, .ref ye, .int (nI ct), .int (nI tm), .int (nI fs), .int (nI sd), .int (nI rj), .int le, .int (nI tol)])), (yp, .inl (cL, 12, .inr (.inl (zRM to (i + 1) (fun q => pp (ro * 4 + q)) pp)))), (ys, .inl (cL, 12, .inr (.inl (vp_updL (zRM to i (fun q => vv (ro * 4 + q)) vv) (to * 4 + i) (vv (ro * 4 + i))))))] H := hP
      have hD : va_D A [(xo, .inr (5, [.int (nI n), .ref yk, .ref yc, .ref yq, .ref yf, .ref yp, .ref ys, .ref ym, .ref yb, .ref yl, .ref yu, .ref ya, .ref yt, .ref yh, .ref ye, .int (nI ct), .int (nI tm), .int (nI fs), .int (nI sd), .int (nI rj), .int le, .int (nI tol)])), (yp, .inl (cL, 12, .inr (.inl (zRM to (i + 1) (fun q => pp (ro * 4 + q)) pp)))), (ys, .inl (cL, 12, .inr (.inl (vp_updL (zRM to i (fun q => vv (ro * 4 + q)) vv) (to * 4 + i) (vv (ro * 4 + i))))))] := hD
      have hP : va_P D vwCl [(xo, .inr (5, [.int (nI n), .ref yk, .ref yc, .ref yq, .ref yf, .ref yp, .ref ys, .ref ym, .ref yb, .ref yl, .ref yu, .ref ya, .ref yt, .ref yh, .ref ye, .int (nI ct), .int (nI tm), .int (nI fs), .int (nI sd), .int (nI rj), .int le, .int (nI tol)])), (yp, .inl (cL, 12, .inr (.inl (zRM to (i + 1) (fun q => pp (ro * 4 + q)) pp)))), (ys, .inl (cL, 12, .inr (.inl (zRM to (i + 1) (fun q => vv (ro * 4 + q)) vv))))] H := by rw [zRM_put to i (fun q => vv (ro * 4 + q)) vv]; exact hP
      have hD : va_D A [(xo, .inr (5, [.int (nI n), .ref yk, .ref yc, .ref yq, .ref yf, .ref yp, .ref ys, .ref ym, .ref yb, .ref yl, .ref yu, .ref ya, .ref yt, .ref yh, .ref ye, .int (nI ct), .int (nI tm), .int (nI fs), .int (nI sd), .int (nI rj), .int le, .int (nI tol)])), (yp, .inl (cL, 12, .inr (.inl (zRM to (i + 1) (fun q => pp (ro * 4 + q)) pp)))), (ys, .inl (cL, 12, .inr (.inl (zRM to (i + 1) (fun q => vv (ro * 4 + q)) vv))))] := by rw [zRM_put to i (fun q => vv (ro * 4 + q)) vv]; exact hD
      refine lv_iinc (v := (nI (i + 1))) (lv' := [(3, .int (nI (i + 1))), (0, .ref xo), (1, .int (nI ro)), (2, .int (nI to))]) hx hb d_X_copy_47 hl (k := 3) rfl (nI_1 i) (by decide) rfl (fun ls hl => ?_)
      refine lv_goto (tgt := 2) hx hb d_X_copy_50 (by decide) ?_
      exact ih (i + 1) _ _ _ ⟨(by (try dsimp only); omega), hP.sub [0, 1, 2] rfl, hD.sub [0, 1, 2] (by decide) rfl, hS, lv_sub hl [1, 2, 3, 0] rfl⟩
set_option maxHeartbeats 4000000 in
set_option maxRecDepth 100000 in
theorem c_X_err (l : Launch) (D : va_G) (cI cL cW cZ : ClassId) (xo : Nat) (n : Nat) (yk : Nat) (yc : Nat) (yq : Nat) (yf : Nat) (yp : Nat) (ys : Nat) (ym : Nat) (yb : Nat) (yl : Nat) (yu : Nat) (ya : Nat) (yt : Nat) (yh : Nat) (ye : Nat) (ct : Nat) (tm : Nat) (fs : Nat) (sd : Nat) (rj : Nat) (tol : Nat) (le : Int32) (pp : Nat → Int64) (vv : Nat → Int64) (sz : Nat) (hn : n ≤ 4) : Met l y_X_error w_X_error ({ frames := 0, cells := 0, slots := 0, locals := 0 }) (va_Pc [.ref xo] (gP D vwCl (tyv cI cL cW cZ) [(xo, .inr (5, [.int (nI n), .ref yk, .ref yc, .ref yq, .ref yf, .ref yp, .ref ys, .ref ym, .ref yb, .ref yl, .ref yu, .ref ya, .ref yt, .ref yh, .ref ye, .int (nI ct), .int (nI tm), .int (nI fs), .int (nI sd), .int (nI rj), .int le, .int (nI tol)])), (yp, .inl (cL, 12, .inr (.inl pp))), (ys, .inl (cL, 12, .inr (.inl vv)))] sz)) (va_Ql (fun (r : Int64) (u : Unit) => r = zGd (fun q => pp (4 + q)) (fun q => vv (4 + q)) (fun q => pp (8 + q)) (fun q => vv (8 + q)) n) (fun u t => gB D vwCl (tyv cI cL cW cZ) (va_A [(xo, .inr (5, [.int (nI n), .ref yk, .ref yc, .ref yq, .ref yf, .ref yp, .ref ys, .ref ym, .ref yb, .ref yl, .ref yu, .ref ya, .ref yt, .ref yh, .ref ye, .int (nI ct), .int (nI tm), .int (nI fs), .int (nI sd), .int (nI rj), .int le, .int (nI tol)])), (yp, .inl (cL, 12, .inr (.inl pp))), (ys, .inl (cL, 12, .inr (.inl vv)))] sz) [(xo, .inr (5, [.int (nI n), .ref yk, .ref yc, .ref yq, .ref yf, .ref yp, .ref ys, .ref ym, .ref yb, .ref yl, .ref yu, .ref ya, .ref yt, .ref yh, .ref ye, .int (nI ct), .int (nI tm), .int (nI fs), .int (nI sd), .int (nI rj), .int le, .int (nI tol)])), (yp, .inl (cL, 12, .inr (.inl pp))), (ys, .inl (cL, 12, .inr (.inl vv)))] t) (va_A [(xo, .inr (5, [.int (nI n), .ref yk, .ref yc, .ref yq, .ref yf, .ref yp, .ref ys, .ref ym, .ref yb, .ref yl, .ref yu, .ref ya, .ref yt, .ref yh, .ref ye, .int (nI ct), .int (nI tm), .int (nI fs), .int (nI sd), .int (nI rj), .int le, .int (nI tol)])), (yp, .inl (cL, 12, .inr (.inl pp))), (ys, .inl (cL, 12, .inr (.inl vv)))] sz)) 0 0 (va_A [(xo, .inr (5, [.int (nI n), .ref yk, .ref yc, .ref yq, .ref yf, .ref yp, .ref ys, .ref ym, .ref yb, .ref yl, .ref yu, .ref ya, .ref yt, .ref yh, .ref ye, .int (nI ct), .int (nI tm), .int (nI fs), .int (nI sd), .int (nI rj), .int le, .int (nI tol)])), (yp, .inl (cL, 12, .inr (.inl pp))), (ys, .inl (cL, 12, .inr (.inl vv)))] sz) := by
  refine met_go (cc := prog_7_method_15_code) (maxL := 8) (ret := (some .long)) (QA := fun A => va_Ql (fun (r : Int64) (u : Unit) => r = zGd (fun q => pp (4 + q)) (fun q => vv (4 + q)) (fun q => pp (8 + q)) (fun q => vv (8 + q)) n) (fun u t => gB D vwCl (tyv cI cL cW cZ) A [(xo, .inr (5, [.int (nI n), .ref yk, .ref yc, .ref yq, .ref yf, .ref yp, .ref ys, .ref ym, .ref yb, .ref yl, .ref yu, .ref ya, .ref yt, .ref yh, .ref ye, .int (nI ct), .int (nI tm), .int (nI fs), .int (nI sd), .int (nI rj), .int le, .int (nI tol)])), (yp, .inl (cL, 12, .inr (.inl pp))), (ys, .inl (cL, 12, .inr (.inl vv)))] t) A) (by decide) (Nat.le_of_ble_eq_true rfl) ?_
  intro p e s m below meth c A ls hx hb hr hml hT hN hown hlocks hin hl hP hK hD hA hS
  have hl : lv_has ls 8 [(0, .ref xo)] := hl
  refine lv_lconst (v := zGd (fun q => pp (4 + q)) (fun q => vv (4 + q)) (fun q => pp (8 + q)) (fun q => vv (8 + q)) 0) hx hb d_X_error_0 rfl ?_
  refine lv_lstore_n (lv' := [(1, .long (zGd (fun q => pp (4 + q)) (fun q => vv (4 + q)) (fun q => pp (8 + q)) (fun q => vv (8 + q)) 0)), (0, .ref xo)]) hx hb d_X_error_1 rfl hl (by decide) rfl (fun ls hl => ?_)
  refine lv_iconst (v := nI 0) hx hb d_X_error_2 (by decide) ?_
  refine lv_istore_n (lv' := [(3, .int (nI 0)), (1, .long (zGd (fun q => pp (4 + q)) (fun q => vv (4 + q)) (fun q => pp (8 + q)) (fun q => vv (8 + q)) 0)), (0, .ref xo)]) hx hb d_X_error_3 rfl hl (by decide) rfl (fun ls hl => ?_)
  refine wp_loop (α := Nat) (I := fun k x H locs ls => (x ≤ n ∧ n < x + k) ∧ va_P D vwCl [(xo, .inr (5, [.int (nI n), .ref yk, .ref yc, .ref yq, .ref yf, .ref yp, .ref ys, .ref ym, .ref yb, .ref yl, .ref yu, .ref ya, .ref yt, .ref yh, .ref ye, .int (nI ct), .int (nI tm), .int (nI fs), .int (nI sd), .int (nI rj), .int le, .int (nI tol)])), (yp, .inl (cL, 12, .inr (.inl pp))), (ys, .inl (cL, 12, .inr (.inl vv)))] H ∧ va_D A [(xo, .inr (5, [.int (nI n), .ref yk, .ref yc, .ref yq, .ref yf, .ref yp, .ref ys, .ref ym, .ref yb, .ref yl, .ref yu, .ref ya, .ref yt, .ref yh, .ref ye, .int (nI ct), .int (nI tm), .int (nI fs), .int (nI sd), .int (nI rj), .int le, .int (nI tol)])), (yp, .inl (cL, 12, .inr (.inl pp))), (ys, .inl (cL, 12, .inr (.inl vv)))] ∧ va_S A s.heap H locs ∧ lv_has ls 8 [(0, .ref xo), (1, .long (zGd (fun q => pp (4 + q)) (fun q => vv (4 + q)) (fun q => pp (8 + q)) (fun q => vv (8 + q)) x)), (3, .int (nI x))]) ?_ ?_ (n + 1) 0 ⟨(by (try dsimp only); omega), hP.sub [0, 1, 2] rfl, hD.sub [0, 1, 2] (by decide) rfl, hS, lv_sub hl [2, 1, 0] rfl⟩
  · intro x H locs ls h; have h9 := h.1; (try dsimp only at h9); omega
  · intro k x H locs ls h ih
    obtain ⟨i, rfl⟩ : ∃ z, z = x := ⟨_, rfl⟩
    obtain ⟨hk, hP, hD, hS, hl⟩ := h
    have hk : i ≤ n ∧ n < i + (k + 1) := hk
    have hP : va_P D vwCl [(xo, .inr (5, [.int (nI n), .ref yk, .ref yc, .ref yq, .ref yf, .ref yp, .ref ys, .ref ym, .ref yb, .ref yl, .ref yu, .ref ya, .ref yt, .ref yh, .ref ye, .int (nI ct), .int (nI tm), .int (nI fs), .int (nI sd), .int (nI rj), .int le, .int (nI tol)])), (yp, .inl (cL, 12, .inr (.inl pp))), (ys, .inl (cL, 12, .inr (.inl vv)))] H := hP
    have hD : va_D A [(xo, .inr (5, [.int (nI n), .ref yk, .ref yc, .ref yq, .ref yf, .ref yp, .ref ys, .ref ym, .ref yb, .ref yl, .ref yu, .ref ya, .ref yt, .ref yh, .ref ye, .int (nI ct), .int (nI tm), .int (nI fs), .int (nI sd), .int (nI rj), .int le, .int (nI tol)])), (yp, .inl (cL, 12, .inr (.inl pp))), (ys, .inl (cL, 12, .inr (.inl vv)))] := hD
    have hl : lv_has ls 8 [(0, .ref xo), (1, .long (zGd (fun q => pp (4 + q)) (fun q => vv (4 + q)) (fun q => pp (8 + q)) (fun q => vv (8 + q)) i)), (3, .int (nI i))] := hl
    refine lv_iload_n hx hb d_X_error_4 rfl (lv_at hl 2 rfl) ?_
    refine lv_aload_n hx hb d_X_error_5 rfl (lv_at hl 0 rfl) ?_
    refine va_get (D := D) (ci := 5) (v := .int (nI n)) (C := "OscillatorRowModel") (T := T_X) (N := 22) hx hb hT i_X hown hK hP 0 rfl rfl 0 (by decide) (hT _ k_337) (fun _ h9 => h9) rfl d_X_error_6 ?_
    refine lv_icmp_ge (tgt := 102) hx hb d_X_error_9 (by decide) (fun c9 => ?_) (fun c9 => ?_)
    · have c9 := nI_leM c9 (by omega) (by omega)
      have ein : n = i := by omega
      subst ein
      refine lv_lload_n hx hb d_X_error_102 rfl (lv_at hl 1 rfl) ?_
      exact re_l (v := zGd (fun q => pp (4 + q)) (fun q => vv (4 + q)) (fun q => pp (8 + q)) (fun q => vv (8 + q)) n) () hx hb hr hlocks rfl (hP.sub [0, 1, 2] rfl) hK (hD.sub [0, 1, 2] (by decide) rfl) hS d_X_error_103
    · have c9 := nI_nleM c9 (by omega) (by omega)
      refine lv_aload_n hx hb d_X_error_12 rfl (lv_at hl 0 rfl) ?_
      refine va_get (D := D) (ci := 5) (v := .ref yp) (C := "OscillatorRowModel") (T := T_X) (N := 22) hx hb hT i_X hown hK hP 0 rfl rfl 5 (by decide) (hT _ k_342) (fun _ h9 => h9) rfl d_X_error_13 ?_
      refine lv_iconst (v := nI 4) hx hb d_X_error_16 (by decide) ?_
      refine lv_iload_n hx hb d_X_error_17 rfl (lv_at hl 2 rfl) ?_
      refine lv_iadd hx hb d_X_error_18 ?_
      refine top_i (y := (nI (4 + i))) (nI_add 4 i) ?_
      refine ra_lald (j := (4 + i)) hx hb hK hP 1 1 rfl rfl (by omega) (by omega) d_X_error_19 ?_
      refine lv_aload_n hx hb d_X_error_20 rfl (lv_at hl 0 rfl) ?_
      refine va_get (D := D) (ci := 5) (v := .ref yp) (C := "OscillatorRowModel") (T := T_X) (N := 22) hx hb hT i_X hown hK hP 0 rfl rfl 5 (by decide) (hT _ k_342) (fun _ h9 => h9) rfl d_X_error_21 ?_
      refine lv_bipush (v := nI 8) hx hb d_X_error_24 (by decide) ?_
      refine lv_iload_n hx hb d_X_error_26 rfl (lv_at hl 2 rfl) ?_
      refine lv_iadd hx hb d_X_error_27 ?_
      refine top_i (y := (nI (8 + i))) (nI_add 8 i) ?_
      refine ra_lald (j := (8 + i)) hx hb hK hP 1 1 rfl rfl (by omega) (by omega) d_X_error_28 ?_
      refine lv_lsub hx hb d_X_error_29 ?_
      refine lv_lstore (lv' := [(4, .long ((pp (4 + i)) - (pp (8 + i)))), (0, .ref xo), (1, .long (zGd (fun q => pp (4 + q)) (fun q => vv (4 + q)) (fun q => pp (8 + q)) (fun q => vv (8 + q)) i)), (3, .int (nI i))]) hx hb d_X_error_30 hl (by decide) rfl (fun ls hl => ?_)
      refine lv_aload_n hx hb d_X_error_32 rfl (lv_at hl 1 rfl) ?_
      refine va_get (D := D) (ci := 5) (v := .ref ys) (C := "OscillatorRowModel") (T := T_X) (N := 22) hx hb hT i_X hown hK hP 0 rfl rfl 6 (by decide) (hT _ k_343) (fun _ h9 => h9) rfl d_X_error_33 ?_
      refine lv_iconst (v := nI 4) hx hb d_X_error_36 (by decide) ?_
      refine lv_iload_n hx hb d_X_error_37 rfl (lv_at hl 3 rfl) ?_
      refine lv_iadd hx hb d_X_error_38 ?_
      refine top_i (y := (nI (4 + i))) (nI_add 4 i) ?_
      refine ra_lald (j := (4 + i)) hx hb hK hP 2 1 rfl rfl (by omega) (by omega) d_X_error_39 ?_
      refine lv_aload_n hx hb d_X_error_40 rfl (lv_at hl 1 rfl) ?_
      refine va_get (D := D) (ci := 5) (v := .ref ys) (C := "OscillatorRowModel") (T := T_X) (N := 22) hx hb hT i_X hown hK hP 0 rfl rfl 6 (by decide) (hT _ k_343) (fun _ h9 => h9) rfl d_X_error_41 ?_
      refine lv_bipush (v := nI 8) hx hb d_X_error_44 (by decide) ?_
      refine lv_iload_n hx hb d_X_error_46 rfl (lv_at hl 3 rfl) ?_
      refine lv_iadd hx hb d_X_error_47 ?_
      refine top_i (y := (nI (8 + i))) (nI_add 8 i) ?_
      refine ra_lald (j := (8 + i)) hx hb hK hP 2 1 rfl rfl (by omega) (by omega) d_X_error_48 ?_
      refine lv_lsub hx hb d_X_error_49 ?_
      refine lv_lstore (lv' := [(6, .long ((vv (4 + i)) - (vv (8 + i)))), (4, .long ((pp (4 + i)) - (pp (8 + i)))), (0, .ref xo), (1, .long (zGd (fun q => pp (4 + q)) (fun q => vv (4 + q)) (fun q => pp (8 + q)) (fun q => vv (8 + q)) i)), (3, .int (nI i))]) hx hb d_X_error_50 hl (by decide) rfl (fun ls hl => ?_)
      refine lv_lload hx hb d_X_error_52 (lv_at hl 1 rfl) ?_
      refine lv_lconst (v := 0) hx hb d_X_error_54 (by decide) ?_
      refine W.lcmp hx hb d_X_error_55 ?_
      refine lv_if_ge (tgt := 64) hx hb d_X_error_56 (by decide) (fun c56 => ?_) (fun c56 => ?_)
      · have c56 := lgt_ge c56
        have hl : lv_has ls 8 [(6, .long ((vv (4 + i)) - (vv (8 + i)))), (4, .long (zAbs (pp (4 + i) - pp (8 + i)))), (0, .ref xo), (1, .long (zGd (fun q => pp (4 + q)) (fun q => vv (4 + q)) (fun q => pp (8 + q)) (fun q => vv (8 + q)) i)), (3, .int (nI i))] := by rw [zAbs_nn c56]; exact hl
        refine lv_lload hx hb d_X_error_64 (lv_at hl 0 rfl) ?_
        refine lv_lconst (v := 0) hx hb d_X_error_66 (by decide) ?_
        refine W.lcmp hx hb d_X_error_67 ?_
        refine lv_if_ge (tgt := 76) hx hb d_X_error_68 (by decide) (fun c68 => ?_) (fun c68 => ?_)
        · have c68 := lgt_ge c68
          have hl : lv_has ls 8 [(6, .long (zAbs (vv (4 + i) - vv (8 + i)))), (4, .long (zAbs (pp (4 + i) - pp (8 + i)))), (0, .ref xo), (1, .long (zGd (fun q => pp (4 + q)) (fun q => vv (4 + q)) (fun q => pp (8 + q)) (fun q => vv (8 + q)) i)), (3, .int (nI i))] := by rw [zAbs_nn c68]; exact hl
          refine lv_lload hx hb d_X_error_76 (lv_at hl 1 rfl) ?_
          refine lv_lload_n hx hb d_X_error_78 rfl (lv_at hl 3 rfl) ?_
          refine W.lcmp hx hb d_X_error_79 ?_
          refine lv_if_le (tgt := 86) hx hb d_X_error_80 (by decide) (fun c80 => ?_) (fun c80 => ?_)
          · have c80 := lgt_le c80
            have hl : lv_has ls 8 [(6, .long (zAbs (vv (4 + i) - vv (8 + i)))), (4, .long (zAbs (pp (4 + i) - pp (8 + i)))), (0, .ref xo), (1, .long (zMax (zGd (fun q => pp (4 + q)) (fun q => vv (4 + q)) (fun q => pp (8 + q)) (fun q => vv (8 + q)) i) (zAbs (pp (4 + i) - pp (8 + i))))), (3, .int (nI i))] := by rw [zMax_le c80]; exact hl
            refine lv_lload hx hb d_X_error_86 (lv_at hl 0 rfl) ?_
            refine lv_lload_n hx hb d_X_error_88 rfl (lv_at hl 3 rfl) ?_
            refine W.lcmp hx hb d_X_error_89 ?_
            refine lv_if_le (tgt := 96) hx hb d_X_error_90 (by decide) (fun c90 => ?_) (fun c90 => ?_)
            · have c90 := lgt_le c90
              have hl : lv_has ls 8 [(6, .long (zAbs (vv (4 + i) - vv (8 + i)))), (4, .long (zAbs (pp (4 + i) - pp (8 + i)))), (0, .ref xo), (1, .long (zGd (fun q => pp (4 + q)) (fun q => vv (4 + q)) (fun q => pp (8 + q)) (fun q => vv (8 + q)) (i + 1))), (3, .int (nI i))] := by rw [(show zGd (fun q => pp (4 + q)) (fun q => vv (4 + q)) (fun q => pp (8 + q)) (fun q => vv (8 + q)) (i + 1) = zMax (zGd (fun q => pp (4 + q)) (fun q => vv (4 + q)) (fun q => pp (8 + q)) (fun q => vv (8 + q)) i) (zAbs (pp (4 + i) - pp (8 + i))) from zMax_le c90)]; exact hl
              refine lv_iinc (v := (nI (i + 1))) (lv' := [(3, .int (nI (i + 1))), (6, .long (zAbs (vv (4 + i) - vv (8 + i)))), (4, .long (zAbs (pp (4 + i) - pp (8 + i)))), (0, .ref xo), (1, .long (zGd (fun q => pp (4 + q)) (fun q => vv (4 + q)) (fun q => pp (8 + q)) (fun q => vv (8 + q)) (i + 1)))]) hx hb d_X_error_96 hl (k := 4) rfl (nI_1 i) (by decide) rfl (fun ls hl => ?_)
              refine lv_goto (tgt := 4) hx hb d_X_error_99 (by decide) ?_
              exact ih (i + 1) _ _ _ ⟨(by (try dsimp only); omega), hP.sub [0, 1, 2] rfl, hD.sub [0, 1, 2] (by decide) rfl, hS, lv_sub hl [3, 4, 0] rfl⟩
            · have c90 := lgf_le c90
              refine lv_lload hx hb d_X_error_93 (lv_at hl 0 rfl) ?_
              refine top_l (y := (zGd (fun q => pp (4 + q)) (fun q => vv (4 + q)) (fun q => pp (8 + q)) (fun q => vv (8 + q)) (i + 1))) (show _ = zGd (fun q => pp (4 + q)) (fun q => vv (4 + q)) (fun q => pp (8 + q)) (fun q => vv (8 + q)) (i + 1) from (zMax_gt c90).symm) ?_
              refine lv_lstore_n (lv' := [(1, .long (zGd (fun q => pp (4 + q)) (fun q => vv (4 + q)) (fun q => pp (8 + q)) (fun q => vv (8 + q)) (i + 1))), (6, .long (zAbs (vv (4 + i) - vv (8 + i)))), (4, .long (zAbs (pp (4 + i) - pp (8 + i)))), (0, .ref xo), (3, .int (nI i))]) hx hb d_X_error_95 rfl hl (by decide) rfl (fun ls hl => ?_)
              refine lv_iinc (v := (nI (i + 1))) (lv' := [(3, .int (nI (i + 1))), (1, .long (zGd (fun q => pp (4 + q)) (fun q => vv (4 + q)) (fun q => pp (8 + q)) (fun q => vv (8 + q)) (i + 1))), (6, .long (zAbs (vv (4 + i) - vv (8 + i)))), (4, .long (zAbs (pp (4 + i) - pp (8 + i)))), (0, .ref xo)]) hx hb d_X_error_96 hl (k := 4) rfl (nI_1 i) (by decide) rfl (fun ls hl => ?_)
              refine lv_goto (tgt := 4) hx hb d_X_error_99 (by decide) ?_
              exact ih (i + 1) _ _ _ ⟨(by (try dsimp only); omega), hP.sub [0, 1, 2] rfl, hD.sub [0, 1, 2] (by decide) rfl, hS, lv_sub hl [4, 1, 0] rfl⟩
          · have c80 := lgf_le c80
            refine lv_lload hx hb d_X_error_83 (lv_at hl 1 rfl) ?_
            refine top_l (y := (zMax (zGd (fun q => pp (4 + q)) (fun q => vv (4 + q)) (fun q => pp (8 + q)) (fun q => vv (8 + q)) i) (zAbs (pp (4 + i) - pp (8 + i))))) ((zMax_gt c80).symm) ?_
            refine lv_lstore_n (lv' := [(1, .long (zMax (zGd (fun q => pp (4 + q)) (fun q => vv (4 + q)) (fun q => pp (8 + q)) (fun q => vv (8 + q)) i) (zAbs (pp (4 + i) - pp (8 + i))))), (6, .long (zAbs (vv (4 + i) - vv (8 + i)))), (4, .long (zAbs (pp (4 + i) - pp (8 + i)))), (0, .ref xo), (3, .int (nI i))]) hx hb d_X_error_85 rfl hl (by decide) rfl (fun ls hl => ?_)
            refine lv_lload hx hb d_X_error_86 (lv_at hl 1 rfl) ?_
            refine lv_lload_n hx hb d_X_error_88 rfl (lv_at hl 0 rfl) ?_
            refine W.lcmp hx hb d_X_error_89 ?_
            refine lv_if_le (tgt := 96) hx hb d_X_error_90 (by decide) (fun c90 => ?_) (fun c90 => ?_)
            · have c90 := lgt_le c90
              have hl : lv_has ls 8 [(1, .long (zGd (fun q => pp (4 + q)) (fun q => vv (4 + q)) (fun q => pp (8 + q)) (fun q => vv (8 + q)) (i + 1))), (6, .long (zAbs (vv (4 + i) - vv (8 + i)))), (4, .long (zAbs (pp (4 + i) - pp (8 + i)))), (0, .ref xo), (3, .int (nI i))] := by rw [(show zGd (fun q => pp (4 + q)) (fun q => vv (4 + q)) (fun q => pp (8 + q)) (fun q => vv (8 + q)) (i + 1) = zMax (zGd (fun q => pp (4 + q)) (fun q => vv (4 + q)) (fun q => pp (8 + q)) (fun q => vv (8 + q)) i) (zAbs (pp (4 + i) - pp (8 + i))) from zMax_le c90)]; exact hl
              refine lv_iinc (v := (nI (i + 1))) (lv' := [(3, .int (nI (i + 1))), (1, .long (zGd (fun q => pp (4 + q)) (fun q => vv (4 + q)) (fun q => pp (8 + q)) (fun q => vv (8 + q)) (i + 1))), (6, .long (zAbs (vv (4 + i) - vv (8 + i)))), (4, .long (zAbs (pp (4 + i) - pp (8 + i)))), (0, .ref xo)]) hx hb d_X_error_96 hl (k := 4) rfl (nI_1 i) (by decide) rfl (fun ls hl => ?_)
              refine lv_goto (tgt := 4) hx hb d_X_error_99 (by decide) ?_
              exact ih (i + 1) _ _ _ ⟨(by (try dsimp only); omega), hP.sub [0, 1, 2] rfl, hD.sub [0, 1, 2] (by decide) rfl, hS, lv_sub hl [4, 1, 0] rfl⟩
            · have c90 := lgf_le c90
              refine lv_lload hx hb d_X_error_93 (lv_at hl 1 rfl) ?_
              refine top_l (y := (zGd (fun q => pp (4 + q)) (fun q => vv (4 + q)) (fun q => pp (8 + q)) (fun q => vv (8 + q)) (i + 1))) (show _ = zGd (fun q => pp (4 + q)) (fun q => vv (4 + q)) (fun q => pp (8 + q)) (fun q => vv (8 + q)) (i + 1) from (zMax_gt c90).symm) ?_
              refine lv_lstore_n (lv' := [(1, .long (zGd (fun q => pp (4 + q)) (fun q => vv (4 + q)) (fun q => pp (8 + q)) (fun q => vv (8 + q)) (i + 1))), (6, .long (zAbs (vv (4 + i) - vv (8 + i)))), (4, .long (zAbs (pp (4 + i) - pp (8 + i)))), (0, .ref xo), (3, .int (nI i))]) hx hb d_X_error_95 rfl hl (by decide) rfl (fun ls hl => ?_)
              refine lv_iinc (v := (nI (i + 1))) (lv' := [(3, .int (nI (i + 1))), (1, .long (zGd (fun q => pp (4 + q)) (fun q => vv (4 + q)) (fun q => pp (8 + q)) (fun q => vv (8 + q)) (i + 1))), (6, .long (zAbs (vv (4 + i) - vv (8 + i)))), (4, .long (zAbs (pp (4 + i) - pp (8 + i)))), (0, .ref xo)]) hx hb d_X_error_96 hl (k := 4) rfl (nI_1 i) (by decide) rfl (fun ls hl => ?_)
              refine lv_goto (tgt := 4) hx hb d_X_error_99 (by decide) ?_
              exact ih (i + 1) _ _ _ ⟨(by (try dsimp only); omega), hP.sub [0, 1, 2] rfl, hD.sub [0, 1, 2] (by decide) rfl, hS, lv_sub hl [4, 1, 0] rfl⟩
        · have c68 := lgf_ge c68
          refine lv_lload hx hb d_X_error_71 (lv_at hl 0 rfl) ?_
          refine lv_lneg hx hb d_X_error_73 ?_
          refine top_l (y := (zAbs (vv (4 + i) - vv (8 + i)))) ((zAbs_neg c68).symm) ?_
          refine lv_lstore (lv' := [(6, .long (zAbs (vv (4 + i) - vv (8 + i)))), (4, .long (zAbs (pp (4 + i) - pp (8 + i)))), (0, .ref xo), (1, .long (zGd (fun q => pp (4 + q)) (fun q => vv (4 + q)) (fun q => pp (8 + q)) (fun q => vv (8 + q)) i)), (3, .int (nI i))]) hx hb d_X_error_74 hl (by decide) rfl (fun ls hl => ?_)
          refine lv_lload hx hb d_X_error_76 (lv_at hl 1 rfl) ?_
          refine lv_lload_n hx hb d_X_error_78 rfl (lv_at hl 3 rfl) ?_
          refine W.lcmp hx hb d_X_error_79 ?_
          refine lv_if_le (tgt := 86) hx hb d_X_error_80 (by decide) (fun c80 => ?_) (fun c80 => ?_)
          · have c80 := lgt_le c80
            have hl : lv_has ls 8 [(6, .long (zAbs (vv (4 + i) - vv (8 + i)))), (4, .long (zAbs (pp (4 + i) - pp (8 + i)))), (0, .ref xo), (1, .long (zMax (zGd (fun q => pp (4 + q)) (fun q => vv (4 + q)) (fun q => pp (8 + q)) (fun q => vv (8 + q)) i) (zAbs (pp (4 + i) - pp (8 + i))))), (3, .int (nI i))] := by rw [zMax_le c80]; exact hl
            refine lv_lload hx hb d_X_error_86 (lv_at hl 0 rfl) ?_
            refine lv_lload_n hx hb d_X_error_88 rfl (lv_at hl 3 rfl) ?_
            refine W.lcmp hx hb d_X_error_89 ?_
            refine lv_if_le (tgt := 96) hx hb d_X_error_90 (by decide) (fun c90 => ?_) (fun c90 => ?_)
            · have c90 := lgt_le c90
              have hl : lv_has ls 8 [(6, .long (zAbs (vv (4 + i) - vv (8 + i)))), (4, .long (zAbs (pp (4 + i) - pp (8 + i)))), (0, .ref xo), (1, .long (zGd (fun q => pp (4 + q)) (fun q => vv (4 + q)) (fun q => pp (8 + q)) (fun q => vv (8 + q)) (i + 1))), (3, .int (nI i))] := by rw [(show zGd (fun q => pp (4 + q)) (fun q => vv (4 + q)) (fun q => pp (8 + q)) (fun q => vv (8 + q)) (i + 1) = zMax (zGd (fun q => pp (4 + q)) (fun q => vv (4 + q)) (fun q => pp (8 + q)) (fun q => vv (8 + q)) i) (zAbs (pp (4 + i) - pp (8 + i))) from zMax_le c90)]; exact hl
              refine lv_iinc (v := (nI (i + 1))) (lv' := [(3, .int (nI (i + 1))), (6, .long (zAbs (vv (4 + i) - vv (8 + i)))), (4, .long (zAbs (pp (4 + i) - pp (8 + i)))), (0, .ref xo), (1, .long (zGd (fun q => pp (4 + q)) (fun q => vv (4 + q)) (fun q => pp (8 + q)) (fun q => vv (8 + q)) (i + 1)))]) hx hb d_X_error_96 hl (k := 4) rfl (nI_1 i) (by decide) rfl (fun ls hl => ?_)
              refine lv_goto (tgt := 4) hx hb d_X_error_99 (by decide) ?_
              exact ih (i + 1) _ _ _ ⟨(by (try dsimp only); omega), hP.sub [0, 1, 2] rfl, hD.sub [0, 1, 2] (by decide) rfl, hS, lv_sub hl [3, 4, 0] rfl⟩
            · have c90 := lgf_le c90
              refine lv_lload hx hb d_X_error_93 (lv_at hl 0 rfl) ?_
              refine top_l (y := (zGd (fun q => pp (4 + q)) (fun q => vv (4 + q)) (fun q => pp (8 + q)) (fun q => vv (8 + q)) (i + 1))) (show _ = zGd (fun q => pp (4 + q)) (fun q => vv (4 + q)) (fun q => pp (8 + q)) (fun q => vv (8 + q)) (i + 1) from (zMax_gt c90).symm) ?_
              refine lv_lstore_n (lv' := [(1, .long (zGd (fun q => pp (4 + q)) (fun q => vv (4 + q)) (fun q => pp (8 + q)) (fun q => vv (8 + q)) (i + 1))), (6, .long (zAbs (vv (4 + i) - vv (8 + i)))), (4, .long (zAbs (pp (4 + i) - pp (8 + i)))), (0, .ref xo), (3, .int (nI i))]) hx hb d_X_error_95 rfl hl (by decide) rfl (fun ls hl => ?_)
              refine lv_iinc (v := (nI (i + 1))) (lv' := [(3, .int (nI (i + 1))), (1, .long (zGd (fun q => pp (4 + q)) (fun q => vv (4 + q)) (fun q => pp (8 + q)) (fun q => vv (8 + q)) (i + 1))), (6, .long (zAbs (vv (4 + i) - vv (8 + i)))), (4, .long (zAbs (pp (4 + i) - pp (8 + i)))), (0, .ref xo)]) hx hb d_X_error_96 hl (k := 4) rfl (nI_1 i) (by decide) rfl (fun ls hl => ?_)
              refine lv_goto (tgt := 4) hx hb d_X_error_99 (by decide) ?_
              exact ih (i + 1) _ _ _ ⟨(by (try dsimp only); omega), hP.sub [0, 1, 2] rfl, hD.sub [0, 1, 2] (by decide) rfl, hS, lv_sub hl [4, 1, 0] rfl⟩
          · have c80 := lgf_le c80
            refine lv_lload hx hb d_X_error_83 (lv_at hl 1 rfl) ?_
            refine top_l (y := (zMax (zGd (fun q => pp (4 + q)) (fun q => vv (4 + q)) (fun q => pp (8 + q)) (fun q => vv (8 + q)) i) (zAbs (pp (4 + i) - pp (8 + i))))) ((zMax_gt c80).symm) ?_
            refine lv_lstore_n (lv' := [(1, .long (zMax (zGd (fun q => pp (4 + q)) (fun q => vv (4 + q)) (fun q => pp (8 + q)) (fun q => vv (8 + q)) i) (zAbs (pp (4 + i) - pp (8 + i))))), (6, .long (zAbs (vv (4 + i) - vv (8 + i)))), (4, .long (zAbs (pp (4 + i) - pp (8 + i)))), (0, .ref xo), (3, .int (nI i))]) hx hb d_X_error_85 rfl hl (by decide) rfl (fun ls hl => ?_)
            refine lv_lload hx hb d_X_error_86 (lv_at hl 1 rfl) ?_
            refine lv_lload_n hx hb d_X_error_88 rfl (lv_at hl 0 rfl) ?_
            refine W.lcmp hx hb d_X_error_89 ?_
            refine lv_if_le (tgt := 96) hx hb d_X_error_90 (by decide) (fun c90 => ?_) (fun c90 => ?_)
            · have c90 := lgt_le c90
              have hl : lv_has ls 8 [(1, .long (zGd (fun q => pp (4 + q)) (fun q => vv (4 + q)) (fun q => pp (8 + q)) (fun q => vv (8 + q)) (i + 1))), (6, .long (zAbs (vv (4 + i) - vv (8 + i)))), (4, .long (zAbs (pp (4 + i) - pp (8 + i)))), (0, .ref xo), (3, .int (nI i))] := by rw [(show zGd (fun q => pp (4 + q)) (fun q => vv (4 + q)) (fun q => pp (8 + q)) (fun q => vv (8 + q)) (i + 1) = zMax (zGd (fun q => pp (4 + q)) (fun q => vv (4 + q)) (fun q => pp (8 + q)) (fun q => vv (8 + q)) i) (zAbs (pp (4 + i) - pp (8 + i))) from zMax_le c90)]; exact hl
              refine lv_iinc (v := (nI (i + 1))) (lv' := [(3, .int (nI (i + 1))), (1, .long (zGd (fun q => pp (4 + q)) (fun q => vv (4 + q)) (fun q => pp (8 + q)) (fun q => vv (8 + q)) (i + 1))), (6, .long (zAbs (vv (4 + i) - vv (8 + i)))), (4, .long (zAbs (pp (4 + i) - pp (8 + i)))), (0, .ref xo)]) hx hb d_X_error_96 hl (k := 4) rfl (nI_1 i) (by decide) rfl (fun ls hl => ?_)
              refine lv_goto (tgt := 4) hx hb d_X_error_99 (by decide) ?_
              exact ih (i + 1) _ _ _ ⟨(by (try dsimp only); omega), hP.sub [0, 1, 2] rfl, hD.sub [0, 1, 2] (by decide) rfl, hS, lv_sub hl [4, 1, 0] rfl⟩
            · have c90 := lgf_le c90
              refine lv_lload hx hb d_X_error_93 (lv_at hl 1 rfl) ?_
              refine top_l (y := (zGd (fun q => pp (4 + q)) (fun q => vv (4 + q)) (fun q => pp (8 + q)) (fun q => vv (8 + q)) (i + 1))) (show _ = zGd (fun q => pp (4 + q)) (fun q => vv (4 + q)) (fun q => pp (8 + q)) (fun q => vv (8 + q)) (i + 1) from (zMax_gt c90).symm) ?_
              refine lv_lstore_n (lv' := [(1, .long (zGd (fun q => pp (4 + q)) (fun q => vv (4 + q)) (fun q => pp (8 + q)) (fun q => vv (8 + q)) (i + 1))), (6, .long (zAbs (vv (4 + i) - vv (8 + i)))), (4, .long (zAbs (pp (4 + i) - pp (8 + i)))), (0, .ref xo), (3, .int (nI i))]) hx hb d_X_error_95 rfl hl (by decide) rfl (fun ls hl => ?_)
              refine lv_iinc (v := (nI (i + 1))) (lv' := [(3, .int (nI (i + 1))), (1, .long (zGd (fun q => pp (4 + q)) (fun q => vv (4 + q)) (fun q => pp (8 + q)) (fun q => vv (8 + q)) (i + 1))), (6, .long (zAbs (vv (4 + i) - vv (8 + i)))), (4, .long (zAbs (pp (4 + i) - pp (8 + i)))), (0, .ref xo)]) hx hb d_X_error_96 hl (k := 4) rfl (nI_1 i) (by decide) rfl (fun ls hl => ?_)
              refine lv_goto (tgt := 4) hx hb d_X_error_99 (by decide) ?_
              exact ih (i + 1) _ _ _ ⟨(by (try dsimp only); omega), hP.sub [0, 1, 2] rfl, hD.sub [0, 1, 2] (by decide) rfl, hS, lv_sub hl [4, 1, 0] rfl⟩
      · have c56 := lgf_ge c56
        refine lv_lload hx hb d_X_error_59 (lv_at hl 1 rfl) ?_
        refine lv_lneg hx hb d_X_error_61 ?_
        refine top_l (y := (zAbs (pp (4 + i) - pp (8 + i)))) ((zAbs_neg c56).symm) ?_
        refine lv_lstore (lv' := [(4, .long (zAbs (pp (4 + i) - pp (8 + i)))), (6, .long ((vv (4 + i)) - (vv (8 + i)))), (0, .ref xo), (1, .long (zGd (fun q => pp (4 + q)) (fun q => vv (4 + q)) (fun q => pp (8 + q)) (fun q => vv (8 + q)) i)), (3, .int (nI i))]) hx hb d_X_error_62 hl (by decide) rfl (fun ls hl => ?_)
        refine lv_lload hx hb d_X_error_64 (lv_at hl 1 rfl) ?_
        refine lv_lconst (v := 0) hx hb d_X_error_66 (by decide) ?_
        refine W.lcmp hx hb d_X_error_67 ?_
        refine lv_if_ge (tgt := 76) hx hb d_X_error_68 (by decide) (fun c68 => ?_) (fun c68 => ?_)
        · have c68 := lgt_ge c68
          have hl : lv_has ls 8 [(4, .long (zAbs (pp (4 + i) - pp (8 + i)))), (6, .long (zAbs (vv (4 + i) - vv (8 + i)))), (0, .ref xo), (1, .long (zGd (fun q => pp (4 + q)) (fun q => vv (4 + q)) (fun q => pp (8 + q)) (fun q => vv (8 + q)) i)), (3, .int (nI i))] := by rw [zAbs_nn c68]; exact hl
          refine lv_lload hx hb d_X_error_76 (lv_at hl 0 rfl) ?_
          refine lv_lload_n hx hb d_X_error_78 rfl (lv_at hl 3 rfl) ?_
          refine W.lcmp hx hb d_X_error_79 ?_
          refine lv_if_le (tgt := 86) hx hb d_X_error_80 (by decide) (fun c80 => ?_) (fun c80 => ?_)
          · have c80 := lgt_le c80
            have hl : lv_has ls 8 [(4, .long (zAbs (pp (4 + i) - pp (8 + i)))), (6, .long (zAbs (vv (4 + i) - vv (8 + i)))), (0, .ref xo), (1, .long (zMax (zGd (fun q => pp (4 + q)) (fun q => vv (4 + q)) (fun q => pp (8 + q)) (fun q => vv (8 + q)) i) (zAbs (pp (4 + i) - pp (8 + i))))), (3, .int (nI i))] := by rw [zMax_le c80]; exact hl
            refine lv_lload hx hb d_X_error_86 (lv_at hl 1 rfl) ?_
            refine lv_lload_n hx hb d_X_error_88 rfl (lv_at hl 3 rfl) ?_
            refine W.lcmp hx hb d_X_error_89 ?_
            refine lv_if_le (tgt := 96) hx hb d_X_error_90 (by decide) (fun c90 => ?_) (fun c90 => ?_)
            · have c90 := lgt_le c90
              have hl : lv_has ls 8 [(4, .long (zAbs (pp (4 + i) - pp (8 + i)))), (6, .long (zAbs (vv (4 + i) - vv (8 + i)))), (0, .ref xo), (1, .long (zGd (fun q => pp (4 + q)) (fun q => vv (4 + q)) (fun q => pp (8 + q)) (fun q => vv (8 + q)) (i + 1))), (3, .int (nI i))] := by rw [(show zGd (fun q => pp (4 + q)) (fun q => vv (4 + q)) (fun q => pp (8 + q)) (fun q => vv (8 + q)) (i + 1) = zMax (zGd (fun q => pp (4 + q)) (fun q => vv (4 + q)) (fun q => pp (8 + q)) (fun q => vv (8 + q)) i) (zAbs (pp (4 + i) - pp (8 + i))) from zMax_le c90)]; exact hl
              refine lv_iinc (v := (nI (i + 1))) (lv' := [(3, .int (nI (i + 1))), (4, .long (zAbs (pp (4 + i) - pp (8 + i)))), (6, .long (zAbs (vv (4 + i) - vv (8 + i)))), (0, .ref xo), (1, .long (zGd (fun q => pp (4 + q)) (fun q => vv (4 + q)) (fun q => pp (8 + q)) (fun q => vv (8 + q)) (i + 1)))]) hx hb d_X_error_96 hl (k := 4) rfl (nI_1 i) (by decide) rfl (fun ls hl => ?_)
              refine lv_goto (tgt := 4) hx hb d_X_error_99 (by decide) ?_
              exact ih (i + 1) _ _ _ ⟨(by (try dsimp only); omega), hP.sub [0, 1, 2] rfl, hD.sub [0, 1, 2] (by decide) rfl, hS, lv_sub hl [3, 4, 0] rfl⟩
            · have c90 := lgf_le c90
              refine lv_lload hx hb d_X_error_93 (lv_at hl 1 rfl) ?_
              refine top_l (y := (zGd (fun q => pp (4 + q)) (fun q => vv (4 + q)) (fun q => pp (8 + q)) (fun q => vv (8 + q)) (i + 1))) (show _ = zGd (fun q => pp (4 + q)) (fun q => vv (4 + q)) (fun q => pp (8 + q)) (fun q => vv (8 + q)) (i + 1) from (zMax_gt c90).symm) ?_
              refine lv_lstore_n (lv' := [(1, .long (zGd (fun q => pp (4 + q)) (fun q => vv (4 + q)) (fun q => pp (8 + q)) (fun q => vv (8 + q)) (i + 1))), (4, .long (zAbs (pp (4 + i) - pp (8 + i)))), (6, .long (zAbs (vv (4 + i) - vv (8 + i)))), (0, .ref xo), (3, .int (nI i))]) hx hb d_X_error_95 rfl hl (by decide) rfl (fun ls hl => ?_)
              refine lv_iinc (v := (nI (i + 1))) (lv' := [(3, .int (nI (i + 1))), (1, .long (zGd (fun q => pp (4 + q)) (fun q => vv (4 + q)) (fun q => pp (8 + q)) (fun q => vv (8 + q)) (i + 1))), (4, .long (zAbs (pp (4 + i) - pp (8 + i)))), (6, .long (zAbs (vv (4 + i) - vv (8 + i)))), (0, .ref xo)]) hx hb d_X_error_96 hl (k := 4) rfl (nI_1 i) (by decide) rfl (fun ls hl => ?_)
              refine lv_goto (tgt := 4) hx hb d_X_error_99 (by decide) ?_
              exact ih (i + 1) _ _ _ ⟨(by (try dsimp only); omega), hP.sub [0, 1, 2] rfl, hD.sub [0, 1, 2] (by decide) rfl, hS, lv_sub hl [4, 1, 0] rfl⟩
          · have c80 := lgf_le c80
            refine lv_lload hx hb d_X_error_83 (lv_at hl 0 rfl) ?_
            refine top_l (y := (zMax (zGd (fun q => pp (4 + q)) (fun q => vv (4 + q)) (fun q => pp (8 + q)) (fun q => vv (8 + q)) i) (zAbs (pp (4 + i) - pp (8 + i))))) ((zMax_gt c80).symm) ?_
            refine lv_lstore_n (lv' := [(1, .long (zMax (zGd (fun q => pp (4 + q)) (fun q => vv (4 + q)) (fun q => pp (8 + q)) (fun q => vv (8 + q)) i) (zAbs (pp (4 + i) - pp (8 + i))))), (4, .long (zAbs (pp (4 + i) - pp (8 + i)))), (6, .long (zAbs (vv (4 + i) - vv (8 + i)))), (0, .ref xo), (3, .int (nI i))]) hx hb d_X_error_85 rfl hl (by decide) rfl (fun ls hl => ?_)
            refine lv_lload hx hb d_X_error_86 (lv_at hl 2 rfl) ?_
            refine lv_lload_n hx hb d_X_error_88 rfl (lv_at hl 0 rfl) ?_
            refine W.lcmp hx hb d_X_error_89 ?_
            refine lv_if_le (tgt := 96) hx hb d_X_error_90 (by decide) (fun c90 => ?_) (fun c90 => ?_)
            · have c90 := lgt_le c90
              have hl : lv_has ls 8 [(1, .long (zGd (fun q => pp (4 + q)) (fun q => vv (4 + q)) (fun q => pp (8 + q)) (fun q => vv (8 + q)) (i + 1))), (4, .long (zAbs (pp (4 + i) - pp (8 + i)))), (6, .long (zAbs (vv (4 + i) - vv (8 + i)))), (0, .ref xo), (3, .int (nI i))] := by rw [(show zGd (fun q => pp (4 + q)) (fun q => vv (4 + q)) (fun q => pp (8 + q)) (fun q => vv (8 + q)) (i + 1) = zMax (zGd (fun q => pp (4 + q)) (fun q => vv (4 + q)) (fun q => pp (8 + q)) (fun q => vv (8 + q)) i) (zAbs (pp (4 + i) - pp (8 + i))) from zMax_le c90)]; exact hl
              refine lv_iinc (v := (nI (i + 1))) (lv' := [(3, .int (nI (i + 1))), (1, .long (zGd (fun q => pp (4 + q)) (fun q => vv (4 + q)) (fun q => pp (8 + q)) (fun q => vv (8 + q)) (i + 1))), (4, .long (zAbs (pp (4 + i) - pp (8 + i)))), (6, .long (zAbs (vv (4 + i) - vv (8 + i)))), (0, .ref xo)]) hx hb d_X_error_96 hl (k := 4) rfl (nI_1 i) (by decide) rfl (fun ls hl => ?_)
              refine lv_goto (tgt := 4) hx hb d_X_error_99 (by decide) ?_
              exact ih (i + 1) _ _ _ ⟨(by (try dsimp only); omega), hP.sub [0, 1, 2] rfl, hD.sub [0, 1, 2] (by decide) rfl, hS, lv_sub hl [4, 1, 0] rfl⟩
            · have c90 := lgf_le c90
              refine lv_lload hx hb d_X_error_93 (lv_at hl 2 rfl) ?_
              refine top_l (y := (zGd (fun q => pp (4 + q)) (fun q => vv (4 + q)) (fun q => pp (8 + q)) (fun q => vv (8 + q)) (i + 1))) (show _ = zGd (fun q => pp (4 + q)) (fun q => vv (4 + q)) (fun q => pp (8 + q)) (fun q => vv (8 + q)) (i + 1) from (zMax_gt c90).symm) ?_
              refine lv_lstore_n (lv' := [(1, .long (zGd (fun q => pp (4 + q)) (fun q => vv (4 + q)) (fun q => pp (8 + q)) (fun q => vv (8 + q)) (i + 1))), (4, .long (zAbs (pp (4 + i) - pp (8 + i)))), (6, .long (zAbs (vv (4 + i) - vv (8 + i)))), (0, .ref xo), (3, .int (nI i))]) hx hb d_X_error_95 rfl hl (by decide) rfl (fun ls hl => ?_)
              refine lv_iinc (v := (nI (i + 1))) (lv' := [(3, .int (nI (i + 1))), (1, .long (zGd (fun q => pp (4 + q)) (fun q => vv (4 + q)) (fun q => pp (8 + q)) (fun q => vv (8 + q)) (i + 1))), (4, .long (zAbs (pp (4 + i) - pp (8 + i)))), (6, .long (zAbs (vv (4 + i) - vv (8 + i)))), (0, .ref xo)]) hx hb d_X_error_96 hl (k := 4) rfl (nI_1 i) (by decide) rfl (fun ls hl => ?_)
              refine lv_goto (tgt := 4) hx hb d_X_error_99 (by decide) ?_
              exact ih (i + 1) _ _ _ ⟨(by (try dsimp only); omega), hP.sub [0, 1, 2] rfl, hD.sub [0, 1, 2] (by decide) rfl, hS, lv_sub hl [4, 1, 0] rfl⟩
        · have c68 := lgf_ge c68
          refine lv_lload hx hb d_X_error_71 (lv_at hl 1 rfl) ?_
          refine lv_lneg hx hb d_X_error_73 ?_
          refine top_l (y := (zAbs (vv (4 + i) - vv (8 + i)))) ((zAbs_neg c68).symm) ?_
          refine lv_lstore (lv' := [(6, .long (zAbs (vv (4 + i) - vv (8 + i)))), (4, .long (zAbs (pp (4 + i) - pp (8 + i)))), (0, .ref xo), (1, .long (zGd (fun q => pp (4 + q)) (fun q => vv (4 + q)) (fun q => pp (8 + q)) (fun q => vv (8 + q)) i)), (3, .int (nI i))]) hx hb d_X_error_74 hl (by decide) rfl (fun ls hl => ?_)
          refine lv_lload hx hb d_X_error_76 (lv_at hl 1 rfl) ?_
          refine lv_lload_n hx hb d_X_error_78 rfl (lv_at hl 3 rfl) ?_
          refine W.lcmp hx hb d_X_error_79 ?_
          refine lv_if_le (tgt := 86) hx hb d_X_error_80 (by decide) (fun c80 => ?_) (fun c80 => ?_)
          · have c80 := lgt_le c80
            have hl : lv_has ls 8 [(6, .long (zAbs (vv (4 + i) - vv (8 + i)))), (4, .long (zAbs (pp (4 + i) - pp (8 + i)))), (0, .ref xo), (1, .long (zMax (zGd (fun q => pp (4 + q)) (fun q => vv (4 + q)) (fun q => pp (8 + q)) (fun q => vv (8 + q)) i) (zAbs (pp (4 + i) - pp (8 + i))))), (3, .int (nI i))] := by rw [zMax_le c80]; exact hl
            refine lv_lload hx hb d_X_error_86 (lv_at hl 0 rfl) ?_
            refine lv_lload_n hx hb d_X_error_88 rfl (lv_at hl 3 rfl) ?_
            refine W.lcmp hx hb d_X_error_89 ?_
            refine lv_if_le (tgt := 96) hx hb d_X_error_90 (by decide) (fun c90 => ?_) (fun c90 => ?_)
            · have c90 := lgt_le c90
              have hl : lv_has ls 8 [(6, .long (zAbs (vv (4 + i) - vv (8 + i)))), (4, .long (zAbs (pp (4 + i) - pp (8 + i)))), (0, .ref xo), (1, .long (zGd (fun q => pp (4 + q)) (fun q => vv (4 + q)) (fun q => pp (8 + q)) (fun q => vv (8 + q)) (i + 1))), (3, .int (nI i))] := by rw [(show zGd (fun q => pp (4 + q)) (fun q => vv (4 + q)) (fun q => pp (8 + q)) (fun q => vv (8 + q)) (i + 1) = zMax (zGd (fun q => pp (4 + q)) (fun q => vv (4 + q)) (fun q => pp (8 + q)) (fun q => vv (8 + q)) i) (zAbs (pp (4 + i) - pp (8 + i))) from zMax_le c90)]; exact hl
              refine lv_iinc (v := (nI (i + 1))) (lv' := [(3, .int (nI (i + 1))), (6, .long (zAbs (vv (4 + i) - vv (8 + i)))), (4, .long (zAbs (pp (4 + i) - pp (8 + i)))), (0, .ref xo), (1, .long (zGd (fun q => pp (4 + q)) (fun q => vv (4 + q)) (fun q => pp (8 + q)) (fun q => vv (8 + q)) (i + 1)))]) hx hb d_X_error_96 hl (k := 4) rfl (nI_1 i) (by decide) rfl (fun ls hl => ?_)
              refine lv_goto (tgt := 4) hx hb d_X_error_99 (by decide) ?_
              exact ih (i + 1) _ _ _ ⟨(by (try dsimp only); omega), hP.sub [0, 1, 2] rfl, hD.sub [0, 1, 2] (by decide) rfl, hS, lv_sub hl [3, 4, 0] rfl⟩
            · have c90 := lgf_le c90
              refine lv_lload hx hb d_X_error_93 (lv_at hl 0 rfl) ?_
              refine top_l (y := (zGd (fun q => pp (4 + q)) (fun q => vv (4 + q)) (fun q => pp (8 + q)) (fun q => vv (8 + q)) (i + 1))) (show _ = zGd (fun q => pp (4 + q)) (fun q => vv (4 + q)) (fun q => pp (8 + q)) (fun q => vv (8 + q)) (i + 1) from (zMax_gt c90).symm) ?_
              refine lv_lstore_n (lv' := [(1, .long (zGd (fun q => pp (4 + q)) (fun q => vv (4 + q)) (fun q => pp (8 + q)) (fun q => vv (8 + q)) (i + 1))), (6, .long (zAbs (vv (4 + i) - vv (8 + i)))), (4, .long (zAbs (pp (4 + i) - pp (8 + i)))), (0, .ref xo), (3, .int (nI i))]) hx hb d_X_error_95 rfl hl (by decide) rfl (fun ls hl => ?_)
              refine lv_iinc (v := (nI (i + 1))) (lv' := [(3, .int (nI (i + 1))), (1, .long (zGd (fun q => pp (4 + q)) (fun q => vv (4 + q)) (fun q => pp (8 + q)) (fun q => vv (8 + q)) (i + 1))), (6, .long (zAbs (vv (4 + i) - vv (8 + i)))), (4, .long (zAbs (pp (4 + i) - pp (8 + i)))), (0, .ref xo)]) hx hb d_X_error_96 hl (k := 4) rfl (nI_1 i) (by decide) rfl (fun ls hl => ?_)
              refine lv_goto (tgt := 4) hx hb d_X_error_99 (by decide) ?_
              exact ih (i + 1) _ _ _ ⟨(by (try dsimp only); omega), hP.sub [0, 1, 2] rfl, hD.sub [0, 1, 2] (by decide) rfl, hS, lv_sub hl [4, 1, 0] rfl⟩
          · have c80 := lgf_le c80
            refine lv_lload hx hb d_X_error_83 (lv_at hl 1 rfl) ?_
            refine top_l (y := (zMax (zGd (fun q => pp (4 + q)) (fun q => vv (4 + q)) (fun q => pp (8 + q)) (fun q => vv (8 + q)) i) (zAbs (pp (4 + i) - pp (8 + i))))) ((zMax_gt c80).symm) ?_
            refine lv_lstore_n (lv' := [(1, .long (zMax (zGd (fun q => pp (4 + q)) (fun q => vv (4 + q)) (fun q => pp (8 + q)) (fun q => vv (8 + q)) i) (zAbs (pp (4 + i) - pp (8 + i))))), (6, .long (zAbs (vv (4 + i) - vv (8 + i)))), (4, .long (zAbs (pp (4 + i) - pp (8 + i)))), (0, .ref xo), (3, .int (nI i))]) hx hb d_X_error_85 rfl hl (by decide) rfl (fun ls hl => ?_)
            refine lv_lload hx hb d_X_error_86 (lv_at hl 1 rfl) ?_
            refine lv_lload_n hx hb d_X_error_88 rfl (lv_at hl 0 rfl) ?_
            refine W.lcmp hx hb d_X_error_89 ?_
            refine lv_if_le (tgt := 96) hx hb d_X_error_90 (by decide) (fun c90 => ?_) (fun c90 => ?_)
            · have c90 := lgt_le c90
              have hl : lv_has ls 8 [(1, .long (zGd (fun q => pp (4 + q)) (fun q => vv (4 + q)) (fun q => pp (8 + q)) (fun q => vv (8 + q)) (i + 1))), (6, .long (zAbs (vv (4 + i) - vv (8 + i)))), (4, .long (zAbs (pp (4 + i) - pp (8 + i)))), (0, .ref xo), (3, .int (nI i))] := by rw [(show zGd (fun q => pp (4 + q)) (fun q => vv (4 + q)) (fun q => pp (8 + q)) (fun q => vv (8 + q)) (i + 1) = zMax (zGd (fun q => pp (4 + q)) (fun q => vv (4 + q)) (fun q => pp (8 + q)) (fun q => vv (8 + q)) i) (zAbs (pp (4 + i) - pp (8 + i))) from zMax_le c90)]; exact hl
              refine lv_iinc (v := (nI (i + 1))) (lv' := [(3, .int (nI (i + 1))), (1, .long (zGd (fun q => pp (4 + q)) (fun q => vv (4 + q)) (fun q => pp (8 + q)) (fun q => vv (8 + q)) (i + 1))), (6, .long (zAbs (vv (4 + i) - vv (8 + i)))), (4, .long (zAbs (pp (4 + i) - pp (8 + i)))), (0, .ref xo)]) hx hb d_X_error_96 hl (k := 4) rfl (nI_1 i) (by decide) rfl (fun ls hl => ?_)
              refine lv_goto (tgt := 4) hx hb d_X_error_99 (by decide) ?_
              exact ih (i + 1) _ _ _ ⟨(by (try dsimp only); omega), hP.sub [0, 1, 2] rfl, hD.sub [0, 1, 2] (by decide) rfl, hS, lv_sub hl [4, 1, 0] rfl⟩
            · have c90 := lgf_le c90
              refine lv_lload hx hb d_X_error_93 (lv_at hl 1 rfl) ?_
              refine top_l (y := (zGd (fun q => pp (4 + q)) (fun q => vv (4 + q)) (fun q => pp (8 + q)) (fun q => vv (8 + q)) (i + 1))) (show _ = zGd (fun q => pp (4 + q)) (fun q => vv (4 + q)) (fun q => pp (8 + q)) (fun q => vv (8 + q)) (i + 1) from (zMax_gt c90).symm) ?_
              refine lv_lstore_n (lv' := [(1, .long (zGd (fun q => pp (4 + q)) (fun q => vv (4 + q)) (fun q => pp (8 + q)) (fun q => vv (8 + q)) (i + 1))), (6, .long (zAbs (vv (4 + i) - vv (8 + i)))), (4, .long (zAbs (pp (4 + i) - pp (8 + i)))), (0, .ref xo), (3, .int (nI i))]) hx hb d_X_error_95 rfl hl (by decide) rfl (fun ls hl => ?_)
              refine lv_iinc (v := (nI (i + 1))) (lv' := [(3, .int (nI (i + 1))), (1, .long (zGd (fun q => pp (4 + q)) (fun q => vv (4 + q)) (fun q => pp (8 + q)) (fun q => vv (8 + q)) (i + 1))), (6, .long (zAbs (vv (4 + i) - vv (8 + i)))), (4, .long (zAbs (pp (4 + i) - pp (8 + i)))), (0, .ref xo)]) hx hb d_X_error_96 hl (k := 4) rfl (nI_1 i) (by decide) rfl (fun ls hl => ?_)
              refine lv_goto (tgt := 4) hx hb d_X_error_99 (by decide) ?_
              exact ih (i + 1) _ _ _ ⟨(by (try dsimp only); omega), hP.sub [0, 1, 2] rfl, hD.sub [0, 1, 2] (by decide) rfl, hS, lv_sub hl [4, 1, 0] rfl⟩
