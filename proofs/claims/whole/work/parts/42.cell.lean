set_option maxHeartbeats 4000000 in
set_option maxRecDepth 100000 in
/-- cell(script, 0) -/
theorem c_L_cell (l : Launch) (D : va_G) (tys : List (ClassId × FieldType)) (b L : Nat) (xs : Nat → Int32) (sz : Nat) (hL : L ≤ 3073) : Met l y_L_cell w_L_cell ({ frames := 0, cells := 0, slots := 0, locals := 0 }) (va_Pc [.ref b, .int (nI 0)] (gC D vwCl tys b L xs sz)) (va_Qi (fun (r : Int32) (u : Unit) => r = zCell L xs) (fun u t => gB D vwCl tys (va_A [] sz) [] t) (va_A [] sz)) 0 0 (va_A [] sz) := by
  refine Met.ofW (cc := method_2_code) (maxL := 2) (ret := (some .int)) (by decide) rfl ?_
  intro p e s m args below meth c s₁ B hml hv
  obtain ⟨rfl, hsz, hX, hbl, hK⟩ := hv
  have hx := B.exec
  have hb := B.bytes
  have hr := B.returns
  have hlocks := B.notSynchronized
  subst hsz
  have hbA : ¬ va_A [] s.heap.size b := by
    rintro (⟨k, e9, h⟩ | h)
    · simp at h
    · exact absurd hbl (Nat.not_lt.mpr h)
  generalize va_A [] s.heap.size = A at hbA ⊢
  have hS : va_S A s.heap s.heap [] := va_S.rf
  have hP : va_P D vwCl [] s.heap := fun k q h => by simp at h
  have hD : va_D A [] := ⟨fun i j p q h => by simp at h, fun k q h => by simp at h⟩
  have hl := lv_entry ([.ref b, .int (nI 0)]) (n := 2) (Nat.le_of_ble_eq_true rfl)
  rw [lg_entry_eq]
  generalize (lg_sl ([.ref b, .int (nI 0)]) ++ List.replicate (2 - (lg_sl ([.ref b, .int (nI 0)])).length) Slot.unset).toArray = ls at hl ⊢
  have hl : lv_has ls 2 [(0, .ref b), (1, .int (nI 0))] := hl
  refine lv_iload_n hx hb d_L_cell_0 rfl (lv_at hl 1 rfl) ?_
  refine lv_aload_n hx hb d_L_cell_1 rfl (lv_at hl 0 rfl) ?_
  refine va_slen hx hb hX hbl hbA hS d_L_cell_2 ?_
  refine lv_icmp_ge (tgt := 12) hx hb d_L_cell_3 (by decide) (fun c3 => ?_) (fun c3 => ?_)
  · have c3 : L ≤ 0 := nI_leM (a := L) (b := 0) c3 (by omega) (by omega)
    refine lv_iconst (v := 0) hx hb d_L_cell_12 (by decide) ?_
    exact re_i (w1 := fun (_ : Unit) => []) (v := 0) () hx hb hr hlocks (if_pos c3).symm hP hK hD hS d_L_cell_13
  · have c3 : 0 < L := nI_nleM (a := L) (b := 0) c3 (by omega) (by omega)
    refine lv_aload_n hx hb d_L_cell_6 rfl (lv_at hl 0 rfl) ?_
    refine lv_iload_n hx hb d_L_cell_7 rfl (lv_at hl 1 rfl) ?_
    refine ra_sld (j := 0) hx hb hX hbl hbA hS c3 (by omega) d_L_cell_8 ?_
    refine lv_goto (tgt := 13) hx hb d_L_cell_9 (by decide) ?_
    exact re_i (w1 := fun (_ : Unit) => []) (v := xs 0) () hx hb hr hlocks (if_neg (Nat.not_le.mpr c3)).symm hP hK hD hS d_L_cell_13
theorem known_all {s : State} {args : Array Value} (hT : ∀ w ∈ wg, w.before args s = true) (hN : gN s) : ∃ (D : va_G) (cI cL cW cZ : ClassId), va_K D vwCl (tyv cI cL cW cZ) s := by
  obtain ⟨c0, i0, q0⟩ := u_known (C := "OscillatorRow$Hits") (T := T_H) (N := 5) (n := 5) hT i_H (hT _ k_92)
  obtain ⟨c1, i1, q1⟩ := u_known (C := "OscillatorRow$Motion") (T := T_M) (N := 2) (n := 2) hT i_M (hT _ k_51)
  obtain ⟨c2, i2, q2⟩ := u_known (C := "OscillatorRow$Springs") (T := T_S) (N := 5) (n := 5) hT i_S (hT _ k_24)
  obtain ⟨c3, i3, q3⟩ := u_known (C := "OscillatorRow$Watch") (T := T_W) (N := 4) (n := 4) hT i_W (hT _ k_70)
  obtain ⟨c4, i4, q4⟩ := u_known (C := "OscillatorRow") (T := T_R) (N := 14) (n := 14) hT i_R (hT _ k_10)
  obtain ⟨c5, i5, q5⟩ := u_known (C := "OscillatorRowModel") (T := T_X) (N := 22) (n := 22) hT i_X (hT _ k_332)
  obtain ⟨cI, kI, mI, aI, bI, dI⟩ := Cond.arrayClass_spec (hT _ k_49)
  obtain ⟨cL, kL, mL, aL, bL, dL⟩ := Cond.arrayClass_spec (hT _ k_67)
  obtain ⟨cZ, kZ, mZ, aZ, bZ, dZ⟩ := Cond.arrayClass_spec (hT _ k_404)
  obtain ⟨mW, cW, kW, aW, jW, bW, dW, fW⟩ := Cond.arrayOver_spec (hN _ j_69)
  refine ⟨(fun k => if k = 0 then c0 else if k = 1 then c1 else if k = 2 then c2 else if k = 3 then c3 else if k = 4 then c4 else c5, fun k => if k = 0 then i0 else if k = 1 then i1 else if k = 2 then i2 else if k = 3 then i3 else if k = 4 then i4 else i5), cI, cL, cW, cZ, ?_, ?_⟩
  · intro k q hq
    match k, hq with
    | 0, hq => cases hq; exact q0
    | 1, hq => cases hq; exact q1
    | 2, hq => cases hq; exact q2
    | 3, hq => cases hq; exact q3
    | 4, hq => cases hq; exact q4
    | 5, hq => cases hq; exact q5
    | k + 6, hq => simp [vwCl] at hq
  · intro k q hq
    match k, hq with
    | 0, hq => cases hq; exact ⟨fun n z => ⟨(fun k h => by cases h), kI, bI, mI, dI⟩, aI⟩
    | 1, hq => cases hq; exact ⟨fun n z => ⟨(fun k h => by cases h), kL, bL, mL, dL⟩, aL⟩
    | 2, hq => cases hq; exact ⟨fun n z => ⟨(fun k h => by cases h), kW, bW, mW, dW⟩, kW, mW, bW, dW, aW, fW⟩
    | 3, hq => cases hq; exact ⟨fun n z => ⟨(fun k h => by cases h), kZ, bZ, mZ, dZ⟩, aZ⟩
    | k + 4, hq => simp [tyv] at hq
