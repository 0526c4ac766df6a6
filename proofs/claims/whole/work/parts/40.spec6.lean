/-! The law's own rows: bounds, equal answers. -/
theorem pj2 {α β : Type} {a a2 : α} {b b2 : β} (h : (a, b) = (a2, b2)) : a = a2 ∧ b = b2 := by cases h; exact ⟨rfl, rfl⟩
theorem pj3 {α β γ : Type} {a a2 : α} {b b2 : β} {c c2 : γ} (h : (a, b, c) = (a2, b2, c2)) : a = a2 ∧ b = b2 ∧ c = c2 := by cases h; exact ⟨rfl, rfl, rfl⟩
theorem pj5 {α β γ δ ε : Type} {a a2 : α} {b b2 : β} {c c2 : γ} {d d2 : δ} {e e2 : ε} (h : (a, b, c, d, e) = (a2, b2, c2, d2, e2)) : a = a2 ∧ b = b2 ∧ c = c2 ∧ d = d2 ∧ e = e2 := by cases h; exact ⟨rfl, rfl, rfl, rfl, rfl⟩
theorem pj12 {t1 t2 t3 t4 t5 t6 t7 t8 t9 t10 t11 t12 : Type} {a1 b1 : t1} {a2 b2 : t2} {a3 b3 : t3} {a4 b4 : t4} {a5 b5 : t5} {a6 b6 : t6} {a7 b7 : t7} {a8 b8 : t8} {a9 b9 : t9} {a10 b10 : t10} {a11 b11 : t11} {a12 b12 : t12} (h : (a1, a2, a3, a4, a5, a6, a7, a8, a9, a10, a11, a12) = (b1, b2, b3, b4, b5, b6, b7, b8, b9, b10, b11, b12)) : a1 = b1 ∧ a2 = b2 ∧ a3 = b3 ∧ a4 = b4 ∧ a5 = b5 ∧ a6 = b6 ∧ a7 = b7 ∧ a8 = b8 ∧ a9 = b9 ∧ a10 = b10 ∧ a11 = b11 ∧ a12 = b12 := by
  cases h
  exact ⟨rfl, rfl, rfl, rfl, rfl, rfl, rfl, rfl, rfl, rfl, rfl, rfl⟩
/-- fineness, time and hits of a state -/
def zOk (u v : zU) (d : Nat) : Prop := v.2.2.2.1 ≤ 8 ∧ v.2.2.1 ≤ u.2.2.1 + 256 * d ∧ v.2.2.2.2.2.2.2.1 ≤ u.2.2.2.2.2.2.2.1 + 4 * d
theorem zOk_w {u v : zU} {d d2 : Nat} (h : zOk u v d) (hd : d ≤ d2) : zOk u v d2 := by
  obtain ⟨a, b, c⟩ := h
  exact ⟨a, Nat.le_trans b (by omega), Nat.le_trans c (by omega)⟩
theorem zOk_t {u v w : zU} {d : Nat} (h : zOk u v 1) (h2 : zOk v w d) : zOk u w (d + 1) := by
  obtain ⟨a, b, c⟩ := h
  obtain ⟨a2, b2, c2⟩ := h2
  exact ⟨a2, by omega, by omega⟩
section ZO
variable {n : Nat} {zk zc zq zf : Nat → Int32} {tol : Nat} {wb : Nat → Nat} {wl : Nat → Int64} {wu wa : Nat → Int32}
theorem zOk_none {T gone : Nat} {u v : zU} (h8 : u.2.2.2.1 ≤ 8) (h : zStride n zk zc zq zf tol wb wl wu wa T gone u = (none, v)) : zOk u v 1 := by
  obtain ⟨px, pv, tm, fs, sd, rj, er, ct, f1, f2, f3⟩ := u
  unfold zStride at h
  dsimp only at h h8
  split at h
  · rename_i s2 r2 e
    cases h
    have h1 := @zGood_le8 n zk zc zq zf px pv tol (8 - zFit (nI tm) (nI (T - gone)) (8 - fs) fs) (zFit (nI tm) (nI (T - gone)) (8 - fs) fs)
    rw [e] at h1
    have h2 := @zFit_le8 (nI tm) (nI (T - gone)) fs h8
    dsimp only at h1
    refine ⟨?_, ?_, ?_⟩ <;> dsimp only <;> omega
  · cases h
theorem zOk_some {T gone g2 : Nat} {st : Int32} {u v w : zU} (h8 : u.2.2.2.1 ≤ 8) (h : zStride n zk zc zq zf tol wb wl wu wa T gone u = (some (st, g2, v), w)) : zOk u v 1 := by
  obtain ⟨px, pv, tm, fs, sd, rj, er, ct, f1, f2, f3⟩ := u
  unfold zStride at h
  dsimp only at h h8
  split at h
  · cases h
  · rename_i t s2 r2 e
    have h1 := @zGood_le8 n zk zc zq zf px pv tol (8 - zFit (nI tm) (nI (T - gone)) (8 - fs) fs) (zFit (nI tm) (nI (T - gone)) (8 - fs) fs)
    rw [e] at h1
    have h2 := @zFit_le8 (nI tm) (nI (T - gone)) fs h8
    have h3 := @zTk_le s2
    have h4 := @zLess_le s2 tol t.1
    have h5 := zLook_ct (wb := wb) (wl := wl) (wu := wu) (wa := wa) (bx := px) (px := t.2.1) (tm := nI (tm + zTk s2)) (tk := nI (zTk s2)) (0, t.2.2, ct, f1, f2, f3) 4
    dsimp only at h1
    have h6 := congrArg Prod.fst h
    dsimp only at h6
    have h7 := Option.some.inj h6
    unfold zTake at h7
    have h9 := congrArg (fun q => q.2.2) h7
    dsimp only at h9
    rw [← h9]
    refine ⟨?_, ?_, ?_⟩
    · dsimp only; omega
    · dsimp only; omega
    · exact h5
theorem zOk_L {T : Nat} : ∀ (d gone : Nat) (u : zU), u.2.2.2.1 ≤ 8 → zOk u (zAdvL n zk zc zq zf tol wb wl wu wa T d gone u).2 d := by
  intro d
  induction d with
  | zero => intro gone u h8; exact ⟨h8, Nat.le_refl _, Nat.le_refl _⟩
  | succ d ih =>
    intro gone u h8
    rw [zAdvL]
    split
    · exact ⟨h8, Nat.le_add_right _ _, Nat.le_add_right _ _⟩
    · split
      · rename_i v e
        exact zOk_w (zOk_none h8 e) (by omega)
      · rename_i st g2 v w e
        have h1 := zOk_some h8 e
        by_cases hs : st = 0
        · rw [if_neg (fun q => q hs)]
          exact zOk_t h1 (ih g2 v h1.1)
        · rw [if_pos hs]
          exact zOk_w h1 (by omega)
theorem zAdv_bd {ia r : Int32} {px pv gx gv : Nat → Int64} {tm fs sd rj ct gt gs gd gr gct : Nat} {er ge : Int64} {f1 f2 f3 g1 g2 g3 : Nat → Int32} (hf : fs ≤ 8) (h : (r, gx, gv, gt, gs, gd, gr, ge, gct, g1, g2, g3) = zAdv n zk zc zq zf tol wb wl wu wa ia (px, pv, tm, fs, sd, rj, er, ct, f1, f2, f3)) : gs ≤ 8 ∧ gt ≤ tm + 524288 ∧ gct ≤ ct + 8192 := by
  have key : zOk (px, pv, tm, fs, sd, rj, er, ct, f1, f2, f3) (zAdv n zk zc zq zf tol wb wl wu wa ia (px, pv, tm, fs, sd, rj, er, ct, f1, f2, f3)).2 2048 := by
    unfold zAdv
    by_cases c1 : ia < 1
    · rw [if_pos c1]; exact ⟨hf, Nat.le_add_right _ _, Nat.le_add_right _ _⟩
    · rw [if_neg c1]
      by_cases c2 : ia ≤ 2048
      · rw [if_pos c2]
        obtain ⟨T, h1, h2, rfl⟩ := zT_ix c1 c2
        rw [nI_clamp (by omega)]
        exact zOk_w (zOk_L T 0 (px, pv, tm, fs, sd, rj, er, ct, f1, f2, f3) hf) h2
      · rw [if_neg c2]; exact ⟨hf, Nat.le_add_right _ _, Nat.le_add_right _ _⟩
  rw [← h] at key
  obtain ⟨a, b, c⟩ := key
  dsimp only at a b c
  exact ⟨a, by omega, by omega⟩
end ZO
theorem zCtol_le {ia r : Int32} {tol gt : Nat} (h : (r, gt) = zCtol ia tol) (ht : tol ≤ 1000000) : gt ≤ 1000000 := by
  unfold zCtol at h
  by_cases c1 : ia < 0
  · rw [if_pos c1] at h; cases h; exact ht
  · rw [if_neg c1] at h
    by_cases c2 : ia ≤ 1000000
    · rw [if_pos c2] at h
      obtain ⟨j, hj, rfl⟩ := nI_of2 (M := 1000000) (n := 1000000) (by decide) c1 c2
      rw [nI_clamp (by omega)] at h
      cases h
      exact hj
    · rw [if_neg c2] at h; cases h; exact ht
theorem zCwatch_wb {n : Nat} {ia ib ic id ie r : Int32} {wb gb : Nat → Nat} {wl gl : Nat → Int64} {wu wa gu ga : Nat → Int32} (hn : n ≤ 4) (h : (r, gb, gl, gu, ga) = zCwatch n ia ib ic id ie wb wl wu wa) (hw : ∀ k, k < 4 → wb k < n) : ∀ k, k < 4 → gb k < n := by
  unfold zCwatch at h
  by_cases c1 : ia < 0
  · rw [if_pos c1] at h; cases h; exact hw
  · rw [if_neg c1] at h
    by_cases c2 : 4 ≤ ia
    · rw [if_pos c2] at h; cases h; exact hw
    · rw [if_neg c2] at h
      by_cases c3 : zBody ib (nI n) = 0
      · rw [if_pos c3] at h; cases h; exact hw
      · rw [if_neg c3] at h
        by_cases c4 : zUni ic = 0
        · rw [if_neg (fun q => q c4)] at h; cases h; exact hw
        · rw [if_pos c4] at h
          by_cases c5 : ie < (-1)
          · rw [if_pos c5] at h; cases h; exact hw
          · rw [if_neg c5] at h
            by_cases c6 : ie ≤ 2
            · rw [if_pos c6] at h
              cases h
              obtain ⟨j, hj, rfl⟩ := zBody_ix c3 hn
              intro k hk
              rw [nI_clamp (by omega)]
              unfold va_up
              by_cases e : k = ia.toNatClampNeg
              · rw [if_pos e]; exact hj
              · rw [if_neg e]; exact hw k hk
            · rw [if_neg c6] at h; cases h; exact hw
theorem law_go {L cn : Nat} (hL : L ≤ 3073) (hc : cn ≤ 512) (h : ¬ nI L - nI 6 < nI (6 * cn + 1)) : 6 * cn + 7 ≤ L := by
  rw [Int32.lt_iff_toInt_lt, pk_sub_toInt (by omega) (by omega), nI_toInt (by omega)] at h
  omega
theorem zI2_0 : zI2 (fun _ => 0) = fun _ => 0 := by
  funext j
  exact (by decide : (0 : Int32).toInt64 = 0)
theorem zW_0 : zW (fun _ => 0) = fun _ => 0 := by
  funext j
  exact nI_0
theorem zT_0 : zT (fun _ => -1) = fun _ => 0 := by
  funext j
  exact (by decide : zSet (-1) = 0)
theorem zHs_z : zHs (fun _ => 0) (fun _ => 0) (fun _ => 0) = fun _ => 0 := by
  funext q
  unfold zHs
  split
  · rfl
  · split <;> rfl
def zCell (L : Nat) (xs : Nat → Int32) : Int32 := if L ≤ 0 then 0 else xs 0
section BD
variable {p : Program} {l : Launch} {e : Env} {R : Room} {s : State} {m : MethodId} {args : Array Value} {below : List Frame} {meth : Method} {c : Code} {H : Heap} {locs : List Loc} {cells slots : Nat} {Q : State → Prop}
variable {cc : ByteArray} {pc : Nat} {ls : Array Slot} {rest : List Value} {D : va_G} {cl : List vw_C} {A : Nat → Prop} {a : Nat} {tys : List (ClassId × FieldType)} {ws : va_W} {H0 : Heap}
theorem ra_sld {j : Nat} (hexec : p.tables.exec = Jvm.exec) (hb : c.code = cc) {b L : Nat} {xs : Nat → Int32} (hX : va_X b L xs s H0) (hbl : b < H0.size) (hbA : ¬ A b) (hS : va_S A H0 H locs) (hj : j < L) (hn : L < 2 ^ 31) (hdg : decode cc pc = .ok (.iaload, 1)) (kk : W p l e R s m args below meth c H locs cells slots Q (F0 m (pc + 1) ls (.int (xs j) :: rest))) : W p l e R s m args below meth c H locs cells slots Q (F0 m pc ls (.int (nI j) :: .ref b :: rest)) :=
  va_sld hexec hb hX hbl hbA hS (vp_in_nI hj hn) hdg (by rw [nI_clamp (Nat.lt_trans hj hn)]; exact kk)
/-- what 'cell' wants -/
def gC (D : va_G) (cl : List vw_C) (tys : List (ClassId × FieldType)) (b L : Nat) (xs : Nat → Int32) (sz : Nat) (U : State) : Prop := U.heap.size = sz ∧ va_X b L xs U U.heap ∧ b < U.heap.size ∧ va_K D cl tys U
theorem pre_C {b L : Nat} {xs : Nat → Int32} {As : List Value} (hX : va_X b L xs s H0) (hbl : b < H0.size) (hbA : ¬ A b) (hS : va_S A H0 H locs) (hK : va_K D cl tys s) : PreS s H (va_Pc As (gC D cl tys b L xs H.size)) As := by
  refine ⟨?_, ?_⟩
  · intro a U g mk q
    obtain ⟨q0, q1, q2, q3, q4⟩ := q
    exact ⟨q0, q1, va_X.moved (u := U) (U := U.calling g mk a) (Vm.Alike.refl U.vm) q2, q3, va_K.moved (u := U) (U := U.calling g mk a) (Vm.Alike.refl U.vm) q4⟩
  · intro U hU hW
    refine ⟨rfl, by rw [hU], ?_, by rw [hU]; exact Nat.lt_of_lt_of_le hbl hS.1, va_K.moved hW.alike hK⟩
    rw [hU]
    exact va_X.moved hW.alike (hX.kept (hS.2.1 b hbl hbA))
end BD
