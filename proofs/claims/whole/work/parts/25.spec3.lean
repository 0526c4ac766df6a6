/-! The reference's stride, watches and advance, against the same functions. -/
def zW (wb : Nat → Nat) : Nat → Int32 := fun j => nI (wb j)
def zT (wa : Nat → Int32) : Nat → Int32 := fun j => zSet (wa j)
theorem zW_upd (wb : Nat → Nat) (j b : Nat) : zW (va_up wb j b) = upd (zW wb) j (nI b) := by
  funext q
  unfold zW va_up upd
  by_cases h : q = j
  · simp [h]
  · simp [h]
theorem zT_upd (wa : Nat → Int32) (j : Nat) (v : Int32) : zT (upd wa j v) = upd (zT wa) j (zSet v) := by
  funext q
  unfold zT upd
  by_cases h : q = j
  · simp [h]
  · simp [h]
theorem cp_in {ro to : Nat} {f g : Nat → Int64} (e : zRM to 4 (fun q => f (ro * 4 + q)) f = g) {q : Nat} (h : q < 4) : g (to * 4 + q) = f (ro * 4 + q) := by rw [← e]; exact zRM_in h
theorem cp_out {ro to : Nat} {f g : Nat → Int64} (e : zRM to 4 (fun q => f (ro * 4 + q)) f = g) {q : Nat} (h : q < to * 4 ∨ to * 4 + 4 ≤ q) : g q = f q := by rw [← e]; exact zRM_out h
theorem zGd_congr {a b c d a2 b2 c2 d2 : Nat → Int64} {n : Nat} (h : ∀ j, j < n → a j = a2 j ∧ b j = b2 j ∧ c j = c2 j ∧ d j = d2 j) : ∀ i, i ≤ n → zGd a b c d i = zGd a2 b2 c2 d2 i := by
  intro i
  induction i with
  | zero => intro _; rfl
  | succ i ih =>
    intro hi
    obtain ⟨h1, h2, h3, h4⟩ := h i (by omega)
    rw [zGd, zGd, ih (by omega), h1, h2, h3, h4]
section XT
variable {n : Nat} {zk zc zq zf : Nat → Int32} {g tol j rj gg jj : Nat} {px pv : Nat → Int64}
theorem xt_1 (c : (zStep n zk zc zq zf (nI g) px pv).1 = 0) : zTry n zk zc zq zf g px pv = none := by unfold zTry; rw [if_pos c]
theorem xt_2 (c : ¬ (zStep n zk zc zq zf (nI g) px pv).1 = 0) (c2 : (zStep n zk zc zq zf (nI (g + 1)) px pv).1 = 0) : zTry n zk zc zq zf g px pv = none := by unfold zTry; rw [if_neg c, if_pos c2]
theorem xt_3 (c : ¬ (zStep n zk zc zq zf (nI g) px pv).1 = 0) (c2 : ¬ (zStep n zk zc zq zf (nI (g + 1)) px pv).1 = 0) (c3 : (zStep n zk zc zq zf (nI (g + 1)) (zStep n zk zc zq zf (nI (g + 1)) px pv).2.1 (zStep n zk zc zq zf (nI (g + 1)) px pv).2.2).1 = 0) : zTry n zk zc zq zf g px pv = none := by unfold zTry; rw [if_neg c, if_neg c2, if_pos c3]
theorem xt_4 (c : ¬ (zStep n zk zc zq zf (nI g) px pv).1 = 0) (c2 : ¬ (zStep n zk zc zq zf (nI (g + 1)) px pv).1 = 0) (c3 : ¬ (zStep n zk zc zq zf (nI (g + 1)) (zStep n zk zc zq zf (nI (g + 1)) px pv).2.1 (zStep n zk zc zq zf (nI (g + 1)) px pv).2.2).1 = 0) : zTry n zk zc zq zf g px pv = some (zGd (zStep n zk zc zq zf (nI g) px pv).2.1 (zStep n zk zc zq zf (nI g) px pv).2.2 (zStep n zk zc zq zf (nI (g + 1)) (zStep n zk zc zq zf (nI (g + 1)) px pv).2.1 (zStep n zk zc zq zf (nI (g + 1)) px pv).2.2).2.1 (zStep n zk zc zq zf (nI (g + 1)) (zStep n zk zc zq zf (nI (g + 1)) px pv).2.1 (zStep n zk zc zq zf (nI (g + 1)) px pv).2.2).2.2 n, (zStep n zk zc zq zf (nI (g + 1)) (zStep n zk zc zq zf (nI (g + 1)) px pv).2.1 (zStep n zk zc zq zf (nI (g + 1)) px pv).2.2).2) := by unfold zTry; rw [if_neg c, if_neg c2, if_neg c3]
theorem zGood_none (h : zTry n zk zc zq zf g px pv = none) : zGood n zk zc zq zf px pv tol (8 - g) g = (none, g, 0) := by
  cases h8 : 8 - g with
  | zero => rw [zGood, h]
  | succ d => rw [zGood, h]
theorem zGood_ok {t : Int64 × (Nat → Int64) × (Nat → Int64)} (h : zTry n zk zc zq zf g px pv = some t) (c : t.1 ≤ (nI tol).toInt64 ∨ 8 ≤ g) : zGood n zk zc zq zf px pv tol (8 - g) g = (some t, g, 0) := by
  cases h8 : 8 - g with
  | zero => rw [zGood, h]
  | succ d =>
    rw [zGood, h]
    exact if_pos (c.resolve_right (by omega))
theorem zGood_go' {t : Int64 × (Nat → Int64) × (Nat → Int64)} (h : zTry n zk zc zq zf g px pv = some t) (c : ¬ t.1 ≤ (nI tol).toInt64) (c2 : g < 8) (ht : tol < 2 ^ 31) : zGr n zk zc zq zf px pv tol g j = zGr n zk zc zq zf px pv tol (g + 1) (j + 1) := by
  obtain ⟨em, bx, bv⟩ := t
  exact zGood_go (Or.inr h) c c2 ht
theorem xs_end {o : Option (Int64 × (Nat → Int64) × (Nat → Int64))} {s1 : Nat} (hs1 : s1 = g) (hz : zGr n zk zc zq zf px pv tol g rj = zGr n zk zc zq zf px pv tol gg jj) (hs : zGood n zk zc zq zf px pv tol (8 - gg) gg = (o, gg, 0)) : (zGood n zk zc zq zf px pv tol (8 - s1) s1).1 = o ∧ gg = (zGood n zk zc zq zf px pv tol (8 - s1) s1).2.1 ∧ jj = rj + (zGood n zk zc zq zf px pv tol (8 - s1) s1).2.2 := by
  subst hs1
  unfold zGr at hz
  rw [hs] at hz
  have h1 := congrArg Prod.fst hz
  have h2 := congrArg (fun q => q.2.1) hz
  have h3 := congrArg (fun q => q.2.2) hz
  dsimp only at h1 h2 h3
  exact ⟨h1, h2.symm, by omega⟩
end XT
theorem zTill_eq {wl fr tt : Int64} {tk : Int32} (h : ¬ zAbs (tt - fr) = 0) : zTill wl fr tt tk = ((tk.toInt64 * zAbs (wl - fr) + zAbs (tt - fr) - 1) / zAbs (tt - fr)).toInt32 := if_pos h
theorem zAbs_ne {a b : Int64} (h : ¬ a = b) : ¬ zAbs (a - b) = 0 := by
  intro q
  apply h
  have e : a - b = 0 := by
    unfold zAbs at q
    split at q
    · exact q
    · have := congrArg (fun z => -z) q
      simpa using this
  have : a - b + b = 0 + b := by rw [e]
  simpa using this
theorem way_up {wl fr tt : Int64} (h1 : ¬ wl ≤ fr) (h2 : ¬ tt < wl) : ¬ zAbs (tt - fr) = 0 := by
  apply zAbs_ne
  intro q
  subst q
  simp only [Int64.lt_iff_toInt_lt, Int64.le_iff_toInt_le] at *
  omega
theorem way_dn {wl fr tt : Int64} (h1 : ¬ fr ≤ wl) (h2 : ¬ wl < tt) : ¬ zAbs (tt - fr) = 0 := by
  apply zAbs_ne
  intro q
  subst q
  simp only [Int64.lt_iff_toInt_lt, Int64.le_iff_toInt_le] at *
  omega
section ZH
variable {wa wu : Int32} {wl fr tt : Int64}
theorem zh_0 (c : zSet wa = 0) : zHit wa wl wu fr tt = 0 := by unfold zHit; rw [if_neg (fun q => q c)]
theorem zh_u1 (c : ¬ wu = 0) (c2 : wl ≤ fr) : zHit wa wl wu fr tt = 0 := by
  unfold zHit
  by_cases cs : zSet wa = 0
  · rw [if_neg (fun q => q cs)]
  · rw [if_pos cs, if_neg c, if_pos c2]
theorem zh_u2 (c : ¬ wu = 0) (c2 : ¬ wl ≤ fr) (c3 : tt < wl) : zHit wa wl wu fr tt = 0 := by
  unfold zHit
  by_cases cs : zSet wa = 0
  · rw [if_neg (fun q => q cs)]
  · rw [if_pos cs, if_neg c, if_neg c2, if_pos c3]
theorem zh_d1 (c : wu = 0) (c2 : fr ≤ wl) : zHit wa wl wu fr tt = 0 := by
  unfold zHit
  by_cases cs : zSet wa = 0
  · rw [if_neg (fun q => q cs)]
  · rw [if_pos cs, if_pos c, if_pos c2]
theorem zh_d2 (c : wu = 0) (c2 : ¬ fr ≤ wl) (c3 : wl < tt) : zHit wa wl wu fr tt = 0 := by
  unfold zHit
  by_cases cs : zSet wa = 0
  · rw [if_neg (fun q => q cs)]
  · rw [if_pos cs, if_pos c, if_neg c2, if_pos c3]
theorem zh_u (cs : ¬ zSet wa = 0) (c : ¬ wu = 0) (c2 : ¬ wl ≤ fr) (c3 : ¬ tt < wl) : ¬ zHit wa wl wu fr tt = 0 := by
  unfold zHit
  rw [if_pos cs, if_neg c, if_neg c2, if_neg c3]
  decide
theorem zh_d (cs : ¬ zSet wa = 0) (c : wu = 0) (c2 : ¬ fr ≤ wl) (c3 : ¬ wl < tt) : ¬ zHit wa wl wu fr tt = 0 := by
  unfold zHit
  rw [if_pos cs, if_pos c, if_neg c2, if_neg c3]
  decide
end ZH
theorem zTurn_ag {wa wm : Int32} {qv qw : Nat → Int64} {i n : Nat} (e : wm = wa) (h : ∀ q, q < n → qv q = qw q) (hi : i < n) : ∀ q, q < n → zTurn wm qv i q = zTurn wa qw i q := by
  intro q hq
  subst e
  unfold zTurn
  split
  · exact h q hq
  · unfold vp_updL
    by_cases hx : q = i
    · rw [if_pos hx, if_pos hx, h i hi]
    · rw [if_neg hx, if_neg hx, h q hq]
theorem zSt_k {st wa : Int32} (h : st = 0 ∨ st = 1) (c : ¬ wa = 2) : st = zSt st wa := by
  unfold zSt
  rcases h with rfl | rfl
  · rw [if_neg (fun q => q rfl), if_pos c]
  · rw [if_pos (by decide)]
theorem zSt_s {st wa : Int32} (c : wa = 2) : 1 = zSt st wa := by
  unfold zSt
  by_cases cs : st = 0
  · rw [if_neg (fun q => q cs), if_neg (fun q => q c)]
  · rw [if_pos cs]
theorem nI_eq0 {a : Nat} (h : nI a = 0) (ha : a < 2 ^ 31) : a = 0 := (nI_eq ha (by omega)).mp (h.trans nI_0.symm)
/-- the reference's own answers in the same words -/
theorem no_0 {ia n : Int32} (h : zNo ia n = 0) : ¬ zBody ia n = 0 := by
  unfold zNo at h
  split at h
  · exact absurd h (by decide)
  · rename_i h1
    split at h
    · rename_i h2
      unfold zBody
      rw [if_neg h1, if_neg]
      · decide
      · simp only [Int32.lt_iff_toInt_lt, Int32.le_iff_toInt_le] at *
        omega
    · exact absurd h (by decide)
theorem no_1 {ia n : Int32} (h : ¬ zNo ia n = 0) : zBody ia n = 0 := by
  unfold zNo at h
  unfold zBody
  split at h
  · rename_i h1; rw [if_pos h1]
  · rename_i h1
    split at h
    · exact absurd rfl h
    · rename_i h2
      rw [if_neg h1, if_pos]
      simp only [Int32.lt_iff_toInt_lt, Int32.le_iff_toInt_le] at *
      omega
theorem off_0 {ia : Int32} (h : zOff ia 1000000000 = 0) : ¬ zUni ia = 0 := by
  unfold zOff at h
  split at h
  · exact absurd h (by decide)
  · rename_i h1
    split at h
    · rename_i h2
      unfold zUni
      rw [if_neg h1, if_neg]
      · decide
      · simp only [Int32.lt_iff_toInt_lt, Int32.le_iff_toInt_le] at *
        omega
    · exact absurd h (by decide)
theorem off_1 {ia : Int32} (h : ¬ zOff ia 1000000000 = 0) : zUni ia = 0 := by
  unfold zOff at h
  unfold zUni
  split at h
  · rename_i h1; rw [if_pos h1]
  · rename_i h1
    split at h
    · exact absurd rfl h
    · rename_i h2
      rw [if_neg h1, if_pos]
      simp only [Int32.lt_iff_toInt_lt, Int32.le_iff_toInt_le] at *
      omega
theorem six_n {ia : Int32} (h : ia < 0) : zSix ia = 0 := if_pos h
theorem six_g {ia : Int32} (h : 64 < ia) : zSix ia = 0 := by
  unfold zSix
  by_cases h1 : ia < 0
  · rw [if_pos h1]
  · rw [if_neg h1, if_pos h]
theorem six_ok {ia : Int32} (h : ¬ ia < 0) (h2 : ia ≤ 64) : ¬ zSix ia = 0 := by
  unfold zSix
  rw [if_neg h, if_neg]
  · decide
  · simp only [Int32.lt_iff_toInt_lt, Int32.le_iff_toInt_le] at *
    omega
theorem six_g' {ia : Int32} (h : ¬ ia ≤ 64) : zSix ia = 0 := six_g (by simp only [Int32.lt_iff_toInt_lt, Int32.le_iff_toInt_le] at *; omega)
theorem body_n {ia n : Int32} (h : ia < 0) : zBody ia n = 0 := if_pos h
section CC
variable {n : Nat} {ia ib ic id ie : Int32} {zk zc zq zf f1 f2 f3 wu wa : Nat → Int32} {px pv wl : Nat → Int64} {wb : Nat → Nat} {ct : Nat}
theorem cb_r (h : zBody ia (nI n) = 0 ∨ zSix ib = 0 ∨ zSix ic = 0) : ((-1 : Int32), zk, zc) = zCbody n ia ib ic zk zc := by
  unfold zCbody
  by_cases h1 : zBody ia (nI n) = 0
  · rw [if_pos h1]
  · rw [if_neg h1]
    by_cases h2 : zSix ib = 0
    · rw [if_pos h2]
    · rw [if_neg h2, if_neg (fun q => q ((h.resolve_left h1).resolve_left h2))]
theorem cb_d {j : Nat} (hj : j < 2 ^ 31) (h1 : ¬ zBody (nI j) (nI n) = 0) (h2 : ¬ zSix ib = 0) (h3 : ¬ zSix ic = 0) : ((0 : Int32), upd zk j ib, upd zc j ic) = zCbody n (nI j) ib ic zk zc := by
  unfold zCbody
  rw [if_neg h1, if_neg h2, if_pos h3, nI_clamp hj]
theorem cl_r (h : zBody ia (nI n) = 0 ∨ ia = nI n - 1 ∨ zSix ib = 0) : ((-1 : Int32), zq) = zClink n ia ib zq := by
  unfold zClink
  by_cases h1 : zBody ia (nI n) = 0
  · rw [if_pos h1]
  · rw [if_neg h1]
    by_cases h2 : ia = nI n - 1
    · rw [if_pos h2]
    · rw [if_neg h2, if_neg (fun q => q ((h.resolve_left h1).resolve_left h2))]
theorem cl_d {j : Nat} (hj : j < 2 ^ 31) (h1 : ¬ zBody (nI j) (nI n) = 0) (h2 : ¬ nI j = nI n - 1) (h3 : ¬ zSix ib = 0) : ((0 : Int32), upd zq j ib) = zClink n (nI j) ib zq := by
  unfold zClink
  rw [if_neg h1, if_neg h2, if_pos h3, nI_clamp hj]
theorem nI_m2 : ∀ n, n < 5 → 1 ≤ n → (nI n - 2).toInt = (n : Int) - 2 ∧ (nI n - 1).toInt = (n : Int) - 1 := by decide
theorem cl_m (h1 : 1 ≤ n) (h4 : n ≤ 4) (h0 : ¬ ia < 0) (c : nI n - 2 < ia) : zBody ia (nI n) = 0 ∨ ia = nI n - 1 ∨ zSix ib = 0 := by
  obtain ⟨j, hj, rfl⟩ := nI_of h0
  obtain ⟨e2, e1⟩ := nI_m2 n (by omega) h1
  rw [Int32.lt_iff_toInt_lt, e2, nI_toInt hj] at c
  rcases Nat.lt_or_ge j n with h | h
  · right; left
    apply Int32.toInt_inj.mp
    rw [e1, nI_toInt hj]
    omega
  · left
    unfold zBody
    rw [if_neg h0, if_pos (nI_le h hj)]
theorem cl_k (h1 : 1 ≤ n) (h4 : n ≤ 4) (h0 : ¬ ia < 0) (c : ¬ nI n - 2 < ia) : ∃ j, j + 1 < n ∧ ia = nI j ∧ ¬ zBody ia (nI n) = 0 ∧ ¬ ia = nI n - 1 := by
  obtain ⟨j, hj, rfl⟩ := nI_of h0
  obtain ⟨e2, e1⟩ := nI_m2 n (by omega) h1
  rw [Int32.lt_iff_toInt_lt, e2, nI_toInt hj] at c
  refine ⟨j, by omega, rfl, ?_, ?_⟩
  · unfold zBody
    rw [if_neg h0, if_neg (nI_ge (by omega) (by omega))]
    decide
  · intro q
    have := congrArg Int32.toInt q
    rw [e1, nI_toInt hj] at this
    omega
theorem cs_r (h : zBody ia (nI n) = 0 ∨ zUni ib = 0 ∨ zUni ic = 0) : ((-1 : Int32), px, pv) = zCset n ia ib ic px pv := by
  unfold zCset
  by_cases h1 : zBody ia (nI n) = 0
  · rw [if_pos h1]
  · rw [if_neg h1]
    by_cases h2 : zUni ib = 0
    · rw [if_pos h2]
    · rw [if_neg h2, if_neg (fun q => q ((h.resolve_left h1).resolve_left h2))]
theorem cs_d {j : Nat} (hj : j < 2 ^ 31) (h1 : ¬ zBody (nI j) (nI n) = 0) (h2 : ¬ zUni ib = 0) (h3 : ¬ zUni ic = 0) : ((0 : Int32), vp_updL px j ib.toInt64, vp_updL pv j ic.toInt64) = zCset n (nI j) ib ic px pv := by
  unfold zCset
  rw [if_neg h1, if_neg h2, if_pos h3, nI_clamp hj]
theorem cf_r (h : zBody ia (nI n) = 0 ∨ zUni ib = 0) : ((-1 : Int32), zf) = zCforce n ia ib zf := by
  unfold zCforce
  by_cases h1 : zBody ia (nI n) = 0
  · rw [if_pos h1]
  · rw [if_neg h1, if_neg (fun q => q (h.resolve_left h1))]
theorem cf_d {j : Nat} (hj : j < 2 ^ 31) (h1 : ¬ zBody (nI j) (nI n) = 0) (h2 : ¬ zUni ib = 0) : ((0 : Int32), upd zf j ib) = zCforce n (nI j) ib zf := by
  unfold zCforce
  rw [if_neg h1, if_pos h2, nI_clamp hj]
theorem cw_r (h : ia < 0 ∨ 4 ≤ ia ∨ zBody ib (nI n) = 0 ∨ zUni ic = 0 ∨ ie < (-1) ∨ ¬ ie ≤ 2) : ((-1 : Int32), wb, wl, wu, wa) = zCwatch n ia ib ic id ie wb wl wu wa := by
  unfold zCwatch
  by_cases h1 : ia < 0
  · rw [if_pos h1]
  · rw [if_neg h1]
    by_cases h2 : 4 ≤ ia
    · rw [if_pos h2]
    · rw [if_neg h2]
      by_cases h3 : zBody ib (nI n) = 0
      · rw [if_pos h3]
      · rw [if_neg h3]
        by_cases h4 : zUni ic = 0
        · rw [if_neg (fun q => q h4)]
        · rw [if_pos h4]
          by_cases h5 : ie < (-1)
          · rw [if_pos h5]
          · rw [if_neg h5, if_neg (((((h.resolve_left h1).resolve_left h2).resolve_left h3).resolve_left h4).resolve_left h5)]
theorem cw_d {j jb : Nat} (hj : j < 2 ^ 31) (hb : jb < 2 ^ 31) (h1 : ¬ nI j < 0) (h2 : ¬ 4 ≤ nI j) (h3 : ¬ zBody (nI jb) (nI n) = 0) (h4 : ¬ zUni ic = 0) (h5 : ¬ ie < (-1)) (h6 : ie ≤ 2) : ((0 : Int32), va_up wb j jb, vp_updL wl j ic.toInt64, upd wu j id, upd wa j ie) = zCwatch n (nI j) (nI jb) ic id ie wb wl wu wa := by
  unfold zCwatch
  rw [if_neg h1, if_neg h2, if_neg h3, if_pos h4, if_neg h5, if_pos h6, nI_clamp hj, nI_clamp hb]
theorem w4_3 (h : 3 < ia) : 4 ≤ ia := by
  simp only [Int32.lt_iff_toInt_lt, Int32.le_iff_toInt_le] at *
  have e3 : (3 : Int32).toInt = 3 := by decide
  have e4 : (4 : Int32).toInt = 4 := by decide
  omega
theorem w4_n (h : ¬ 3 < ia) : ¬ 4 ≤ ia := by
  simp only [Int32.lt_iff_toInt_lt, Int32.le_iff_toInt_le] at *
  have e3 : (3 : Int32).toInt = 3 := by decide
  have e4 : (4 : Int32).toInt = 4 := by decide
  omega
theorem set_p (h : ¬ ie < 0) : 1 = zSet ie := by
  unfold zSet
  rw [if_neg]
  intro q
  subst q
  exact h (by decide)
theorem set_m (h : ¬ ie < (-1)) (h2 : ie < 0) : 0 = zSet ie := by
  unfold zSet
  rw [if_pos]
  apply Int32.toInt_inj.mp
  simp only [Int32.lt_iff_toInt_lt] at *
  have e1 : (-1 : Int32).toInt = -1 := by decide
  have e0 : (0 : Int32).toInt = 0 := by decide
  omega
theorem ca_r (h : zBody ia (nI n) = 0) : (-1 : Int32) = zCat n ia px := (if_pos h).symm
theorem ca_d {j : Nat} {pp : Nat → Int64} (hj : j < n) (hn : n ≤ 4) (h : ¬ zBody (nI j) (nI n) = 0) (hp : ∀ q, q < n → pp q = px q) : (pp j).toInt32 = zCat n (nI j) px := by
  unfold zCat
  rw [if_neg h, nI_clamp (by omega), hp j hj]
theorem cp_r (h : zBody ia (nI n) = 0) : (-2000000000 : Int64) = zCpush n ia zk zc zq zf px pv := (if_pos h).symm
theorem cp_d {j : Nat} (hj : j < 2 ^ 31) (h : ¬ zBody (nI j) (nI n) = 0) : zPush n zk zc zq zf px pv j = zCpush n (nI j) zk zc zq zf px pv := by
  unfold zCpush
  rw [if_neg h, nI_clamp hj]
theorem ch_r (h : ia < 0 ∨ nI ct ≤ ia ∨ 40 ≤ ia) : (-2000000000 : Int32) = zChit ct ia ib f1 f2 f3 := by
  unfold zChit
  rw [if_neg]
  intro q
  apply q
  unfold zKeep
  by_cases h1 : ia < 0
  · rw [if_pos h1]
  · rw [if_neg h1]
    by_cases h2 : 40 ≤ ia
    · rw [if_pos h2]
    · rw [if_neg h2]
      rcases h with h | h | h
      · exact absurd h h1
      · rw [if_pos h]
      · exact absurd h h2
theorem ch_w (h : ib < 0 ∨ ¬ ib ≤ 2) : (-2000000000 : Int32) = zChit ct ia ib f1 f2 f3 := by
  unfold zChit
  have n0 : ¬ ib = 0 := by
    rintro rfl
    rcases h with h | h
    · exact absurd h (by decide)
    · exact h (by decide)
  have n1 : ¬ ib = 1 := by
    rintro rfl
    rcases h with h | h
    · exact absurd h (by decide)
    · exact h (by decide)
  have n2 : ¬ ib = 2 := by
    rintro rfl
    rcases h with h | h
    · exact absurd h (by decide)
    · exact h (by decide)
  by_cases hk : zKeep ia (nI ct) = 0
  · rw [if_neg (fun q => q hk)]
  · rw [if_pos hk, if_neg n0, if_neg n1, if_neg n2]
theorem ch_k (h1 : ¬ ia < 0) (h2 : ¬ nI ct ≤ ia) (h3 : ¬ 40 ≤ ia) : ¬ zKeep ia (nI ct) = 0 := by
  unfold zKeep
  rw [if_neg h1, if_neg h3, if_neg h2]
  decide
theorem ib_3 (h : ¬ ib < 0) (h2 : ib ≤ 2) : ib = nI 0 ∨ ib = nI 1 ∨ ib = nI 2 := by
  obtain ⟨j, hj, rfl⟩ := nI_of h
  have := nI_leM (b := 2) h2 hj (by omega)
  rcases (show j = 0 ∨ j = 1 ∨ j = 2 by omega) with rfl | rfl | rfl
  · exact Or.inl rfl
  · exact Or.inr (Or.inl rfl)
  · exact Or.inr (Or.inr rfl)
end CC
theorem zN_a {ia : Int32} (h : ¬ 1 ≤ ia) : 1 = nI (zN ia) := by
  rw [← zN_eq]
  have h4 : ia < 4 := by
    simp only [Int32.lt_iff_toInt_lt, Int32.le_iff_toInt_le] at *
    have e1 : (1 : Int32).toInt = 1 := by decide
    have e4 : (4 : Int32).toInt = 4 := by decide
    omega
  rw [if_pos h4, if_neg]
  simp only [Int32.lt_iff_toInt_lt, Int32.le_iff_toInt_le] at *
  omega
theorem zN_b {ia : Int32} (h : ¬ ia ≤ 4) : 4 = nI (zN ia) := by
  rw [← zN_eq]
  have h4 : ¬ ia < 4 := by
    simp only [Int32.lt_iff_toInt_lt, Int32.le_iff_toInt_le] at *
    omega
  rw [if_neg h4]
  decide
theorem zN_c {ia : Int32} (h : 1 ≤ ia) (h2 : ia ≤ 4) : ia = nI (zN ia) := by
  rw [← zN_eq]
  have e1 : (1 : Int32).toInt = 1 := by decide
  have e4 : (4 : Int32).toInt = 4 := by decide
  by_cases h4 : ia < 4
  · rw [if_pos h4]
    by_cases h1 : 1 < ia
    · rw [if_pos h1]
    · rw [if_neg h1]
      apply Int32.toInt_inj.mp
      simp only [Int32.lt_iff_toInt_lt, Int32.le_iff_toInt_le] at *
      omega
  · rw [if_neg h4, if_pos (by decide)]
    apply Int32.toInt_inj.mp
    simp only [Int32.lt_iff_toInt_lt, Int32.le_iff_toInt_le] at *
    omega
