/-! What the row of bodies computes, in the machine's own numbers. -/
def zRnd (am : Int64) (hv : Int32) : Int64 := (am + (((1 : Int64) <<< (hv.toInt64 &&& 63)) >>> ((1 : Int32).toInt64 &&& 63))) >>> (hv.toInt64 &&& 63)
def zNear (am : Int64) : Int32 := if am < (-1024000000) then 0 else if 1024000000 < am then 0 else 1
theorem zNear_01 (am : Int64) : zNear am = 0 ∨ zNear am = 1 := by
  unfold zNear
  split
  · exact Or.inl rfl
  · split
    · exact Or.inl rfl
    · exact Or.inr rfl
theorem zNear_1 {am : Int64} (h : ¬ zNear am = 0) : zNear am = 1 := (zNear_01 am).resolve_left h
def zP0 (zk zc zf : Nat → Int32) (px pv : Nat → Int64) (j : Nat) : Int64 := ((zf j).toInt64 <<< ((4 : Int32).toInt64 &&& 63)) - (zk j).toInt64 * px j - (zc j).toInt64 * pv j
def zP1 (n : Nat) (zk zc zq zf : Nat → Int32) (px pv : Nat → Int64) (j : Nat) : Int64 := if n ≤ j + 1 then zP0 zk zc zf px pv j else zP0 zk zc zf px pv j + (zq j).toInt64 * (px (j + 1) - px j)
def zPush (n : Nat) (zk zc zq zf : Nat → Int32) (px pv : Nat → Int64) (j : Nat) : Int64 := if j ≤ 0 then zP1 n zk zc zq zf px pv j else zP1 n zk zc zq zf px pv j - (zq (j - 1)).toInt64 * (px j - px (j - 1))
theorem zPush_v {n : Nat} {zk zc zq zf : Nat → Int32} {px pv pw : Nat → Int64} {j : Nat} (h : pv j = pw j) : zPush n zk zc zq zf px pv j = zPush n zk zc zq zf px pw j := by
  simp only [zPush, zP1, zP0, h]
def zMix (i : Nat) (f g : Nat → Int64) : Nat → Int64 := fun j => if j < i then f j else g j
theorem zMix_0 (f g : Nat → Int64) : zMix 0 f g = g := by funext j; simp [zMix]
theorem zMix_lt {i j : Nat} {f g : Nat → Int64} (h : j < i) : zMix i f g j = f j := by simp [zMix, h]
theorem zMix_ge {i j : Nat} {f g : Nat → Int64} (h : i ≤ j) : zMix i f g j = g j := by simp [zMix, Nat.not_lt.mpr h]
theorem zMix_put (i : Nat) (f g : Nat → Int64) : zMix (i + 1) f g = vp_updL (zMix i f g) i (f i) := by
  funext j
  unfold zMix vp_updL
  by_cases h : j = i
  · subst h; simp
  · by_cases h2 : j < i
    · simp [h, h2, Nat.lt_succ_of_lt h2]
    · have h3 : ¬ j < i + 1 := by omega
      simp [h, h2, h3]
def zAll (f : Nat → Int64) : Nat → Int32
  | 0 => 1
  | i + 1 => if zAll f i = 0 then 0 else zNear (f i)
theorem zAll_01 (f : Nat → Int64) (i : Nat) : zAll f i = 0 ∨ zAll f i = 1 := by
  cases i with
  | zero => exact Or.inr rfl
  | succ i =>
    unfold zAll
    split
    · exact Or.inl rfl
    · exact zNear_01 _
def zDv (n : Nat) (zk zc zq zf : Nat → Int32) (hv : Int32) (px pv : Nat → Int64) (j : Nat) : Int64 := pv j + zRnd (zPush n zk zc zq zf px pv j) (4 + hv + 1)
def zDx (hv : Int32) (px pv : Nat → Int64) (j : Nat) : Int64 := px j + zRnd (pv j) hv
/-- a step: whether it held, the places, the speeds -/
def zStep (n : Nat) (zk zc zq zf : Nat → Int32) (hv : Int32) (px pv : Nat → Int64) : Int32 × (Nat → Int64) × (Nat → Int64) :=
  if zAll (zDv n zk zc zq zf hv px pv) n = 0 then (0, px, zDv n zk zc zq zf hv px pv)
  else if zAll (zDx hv px (zDv n zk zc zq zf hv px pv)) n = 0 then (0, zDx hv px (zDv n zk zc zq zf hv px pv), zDv n zk zc zq zf hv px pv)
  else if zAll (zDv n zk zc zq zf hv (zDx hv px (zDv n zk zc zq zf hv px pv)) (zDv n zk zc zq zf hv px pv)) n = 0 then (0, zDx hv px (zDv n zk zc zq zf hv px pv), zDv n zk zc zq zf hv (zDx hv px (zDv n zk zc zq zf hv px pv)) (zDv n zk zc zq zf hv px pv))
  else (1, zDx hv px (zDv n zk zc zq zf hv px pv), zDv n zk zc zq zf hv (zDx hv px (zDv n zk zc zq zf hv px pv)) (zDv n zk zc zq zf hv px pv))
def zAbs (am : Int64) : Int64 := if 0 < am then am else -am
def zMax (am bm : Int64) : Int64 := if bm < am then am else bm
/-- the greatest difference, body by body -/
def zGd (px pv qx qv : Nat → Int64) : Nat → Int64
  | 0 => 0
  | i + 1 => zMax (zMax (zGd px pv qx qv i) (zAbs (px i - qx i))) (zAbs (pv i - qv i))
def zBody (ia n : Int32) : Int32 := if ia < 0 then 0 else if n ≤ ia then 0 else 1
def zSix (ia : Int32) : Int32 := if ia < 0 then 0 else if 64 < ia then 0 else 1
def zUni (ia : Int32) : Int32 := if ia < (-1000000000) then 0 else if 1000000000 < ia then 0 else 1
def zFits (tm tk lf : Int32) : Int32 := if lf < tk then 0 else if ¬ (tm &&& (tk - 1)) = 0 then 0 else 1
def zSet (wa : Int32) : Int32 := if wa = (-1) then 0 else 1
def zHit (wa : Int32) (wl : Int64) (wu : Int32) (fr tt : Int64) : Int32 := if ¬ zSet wa = 0 then (if wu = 0 then (if fr ≤ wl then 0 else if wl < tt then 0 else 1) else (if wl ≤ fr then 0 else if tt < wl then 0 else 1)) else 0
def zTill (wl fr tt : Int64) (tk : Int32) : Int32 := if ¬ zAbs (tt - fr) = 0 then ((tk.toInt64 * zAbs (wl - fr) + zAbs (tt - fr) - 1) / zAbs (tt - fr)).toInt32 else 0
def zKeep (ia ct : Int32) : Int32 := if ia < 0 then 0 else if 40 ≤ ia then 0 else if ct ≤ ia then 0 else 1
def zPut (ct : Nat) (f : Nat → Int32) (v : Int32) : Nat → Int32 := if 40 ≤ ct then f else upd f ct v
theorem zPut_ge {ct : Nat} {f : Nat → Int32} {v : Int32} (h : 40 ≤ ct) : zPut ct f v = f := if_pos h
theorem zPut_lt {ct : Nat} {f : Nat → Int32} {v : Int32} (h : ct < 40) : zPut ct f v = upd f ct v := if_neg (Nat.not_le.mpr h)
theorem cpy_lt {n j : Nat} {f g : Nat → Int64} (hj : j < n) (hn : n < 2 ^ 31) : va_cpy f g (0 : Int32).toNatClampNeg (0 : Int32).toNatClampNeg (nI n).toNatClampNeg j = f j := by
  rw [nI_clamp hn, show (0 : Int32).toNatClampNeg = 0 from rfl, pk_cpy_in (Nat.zero_le j) (by omega)]
  congr 1
  omega
theorem nI_le0M {j : Nat} (h : nI j ≤ 0) (hj : j < 2 ^ 31) : j ≤ 0 := nI_leM (b := 0) (by rw [nI_0]; exact h) hj (by omega)
theorem nI_nle0M {j : Nat} (h : ¬ nI j ≤ 0) (hj : j < 2 ^ 31) : 0 < j := nI_nleM (b := 0) (by rw [nI_0]; exact h) hj (by omega)
theorem zBody_ix {ia : Int32} {n : Nat} (h : ¬ zBody ia (nI n) = 0) (hn : n ≤ 4) : ∃ j : Nat, j < n ∧ ia = nI j := by
  unfold zBody at h
  split at h
  · exact absurd rfl h
  · rename_i h1
    split at h
    · exact absurd rfl h
    · rename_i h2
      obtain ⟨j, hj, rfl⟩ := nI_of h1
      exact ⟨j, nI_nleM h2 (by omega) hj, rfl⟩
def zCbody (n : Nat) (ia ib ic : Int32) (zk zc : Nat → Int32) : Int32 × (Nat → Int32) × (Nat → Int32) :=
  if zBody ia (nI n) = 0 then (-1, zk, zc) else if zSix ib = 0 then (-1, zk, zc) else if ¬ zSix ic = 0 then (0, upd zk ia.toNatClampNeg ib, upd zc ia.toNatClampNeg ic) else (-1, zk, zc)
def zClink (n : Nat) (ia ib : Int32) (zq : Nat → Int32) : Int32 × (Nat → Int32) :=
  if zBody ia (nI n) = 0 then (-1, zq) else if ia = nI n - 1 then (-1, zq) else if ¬ zSix ib = 0 then (0, upd zq ia.toNatClampNeg ib) else (-1, zq)
def zCset (n : Nat) (ia ib ic : Int32) (px pv : Nat → Int64) : Int32 × (Nat → Int64) × (Nat → Int64) :=
  if zBody ia (nI n) = 0 then (-1, px, pv) else if zUni ib = 0 then (-1, px, pv) else if ¬ zUni ic = 0 then (0, vp_updL px ia.toNatClampNeg ib.toInt64, vp_updL pv ia.toNatClampNeg ic.toInt64) else (-1, px, pv)
def zCforce (n : Nat) (ia ib : Int32) (zf : Nat → Int32) : Int32 × (Nat → Int32) :=
  if zBody ia (nI n) = 0 then (-1, zf) else if ¬ zUni ib = 0 then (0, upd zf ia.toNatClampNeg ib) else (-1, zf)
def zCtol (ia : Int32) (tol : Nat) : Int32 × Nat := if ia < 0 then (-1, tol) else if ia ≤ 1000000 then (0, ia.toNatClampNeg) else (-1, tol)
def zCat (n : Nat) (ia : Int32) (px : Nat → Int64) : Int32 := if zBody ia (nI n) = 0 then (-1) else (px ia.toNatClampNeg).toInt32
def zCpush (n : Nat) (ia : Int32) (zk zc zq zf : Nat → Int32) (px pv : Nat → Int64) : Int64 := if zBody ia (nI n) = 0 then (-2000000000) else zPush n zk zc zq zf px pv ia.toNatClampNeg
theorem zKeep_ix {ia : Int32} {ct : Nat} (h : ¬ zKeep ia (nI ct) = 0) (hc : ct < 2 ^ 30) : ∃ j : Nat, j < 40 ∧ j < ct ∧ ia = nI j := by
  unfold zKeep at h
  split at h
  · exact absurd rfl h
  · rename_i h1
    split at h
    · exact absurd rfl h
    · rename_i h2
      split at h
      · exact absurd rfl h
      · rename_i h3
        obtain ⟨j, hj, rfl⟩ := nI_of h1
        exact ⟨j, nI_nleM (a := 40) h2 (by omega) hj, nI_nleM h3 (by omega) hj, rfl⟩
/-- how many hits are kept of so many -/
def zKp (ct : Nat) : Nat := if 40 ≤ ct then 40 else ct
theorem zKp_ge {ct : Nat} (h : 40 ≤ ct) : zKp ct = 40 := if_pos h
theorem zKp_lt {ct : Nat} (h : ct < 40) : zKp ct = ct := if_neg (Nat.not_le.mpr h)
theorem kp_0 : nI (zKp 0) = 0 := rfl
theorem kp_ge {ct : Nat} (h : (40 : Int32) ≤ nI (zKp ct)) : 40 ≤ ct := by
  rcases Nat.lt_or_ge ct 40 with c | c
  · rw [zKp_lt c] at h
    exact nI_leM (a := 40) h (by omega) (by omega)
  · exact c
theorem kp_lt {ct : Nat} (h : ¬ (40 : Int32) ≤ nI (zKp ct)) : ct < 40 := by
  rcases Nat.lt_or_ge ct 40 with c | c
  · exact c
  · rw [zKp_ge c] at h
    exact absurd (by decide) h
theorem kp_id {ct : Nat} (h : ct < 40) : nI ct = nI (zKp ct) := by rw [zKp_lt h]
theorem kp_1 {ct : Nat} (h : ct < 40) : nI ct + 1 = nI (zKp (ct + 1)) := by
  rw [nI_1 ct]
  rcases Nat.lt_or_ge (ct + 1) 40 with c | c
  · rw [zKp_lt c]
  · rw [zKp_ge c, show ct + 1 = 40 by omega]
theorem kp_s {ct : Nat} (h : 40 ≤ ct) : nI (zKp (ct + 1)) = nI (zKp ct) := by rw [zKp_ge h, zKp_ge (Nat.le_succ_of_le h)]
theorem kp_k0 {ia : Int32} {ct : Nat} (h : ia < 0) : (0 : Int32) = zKeep ia (nI ct) := by rw [zKeep, if_pos h]
theorem kp_k1 {ia : Int32} {ct : Nat} (h1 : ¬ ia < 0) (h2 : nI (zKp ct) ≤ ia) : (0 : Int32) = zKeep ia (nI ct) := by
  unfold zKeep
  rw [if_neg h1]
  rcases Nat.lt_or_ge ct 40 with c | c
  · rw [zKp_lt c] at h2
    rw [if_pos h2]
    split <;> rfl
  · rw [zKp_ge c] at h2
    exact (if_pos h2).symm
theorem kp_k2 {ia : Int32} {ct : Nat} (h1 : ¬ ia < 0) (h2 : ¬ nI (zKp ct) ≤ ia) (hc : ct < 2 ^ 30) : (1 : Int32) = zKeep ia (nI ct) := by
  obtain ⟨j, hj, rfl⟩ := nI_of h1
  have h3 : j < zKp ct := nI_nleM h2 (by unfold zKp; split <;> omega) hj
  have h4 : j < 40 ∧ j < ct := by
    unfold zKp at h3
    split at h3 <;> omega
  unfold zKeep
  have g1 : ¬ (40 : Int32) ≤ nI j := fun q => absurd (nI_leM (a := 40) q (by omega) hj) (by omega)
  have g2 : ¬ nI ct ≤ nI j := fun q => absurd (nI_leM q (by omega) hj) (by omega)
  rw [if_neg h1, if_neg g1, if_neg g2]
def zChit (ct : Nat) (ia ib : Int32) (f1 f2 f3 : Nat → Int32) : Int32 :=
  if ¬ zKeep ia (nI ct) = 0 then (if ib = 0 then f1 ia.toNatClampNeg else if ib = 1 then f2 ia.toNatClampNeg else if ib = 2 then f3 ia.toNatClampNeg else (-2000000000)) else (-2000000000)
theorem zSet_01 (wa : Int32) : zSet wa = 0 ∨ zSet wa = 1 := by
  unfold zSet
  split
  · exact Or.inl rfl
  · exact Or.inr rfl
theorem zSet_1 {wa : Int32} (h : ¬ zSet wa = 0) : zSet wa = 1 := (zSet_01 wa).resolve_left h
def zCnt (wa : Nat → Int32) : Int32 := zSet (wa 0) + zSet (wa 1) + zSet (wa 2) + zSet (wa 3)
def zCcount (n tm fs sd rj ct : Nat) (er : Int64) (wa : Nat → Int32) (ia : Int32) : Int32 :=
  if ia = 0 then nI tm else if ia = 1 then nI fs else if ia = 2 then nI sd else if ia = 3 then nI rj else if ia = 4 then nI ct else if ia = 5 then er.toInt32 else if ia = 6 then nI n else if ia = 7 then zCnt wa else (-1)
theorem zW_ix {ia : Int32} (h : ¬ ia < 0) (h2 : ¬ 4 ≤ ia) : ∃ j : Nat, j < 4 ∧ ia = nI j := by
  obtain ⟨j, hj, rfl⟩ := nI_of h
  exact ⟨j, nI_nleM (a := 4) h2 (by omega) hj, rfl⟩
def zCwatch (n : Nat) (ia ib ic id ie : Int32) (wb : Nat → Nat) (wl : Nat → Int64) (wu wa : Nat → Int32) : Int32 × (Nat → Nat) × (Nat → Int64) × (Nat → Int32) × (Nat → Int32) :=
  if ia < 0 then (-1, wb, wl, wu, wa) else if 4 ≤ ia then (-1, wb, wl, wu, wa) else if zBody ib (nI n) = 0 then (-1, wb, wl, wu, wa) else if ¬ zUni ic = 0 then (if ie < (-1) then (-1, wb, wl, wu, wa) else if ie ≤ 2 then (0, va_up wb ia.toNatClampNeg ib.toNatClampNeg, vp_updL wl ia.toNatClampNeg ic.toInt64, upd wu ia.toNatClampNeg id, upd wa ia.toNatClampNeg ie) else (-1, wb, wl, wu, wa)) else (-1, wb, wl, wu, wa)
def zFit (tm lf : Int32) : Nat → Nat → Nat
  | 0, g => g
  | d + 1, g => if ¬ zFits tm (256 >>> (nI g &&& 31)) lf = 0 then g else zFit tm lf d (g + 1)
theorem zFit_8 {tm lf : Int32} {g : Nat} (h : 8 ≤ g) (h2 : g ≤ 8) : zFit tm lf (8 - g) g = g := by
  obtain rfl : g = 8 := by omega
  rfl
theorem zFit_stop {tm lf : Int32} {g : Nat} (h : g < 8) (c : ¬ zFits tm (256 >>> (nI g &&& 31)) lf = 0) : zFit tm lf (8 - g) g = g := by
  obtain ⟨d, hd⟩ : ∃ d, 8 - g = d + 1 := ⟨7 - g, by omega⟩
  rw [hd, zFit, if_pos c]
theorem zFit_go {tm lf : Int32} {g : Nat} (h : g < 8) (c : zFits tm (256 >>> (nI g &&& 31)) lf = 0) : zFit tm lf (8 - g) g = zFit tm lf (8 - (g + 1)) (g + 1) := by
  obtain ⟨d, hd⟩ : ∃ d, 8 - g = d + 1 := ⟨7 - g, by omega⟩
  have hd2 : 8 - (g + 1) = d := by omega
  rw [hd, hd2, zFit, if_neg (fun q => q c)]
/-- a try at fineness fs: the error and the outcome of the two halves, or nothing -/
def zTry (n : Nat) (zk zc zq zf : Nat → Int32) (fs : Nat) (px pv : Nat → Int64) : Option (Int64 × (Nat → Int64) × (Nat → Int64)) :=
  if (zStep n zk zc zq zf (nI fs) px pv).1 = 0 then none
  else if (zStep n zk zc zq zf (nI (fs + 1)) px pv).1 = 0 then none
  else if (zStep n zk zc zq zf (nI (fs + 1)) (zStep n zk zc zq zf (nI (fs + 1)) px pv).2.1 (zStep n zk zc zq zf (nI (fs + 1)) px pv).2.2).1 = 0 then none
  else some (zGd (zStep n zk zc zq zf (nI fs) px pv).2.1 (zStep n zk zc zq zf (nI fs) px pv).2.2 (zStep n zk zc zq zf (nI (fs + 1)) (zStep n zk zc zq zf (nI (fs + 1)) px pv).2.1 (zStep n zk zc zq zf (nI (fs + 1)) px pv).2.2).2.1 (zStep n zk zc zq zf (nI (fs + 1)) (zStep n zk zc zq zf (nI (fs + 1)) px pv).2.1 (zStep n zk zc zq zf (nI (fs + 1)) px pv).2.2).2.2 n,
    (zStep n zk zc zq zf (nI (fs + 1)) (zStep n zk zc zq zf (nI (fs + 1)) px pv).2.1 (zStep n zk zc zq zf (nI (fs + 1)) px pv).2.2).2)
section ZT
variable {n : Nat} {zk zc zq zf : Nat → Int32} {fs : Nat} {px pv x1 v1 x2 v2 x3 v3 : Nat → Int64} {r1 r2 r3 : Int32}
theorem zTry_1 (t1 : (r1, x1, v1) = zStep n zk zc zq zf (nI fs) px pv) (c1 : r1 = 0) : zTry n zk zc zq zf fs px pv = none := by
  unfold zTry; rw [← t1]; exact if_pos c1
theorem zTry_2 (t1 : (r1, x1, v1) = zStep n zk zc zq zf (nI fs) px pv) (c1 : ¬ r1 = 0) (t2 : (r2, x2, v2) = zStep n zk zc zq zf (nI (fs + 1)) px pv) (c2 : r2 = 0) : zTry n zk zc zq zf fs px pv = none := by
  unfold zTry; rw [← t1, ← t2]; exact (if_neg c1).trans (if_pos c2)
theorem zTry_3 (t1 : (r1, x1, v1) = zStep n zk zc zq zf (nI fs) px pv) (c1 : ¬ r1 = 0) (t2 : (r2, x2, v2) = zStep n zk zc zq zf (nI (fs + 1)) px pv) (c2 : ¬ r2 = 0) (t3 : (r3, x3, v3) = zStep n zk zc zq zf (nI (fs + 1)) x2 v2) (c3 : r3 = 0) : zTry n zk zc zq zf fs px pv = none := by
  unfold zTry; rw [← t1, ← t2]; dsimp only; rw [← t3]; exact (if_neg c1).trans ((if_neg c2).trans (if_pos c3))
theorem zTry_4 (t1 : (r1, x1, v1) = zStep n zk zc zq zf (nI fs) px pv) (c1 : ¬ r1 = 0) (t2 : (r2, x2, v2) = zStep n zk zc zq zf (nI (fs + 1)) px pv) (c2 : ¬ r2 = 0) (t3 : (r3, x3, v3) = zStep n zk zc zq zf (nI (fs + 1)) x2 v2) (c3 : ¬ r3 = 0) : zTry n zk zc zq zf fs px pv = some (zGd x1 v1 x3 v3 n, x3, v3) := by
  unfold zTry; rw [← t1, ← t2]; dsimp only; rw [← t3]; exact (if_neg c1).trans ((if_neg c2).trans (if_neg c3))
end ZT
def zGood (n : Nat) (zk zc zq zf : Nat → Int32) (px pv : Nat → Int64) (tol : Nat) : Nat → Nat → Option (Int64 × (Nat → Int64) × (Nat → Int64)) × Nat × Nat
  | 0, g => (zTry n zk zc zq zf g px pv, g, 0)
  | d + 1, g => match zTry n zk zc zq zf g px pv with
    | none => (none, g, 0)
    | some t => if t.1 ≤ (nI tol).toInt64 then (some t, g, 0) else ((zGood n zk zc zq zf px pv tol d (g + 1)).1, (zGood n zk zc zq zf px pv tol d (g + 1)).2.1, (zGood n zk zc zq zf px pv tol d (g + 1)).2.2 + 1)
/-- what the tries come to, with the count of those rejected before -/
def zGr (n : Nat) (zk zc zq zf : Nat → Int32) (px pv : Nat → Int64) (tol g j : Nat) : Option (Int64 × (Nat → Int64) × (Nat → Int64)) × Nat × Nat := ((zGood n zk zc zq zf px pv tol (8 - g) g).1, (zGood n zk zc zq zf px pv tol (8 - g) g).2.1, j + (zGood n zk zc zq zf px pv tol (8 - g) g).2.2)
section ZG
variable {n : Nat} {zk zc zq zf : Nat → Int32} {fs tol g j rj : Nat} {px pv bx bv : Nat → Int64} {em : Int64}
theorem zGood_le (hg : (zTry n zk zc zq zf g px pv = none ∧ em = (-1)) ∨ zTry n zk zc zq zf g px pv = some (em, bx, bv)) (c : em ≤ (nI tol).toInt64) : zGood n zk zc zq zf px pv tol (8 - g) g = (zTry n zk zc zq zf g px pv, g, 0) := by
  cases h8 : 8 - g with
  | zero => rfl
  | succ d =>
    unfold zGood
    rcases hg with ⟨h, -⟩ | h
    · rw [h]
    · rw [h]; exact if_pos c
theorem zGood_8 (hg : (zTry n zk zc zq zf g px pv = none ∧ em = (-1)) ∨ zTry n zk zc zq zf g px pv = some (em, bx, bv)) (c : 8 ≤ g) (c2 : g ≤ 8) : zGood n zk zc zq zf px pv tol (8 - g) g = (zTry n zk zc zq zf g px pv, g, 0) := by
  obtain rfl : g = 8 := by omega
  rfl
theorem zGood_end (hz : zGr n zk zc zq zf px pv tol fs rj = zGr n zk zc zq zf px pv tol g j) (hs : zGood n zk zc zq zf px pv tol (8 - g) g = (zTry n zk zc zq zf g px pv, g, 0)) (hg : (zTry n zk zc zq zf g px pv = none ∧ em = (-1)) ∨ zTry n zk zc zq zf g px pv = some (em, bx, bv)) :
    (((zGood n zk zc zq zf px pv tol (8 - fs) fs).1 = none ∧ em = (-1)) ∨ (zGood n zk zc zq zf px pv tol (8 - fs) fs).1 = some (em, bx, bv)) ∧ g = (zGood n zk zc zq zf px pv tol (8 - fs) fs).2.1 ∧ j = rj + (zGood n zk zc zq zf px pv tol (8 - fs) fs).2.2 := by
  unfold zGr at hz
  rw [hs] at hz
  have h1 := congrArg Prod.fst hz
  have h2 := congrArg (fun q => q.2.1) hz
  have h3 := congrArg (fun q => q.2.2) hz
  dsimp only at h1 h2 h3
  rw [h1, h2, h3]
  exact ⟨hg, rfl, by omega⟩
theorem zGood_go (hg : (zTry n zk zc zq zf g px pv = none ∧ em = (-1)) ∨ zTry n zk zc zq zf g px pv = some (em, bx, bv)) (c : ¬ em ≤ (nI tol).toInt64) (c2 : g < 8) (ht : tol < 2 ^ 31) : zGr n zk zc zq zf px pv tol g j = zGr n zk zc zq zf px pv tol (g + 1) (j + 1) := by
  rcases hg with ⟨-, h⟩ | h
  · exfalso
    apply c
    rw [h, nI_l ht, Int64.le_iff_toInt_le, lN_toInt ht]
    have : ((-1 : Int64)).toInt = -1 := by decide
    omega
  · obtain ⟨d, hd⟩ : ∃ d, 8 - g = d + 1 := ⟨7 - g, by omega⟩
    have hd2 : 8 - (g + 1) = d := by omega
    have e : zGood n zk zc zq zf px pv tol (d + 1) g = ((zGood n zk zc zq zf px pv tol d (g + 1)).1, (zGood n zk zc zq zf px pv tol d (g + 1)).2.1, (zGood n zk zc zq zf px pv tol d (g + 1)).2.2 + 1) := by
      rw [zGood, h]; exact if_neg c
    unfold zGr
    rw [hd, hd2, e]
    dsimp only
    rw [show j + ((zGood n zk zc zq zf px pv tol d (g + 1)).2.2 + 1) = j + 1 + (zGood n zk zc zq zf px pv tol d (g + 1)).2.2 by omega]
end ZG
def zLess (fs : Nat) (em : Int64) (tol : Nat) : Nat := if fs ≤ 0 then fs else if (nI tol).toInt64 < em * 8 then fs else fs - 1
def zTurn (wa : Int32) (qv : Nat → Int64) (i : Nat) : Nat → Int64 := if ¬ wa = 1 then qv else vp_updL qv i (-(qv i))
def zSt (st wa : Int32) : Int32 := if ¬ st = 0 then 1 else if ¬ wa = 2 then 0 else 1
theorem zTurn_no {wa : Int32} {qv : Nat → Int64} {i : Nat} (c : ¬ wa = 1) : qv = zTurn wa qv i := (if_pos c).symm
theorem zTurn_yes {wa : Int32} {qv : Nat → Int64} {i : Nat} (c : wa = 1) : vp_updL qv i (-(qv i)) = zTurn wa qv i := (if_neg (fun q => q c)).symm
theorem zSt_y {st wa : Int32} (c : ¬ st = 0) : 1 = zSt st wa := (if_pos c).symm
theorem zSt_n {st wa : Int32} (c : st = 0) (c2 : ¬ wa = 2) : 0 = zSt st wa := ((if_neg (fun q => q c)).trans (if_pos c2)).symm
theorem zSt_2 {st wa : Int32} (c : st = 0) (c2 : wa = 2) : 1 = zSt st wa := ((if_neg (fun q => q c)).trans (if_neg (fun q => q c2))).symm
theorem zSt_01 (st wa : Int32) : zSt st wa = 0 ∨ zSt st wa = 1 := by
  unfold zSt
  split
  · exact Or.inr rfl
  · split
    · exact Or.inl rfl
    · exact Or.inr rfl
section ZL
variable (wb : Nat → Nat) (wl : Nat → Int64) (wu wa : Nat → Int32) (bx px : Nat → Int64) (tm tk : Int32)
def zW1 (w : Nat) (u : Int32 × (Nat → Int64) × Nat × (Nat → Int32) × (Nat → Int32) × (Nat → Int32)) : Int32 × (Nat → Int64) × Nat × (Nat → Int32) × (Nat → Int32) × (Nat → Int32) :=
  if ¬ zHit (wa w) (wl w) (wu w) (bx (wb w)) (px (wb w)) = 0 then (zSt u.1 (wa w), zTurn (wa w) u.2.1 (wb w), u.2.2.1 + 1, zPut u.2.2.1 u.2.2.2.1 (nI w), zPut u.2.2.1 u.2.2.2.2.1 (tm - tk + zTill (wl w) (bx (wb w)) (px (wb w)) tk), zPut u.2.2.1 u.2.2.2.2.2 (u.2.1 (wb w)).toInt32) else u
def zLook : Nat → (Int32 × (Nat → Int64) × Nat × (Nat → Int32) × (Nat → Int32) × (Nat → Int32)) → Int32 × (Nat → Int64) × Nat × (Nat → Int32) × (Nat → Int32) × (Nat → Int32)
  | 0, u => u
  | w + 1, u => zW1 wb wl wu wa bx px tm tk w (zLook w u)
variable {wb wl wu wa bx px tm tk}
theorem zLook_no {w : Nat} {u v : Int32 × (Nat → Int64) × Nat × (Nat → Int32) × (Nat → Int32) × (Nat → Int32)} (hz : v = zLook wb wl wu wa bx px tm tk w u) (c : zHit (wa w) (wl w) (wu w) (bx (wb w)) (px (wb w)) = 0) : v = zLook wb wl wu wa bx px tm tk (w + 1) u := by
  rw [zLook, ← hz, zW1, if_neg (fun q => q c)]
theorem zLook_hit {w : Nat} {u : Int32 × (Nat → Int64) × Nat × (Nat → Int32) × (Nat → Int32) × (Nat → Int32)} {st st2 : Int32} {qv qw : Nat → Int64} {qc : Nat} {q1 q2 q3 : Nat → Int32} (hz : (st, qv, qc, q1, q2, q3) = zLook wb wl wu wa bx px tm tk w u) (c : ¬ zHit (wa w) (wl w) (wu w) (bx (wb w)) (px (wb w)) = 0) (h1 : qw = zTurn (wa w) qv (wb w)) (h2 : st2 = zSt st (wa w)) :
    (st2, qw, qc + 1, zPut qc q1 (nI w), zPut qc q2 (tm - tk + zTill (wl w) (bx (wb w)) (px (wb w)) tk), zPut qc q3 (qv (wb w)).toInt32) = zLook wb wl wu wa bx px tm tk (w + 1) u := by
  rw [zLook, ← hz, zW1, if_pos c, h1, h2]
theorem zLook_01' (w : Nat) (u : Int32 × (Nat → Int64) × Nat × (Nat → Int32) × (Nat → Int32) × (Nat → Int32)) (h : u.1 = 0) : (zLook wb wl wu wa bx px tm tk w u).1 = 0 ∨ (zLook wb wl wu wa bx px tm tk w u).1 = 1 := by
  induction w with
  | zero => exact Or.inl h
  | succ w ih =>
    rw [zLook, zW1]
    split
    · exact zSt_01 _ _
    · exact ih
theorem zLook_01 {w : Nat} {st : Int32} {qv pv : Nat → Int64} {qc ct : Nat} {q1 q2 q3 f1 f2 f3 : Nat → Int32} (hz : (st, qv, qc, q1, q2, q3) = zLook wb wl wu wa bx px tm tk w (0, pv, ct, f1, f2, f3)) : st = 0 ∨ st = 1 := by
  have h := zLook_01' (wb := wb) (wl := wl) (wu := wu) (wa := wa) (bx := bx) (px := px) (tm := tm) (tk := tk) w (0, pv, ct, f1, f2, f3) rfl
  rw [← hz] at h
  exact h
end ZL
def zN (ia : Int32) : Nat := if 1 < (if ia < 4 then ia else 4) then (if ia < 4 then ia else 4).toNatClampNeg else 1
theorem zN_cases (ia : Int32) : ((if 1 < (if ia < 4 then ia else 4) then (if ia < 4 then ia else 4) else 1) = nI (zN ia)) ∧ 1 ≤ zN ia ∧ zN ia ≤ 4 := by
  unfold zN
  by_cases h4 : ia < 4
  · rw [if_pos h4]
    by_cases h1 : 1 < ia
    · rw [if_pos h1, if_pos h1]
      have hp : ¬ ia < 0 := by simp only [Int32.lt_iff_toInt_lt] at *; have e1 : (1 : Int32).toInt = 1 := by decide
                               have e0 : (0 : Int32).toInt = 0 := by decide
                               omega
      obtain ⟨j, hj, rfl⟩ := nI_of hp
      have a := nI_ltM (b := 4) h4 hj (by omega)
      have b := nI_ltM (a := 1) h1 (by omega) hj
      rw [nI_clamp hj]
      exact ⟨rfl, by omega, by omega⟩
    · rw [if_neg h1, if_neg h1]; exact ⟨rfl, by omega, by omega⟩
  · rw [if_neg h4]; decide
theorem zN_eq (ia : Int32) : (if 1 < (if ia < 4 then ia else 4) then (if ia < 4 then ia else 4) else 1) = nI (zN ia) := (zN_cases ia).1
theorem zN_4 (ia : Int32) : zN ia ≤ 4 := (zN_cases ia).2.2
theorem zN_1 (ia : Int32) : 1 ≤ zN ia := (zN_cases ia).2.1
def zTk (g : Nat) : Nat := 256 / 2 ^ g
theorem zTk_eq {g : Nat} (h : g ≤ 8) : (256 : Int32) >>> (nI g &&& 31) = nI (zTk g) := by
  rcases (show g = 0 ∨ g = 1 ∨ g = 2 ∨ g = 3 ∨ g = 4 ∨ g = 5 ∨ g = 6 ∨ g = 7 ∨ g = 8 by omega) with rfl | rfl | rfl | rfl | rfl | rfl | rfl | rfl | rfl <;> decide
theorem zTk_le {g : Nat} : zTk g ≤ 256 := Nat.div_le_self _ _
theorem zFit_le {tm lf : Int32} : ∀ (d g : Nat), zFit tm lf d g ≤ g + d := by
  intro d
  induction d with
  | zero => intro g; exact Nat.le_refl _
  | succ d ih =>
    intro g
    rw [zFit]
    split
    · omega
    · have := ih (g + 1); omega
theorem zFit_le8 {tm lf : Int32} {g : Nat} (h : g ≤ 8) : zFit tm lf (8 - g) g ≤ 8 := by have := zFit_le (tm := tm) (lf := lf) (8 - g) g; omega
theorem zFit_ge {tm lf : Int32} : ∀ (d g : Nat), g ≤ zFit tm lf d g := by
  intro d
  induction d with
  | zero => intro g; exact Nat.le_refl _
  | succ d ih =>
    intro g
    rw [zFit]
    split
    · omega
    · have := ih (g + 1); omega
theorem zLess_le {fs tol : Nat} {em : Int64} : zLess fs em tol ≤ fs := by
  unfold zLess
  split
  · omega
  · split <;> omega
theorem zMax_ge {a b : Int64} : a ≤ zMax a b := by
  unfold zMax; split
  · simp [Int64.le_iff_toInt_le]
  · rename_i h; simp only [Int64.lt_iff_toInt_lt, Int64.le_iff_toInt_le] at *; omega
theorem zGd_nn (px pv qx qv : Nat → Int64) (i : Nat) : 0 ≤ zGd px pv qx qv i := by
  induction i with
  | zero => exact (by decide : (0 : Int64) ≤ 0)
  | succ i ih =>
    rw [zGd]
    have h1 := @zMax_ge (zGd px pv qx qv i) (zAbs (px i - qx i))
    have h2 := @zMax_ge (zMax (zGd px pv qx qv i) (zAbs (px i - qx i))) (zAbs (pv i - qv i))
    simp only [Int64.le_iff_toInt_le] at *
    omega
theorem zTry_nn {n : Nat} {zk zc zq zf : Nat → Int32} {fs : Nat} {px pv : Nat → Int64} {t : Int64 × (Nat → Int64) × (Nat → Int64)} (h : zTry n zk zc zq zf fs px pv = some t) : 0 ≤ t.1 := by
  unfold zTry at h
  split at h
  · cases h
  · split at h
    · cases h
    · split at h
      · cases h
      · cases h
        exact zGd_nn _ _ _ _ _
theorem zGood_nn {n : Nat} {zk zc zq zf : Nat → Int32} {px pv : Nat → Int64} {tol : Nat} {t : Int64 × (Nat → Int64) × (Nat → Int64)} : ∀ (d g : Nat), (zGood n zk zc zq zf px pv tol d g).1 = some t → 0 ≤ t.1 := by
  intro d
  induction d with
  | zero => intro g h; exact zTry_nn h
  | succ d ih =>
    intro g h
    unfold zGood at h
    split at h
    · cases h
    · rename_i t' ht
      split at h
      · have h : some t' = some t := h
        cases h; exact zTry_nn ht
      · exact ih (g + 1) h
theorem zGood_le8 {n : Nat} {zk zc zq zf : Nat → Int32} {px pv : Nat → Int64} {tol : Nat} : ∀ (d g : Nat), (zGood n zk zc zq zf px pv tol d g).2.1 ≤ g + d := by
  intro d
  induction d with
  | zero => intro g; exact Nat.le_refl _
  | succ d ih =>
    intro g
    unfold zGood
    split
    · exact Nat.le_add_right _ _
    · split
      · exact Nat.le_add_right _ _
      · have := ih (g + 1)
        show (zGood n zk zc zq zf px pv tol d (g + 1)).2.1 ≤ _
        omega
abbrev zU : Type := (Nat → Int64) × (Nat → Int64) × Nat × Nat × Nat × Nat × Int64 × Nat × (Nat → Int32) × (Nat → Int32) × (Nat → Int32)
section ZA
variable (n : Nat) (zk zc zq zf : Nat → Int32) (tol : Nat) (wb : Nat → Nat) (wl : Nat → Int64) (wu wa : Nat → Int32)
/-- what a good try leaves, and the watches' turn -/
def zTake (gone : Nat) (px : Nat → Int64) (tm sd rj ct : Nat) (f1 f2 f3 : Nat → Int32) (s2 r2 : Nat) (t : Int64 × (Nat → Int64) × (Nat → Int64)) : Int32 × Nat × zU :=
  ((zLook wb wl wu wa px t.2.1 (nI (tm + zTk s2)) (nI (zTk s2)) 4 (0, t.2.2, ct, f1, f2, f3)).1, gone + zTk s2, t.2.1, (zLook wb wl wu wa px t.2.1 (nI (tm + zTk s2)) (nI (zTk s2)) 4 (0, t.2.2, ct, f1, f2, f3)).2.1, tm + zTk s2, zLess s2 t.1 tol, sd + 1, rj + r2, t.1, (zLook wb wl wu wa px t.2.1 (nI (tm + zTk s2)) (nI (zTk s2)) 4 (0, t.2.2, ct, f1, f2, f3)).2.2)
/-- a stride: nothing (and what stays), or what was taken -/
def zStride (T gone : Nat) (u : zU) : Option (Int32 × Nat × zU) × zU :=
  match u with
  | (px, pv, tm, fs, sd, rj, er, ct, f1, f2, f3) =>
    match zGood n zk zc zq zf px pv tol (8 - zFit (nI tm) (nI (T - gone)) (8 - fs) fs) (zFit (nI tm) (nI (T - gone)) (8 - fs) fs) with
    | (none, s2, r2) => (none, px, pv, tm, s2, sd, rj + r2, er, ct, f1, f2, f3)
    | (some t, s2, r2) => (some (zTake tol wb wl wu wa gone px tm sd rj ct f1 f2 f3 s2 r2 t), u)
def zAdvL (T : Nat) : Nat → Nat → zU → Int32 × zU
  | 0, gone, u => (nI gone, u)
  | d + 1, gone, u => if T ≤ gone then (nI gone, u) else
    match zStride n zk zc zq zf tol wb wl wu wa T gone u with
    | (none, v) => (-2, v)
    | (some (st, g2, v), _) => if ¬ st = 0 then (nI g2, v) else zAdvL T d g2 v
def zAdvC (T d gone : Nat) (st : Int32) (u : zU) : Int32 × zU := if ¬ st = 0 then (nI gone, u) else zAdvL n zk zc zq zf tol wb wl wu wa T d gone u
def zAdv (ia : Int32) (u : zU) : Int32 × zU := if ia < 1 then (-1, u) else if ia ≤ 2048 then zAdvL n zk zc zq zf tol wb wl wu wa ia.toNatClampNeg ia.toNatClampNeg 0 u else (-1, u)
end ZA
theorem zT_ix {ia : Int32} (h : ¬ ia < 1) (h2 : ia ≤ 2048) : ∃ T : Nat, 1 ≤ T ∧ T ≤ 2048 ∧ ia = nI T := by
  have hp : ¬ ia < 0 := by
    simp only [Int32.lt_iff_toInt_lt] at *
    have e1 : (1 : Int32).toInt = 1 := by decide
    have e0 : (0 : Int32).toInt = 0 := by decide
    omega
  obtain ⟨j, hj, rfl⟩ := nI_of hp
  exact ⟨j, nI_nltM (b := 1) h hj (by omega), nI_leM (b := 2048) h2 hj (by omega), rfl⟩
section ZB
variable {n : Nat} {zk zc zq zf : Nat → Int32} {tol : Nat} {wb : Nat → Nat} {wl : Nat → Int64} {wu wa : Nat → Int32} {T d gone gm : Nat} {st : Int32} {px pv fx fv gv : Nat → Int64} {tm fs sd rj ct s1 s2 r2 gs gct : Nat} {er em : Int64} {f1 f2 f3 g1 g2 g3 : Nat → Int32} {X : Int32 × zU}
theorem zA_stop (u : zU) (hz : X = zAdvC n zk zc zq zf tol wb wl wu wa T d gone st u) (c : ¬ st = 0) : (nI gone, u) = X := by rw [hz, zAdvC, if_pos c]
theorem zA_0 (u : zU) (hz : X = zAdvC n zk zc zq zf tol wb wl wu wa T 0 gone st u) : (nI gone, u) = X := by
  rw [hz, zAdvC]; split <;> rfl
theorem zA_T (u : zU) (hz : X = zAdvC n zk zc zq zf tol wb wl wu wa T d gone st u) (c : T ≤ gone) : (nI gone, u) = X := by
  rw [hz, zAdvC]
  split
  · rfl
  · cases d with
    | zero => rfl
    | succ d => rw [zAdvL, if_pos c]
theorem zA_none (hz : X = zAdvC n zk zc zq zf tol wb wl wu wa T (d + 1) gone st (px, pv, tm, fs, sd, rj, er, ct, f1, f2, f3)) (c : ¬ T ≤ gone) (c0 : st = 0) (h1 : s1 = zFit (nI tm) (nI (T - gone)) (8 - fs) fs) (h2 : (zGood n zk zc zq zf px pv tol (8 - s1) s1).1 = none) (h3 : s2 = (zGood n zk zc zq zf px pv tol (8 - s1) s1).2.1) (h4 : gm = rj + (zGood n zk zc zq zf px pv tol (8 - s1) s1).2.2) :
    ((-2 : Int32), px, pv, tm, s2, sd, gm, er, ct, f1, f2, f3) = X := by
  subst h1
  have e : zGood n zk zc zq zf px pv tol (8 - zFit (nI tm) (nI (T - gone)) (8 - fs) fs) (zFit (nI tm) (nI (T - gone)) (8 - fs) fs) = (none, s2, (zGood n zk zc zq zf px pv tol (8 - zFit (nI tm) (nI (T - gone)) (8 - fs) fs) (zFit (nI tm) (nI (T - gone)) (8 - fs) fs)).2.2) := by
    rw [h3]; exact Prod.ext h2 rfl
  rw [hz, zAdvC, if_neg (fun q => q c0), zAdvL, if_neg c, zStride, e, h4]
theorem zA_some (hz : X = zAdvC n zk zc zq zf tol wb wl wu wa T (d + 1) gone st (px, pv, tm, fs, sd, rj, er, ct, f1, f2, f3)) (c : ¬ T ≤ gone) (c0 : st = 0) (h1 : s1 = zFit (nI tm) (nI (T - gone)) (8 - fs) fs) (h2 : (zGood n zk zc zq zf px pv tol (8 - s1) s1).1 = some (em, fx, fv)) (h3 : s2 = (zGood n zk zc zq zf px pv tol (8 - s1) s1).2.1) (h4 : gm = rj + (zGood n zk zc zq zf px pv tol (8 - s1) s1).2.2)
    {st2 : Int32} (h5 : gs = zLess s2 em tol) (h6 : (st2, gv, gct, g1, g2, g3) = zLook wb wl wu wa px fx (nI (tm + zTk s2)) (nI (zTk s2)) 4 (0, fv, ct, f1, f2, f3)) :
    X = zAdvC n zk zc zq zf tol wb wl wu wa T d (gone + zTk s2) st2 (fx, gv, tm + zTk s2, gs, sd + 1, gm, em, gct, g1, g2, g3) := by
  subst h1
  have e : zGood n zk zc zq zf px pv tol (8 - zFit (nI tm) (nI (T - gone)) (8 - fs) fs) (zFit (nI tm) (nI (T - gone)) (8 - fs) fs) = (some (em, fx, fv), s2, (zGood n zk zc zq zf px pv tol (8 - zFit (nI tm) (nI (T - gone)) (8 - fs) fs) (zFit (nI tm) (nI (T - gone)) (8 - fs) fs)).2.2) := by
    rw [h3]; exact Prod.ext h2 rfl
  rw [hz, zAdvC, if_neg (fun q => q c0), zAdvL, if_neg c, zStride, e]
  dsimp only [zTake]
  rw [← h6, h4, h5, zAdvC]
end ZB
theorem zA_fin {n : Nat} {zk zc zq zf : Nat → Int32} {tol : Nat} {wb : Nat → Nat} {wl : Nat → Int64} {wu wa : Nat → Int32} {T : Nat} {u : zU} {X : Int32 × zU} (c2 : ¬ nI T < 1) (c9 : nI T ≤ 2048) (hT : T ≤ 2048) (h : X = zAdvL n zk zc zq zf tol wb wl wu wa T T 0 u) : X = zAdv n zk zc zq zf tol wb wl wu wa (nI T) u := by
  rw [zAdv, if_neg c2, if_pos c9, nI_clamp (by omega)]; exact h
theorem zG_none {n : Nat} {zk zc zq zf : Nat → Int32} {px pv fx fv : Nat → Int64} {tol d g : Nat} {r : Int64} (t : ((zGood n zk zc zq zf px pv tol d g).1 = none ∧ r = (-1)) ∨ (zGood n zk zc zq zf px pv tol d g).1 = some (r, fx, fv)) (c : r = (-1)) : (zGood n zk zc zq zf px pv tol d g).1 = none := by
  rcases t with ⟨h, -⟩ | h
  · exact h
  · have := zGood_nn d g h
    rw [c] at this
    exact absurd this (show ¬ (0 : Int64) ≤ -1 by decide)
theorem zG_some {n : Nat} {zk zc zq zf : Nat → Int32} {px pv fx fv : Nat → Int64} {tol d g : Nat} {r : Int64} (t : ((zGood n zk zc zq zf px pv tol d g).1 = none ∧ r = (-1)) ∨ (zGood n zk zc zq zf px pv tol d g).1 = some (r, fx, fv)) (c : ¬ r = (-1)) : (zGood n zk zc zq zf px pv tol d g).1 = some (r, fx, fv) := by
  rcases t with ⟨-, h⟩ | h
  · exact absurd h c
  · exact h
theorem zLook_ct {wb : Nat → Nat} {wl : Nat → Int64} {wu wa : Nat → Int32} {bx px : Nat → Int64} {tm tk : Int32} (u : Int32 × (Nat → Int64) × Nat × (Nat → Int32) × (Nat → Int32) × (Nat → Int32)) (w : Nat) : (zLook wb wl wu wa bx px tm tk w u).2.2.1 ≤ u.2.2.1 + w := by
  induction w with
  | zero => exact Nat.le_refl _
  | succ w ih =>
    rw [zLook, zW1]
    split
    · show (zLook wb wl wu wa bx px tm tk w u).2.2.1 + 1 ≤ _; omega
    · omega
theorem zLook_ct4 {wb : Nat → Nat} {wl : Nat → Int64} {wu wa : Nat → Int32} {bx px : Nat → Int64} {tm tk : Int32} {st : Int32} {qv pv : Nat → Int64} {qc ct : Nat} {q1 q2 q3 f1 f2 f3 : Nat → Int32} (hz : (st, qv, qc, q1, q2, q3) = zLook wb wl wu wa bx px tm tk 4 (0, pv, ct, f1, f2, f3)) : qc ≤ ct + 4 := by
  have h := zLook_ct (wb := wb) (wl := wl) (wu := wu) (wa := wa) (bx := bx) (px := px) (tm := tm) (tk := tk) (0, pv, ct, f1, f2, f3) 4
  rw [← hz] at h
  exact h
