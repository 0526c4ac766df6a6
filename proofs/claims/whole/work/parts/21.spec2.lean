/-! What the reference computes: the same functions, read off its own rows. -/
def zI2 (f : Nat → Int32) : Nat → Int64 := fun j => (f j).toInt64
theorem zI2_upd (f : Nat → Int32) (j : Nat) (v : Int32) : zI2 (upd f j v) = vp_updL (zI2 f) j v.toInt64 := by
  funext q
  unfold zI2 upd vp_updL
  by_cases h : q = j
  · simp [h]
  · simp [h]
def zRM (rw i : Nat) (F P : Nat → Int64) : Nat → Int64 := fun q => if rw * 4 ≤ q ∧ q < rw * 4 + i then F (q - rw * 4) else P q
theorem zRM_0 (rw : Nat) (F P : Nat → Int64) : zRM rw 0 F P = P := by
  funext q
  unfold zRM
  rw [if_neg (by omega)]
theorem zRM_in {rw i j : Nat} {F P : Nat → Int64} (h : j < i) : zRM rw i F P (rw * 4 + j) = F j := by
  unfold zRM
  rw [if_pos (by omega)]
  congr 1
  omega
theorem zRM_out {rw i q : Nat} {F P : Nat → Int64} (h : q < rw * 4 ∨ rw * 4 + i ≤ q) : zRM rw i F P q = P q := by
  unfold zRM
  rw [if_neg (by omega)]
theorem zRM_ge {rw i j : Nat} {F P : Nat → Int64} (h : i ≤ j) : zRM rw i F P (rw * 4 + j) = P (rw * 4 + j) := zRM_out (by omega)
theorem zRM_put (rw i : Nat) (F P : Nat → Int64) : zRM rw (i + 1) F P = vp_updL (zRM rw i F P) (rw * 4 + i) (F i) := by
  funext q
  unfold zRM vp_updL
  dsimp only
  by_cases h : q = rw * 4 + i
  · subst h
    rw [if_pos (by omega), if_pos rfl]
    congr 1
    omega
  · rw [if_neg h]
    by_cases h2 : rw * 4 ≤ q ∧ q < rw * 4 + i
    · rw [if_pos h2, if_pos (by omega)]
    · rw [if_neg h2, if_neg (by omega)]
def zKick (am : Int64) (hh : Int32) : Int64 := (am + ((1 : Int64) <<< ((hh + 4).toInt64 &&& 63))) >>> ((hh + 5).toInt64 &&& 63)
theorem kick_c : ∀ g, g < 10 → ((1 : Int64) <<< ((nI g + 4).toInt64 &&& 63)) = (((1 : Int64) <<< ((4 + nI g + 1).toInt64 &&& 63)) >>> ((1 : Int32).toInt64 &&& 63)) ∧ ((nI g + 5).toInt64 &&& 63) = ((4 + nI g + 1).toInt64 &&& 63) := by decide
theorem kick_eq {am : Int64} {g : Nat} (h : g ≤ 9) : zKick am (nI g) = zRnd am (4 + nI g + 1) := by
  unfold zKick zRnd
  rw [(kick_c g (by omega)).1, (kick_c g (by omega)).2]
theorem sh4 (a : Int64) : 16 * a = a <<< ((4 : Int32).toInt64 &&& 63) := by
  have h : ((4 : Int32).toInt64 &&& 63) = 4 := by decide
  rw [h]
  apply Int64.toBitVec_inj.mp
  rw [Int64.toBitVec_mul, Int64.toBitVec_shiftLeft]
  have e : ((4 : Int64).toBitVec.smod 64) = 4#64 := by decide
  rw [e]
  apply BitVec.eq_of_toNat_eq
  rw [BitVec.toNat_mul]
  simp [BitVec.toNat_shiftLeft, Nat.shiftLeft_eq]
  rw [Nat.mul_comm]
def zFar (am : Int64) : Int32 := if 1024000000 < am then 1 else if (-1024000000) ≤ am then 0 else 1
theorem zFar_0 {am : Int64} (h : zFar am = 0) : zNear am = 1 := by
  unfold zFar at h
  split at h
  · exact absurd h (by decide)
  · rename_i h1
    split at h
    · rename_i h2
      unfold zNear
      rw [if_neg, if_neg h1]
      simp only [Int64.lt_iff_toInt_lt, Int64.le_iff_toInt_le] at *
      omega
    · exact absurd h (by decide)
theorem zFar_1 {am : Int64} (h : ¬ zFar am = 0) : zNear am = 0 := by
  unfold zFar at h
  unfold zNear
  by_cases h1 : 1024000000 < am
  · split
    · rfl
    · rfl
  · rw [if_neg h1] at h
    by_cases h2 : (-1024000000) ≤ am
    · rw [if_pos h2] at h; exact absurd rfl h
    · rw [if_pos]
      simp only [Int64.lt_iff_toInt_lt, Int64.le_iff_toInt_le] at *
      omega
theorem zAll_keep {f : Nat → Int64} {i : Nat} (h : zFar (f i) = 0) : zAll f (i + 1) = zAll f i := by
  rw [zAll]
  split
  · rename_i h0; exact h0.symm
  · rename_i h0
    rw [zFar_0 h]
    exact ((zAll_01 f i).resolve_left h0).symm
theorem zAll_drop {f : Nat → Int64} {i : Nat} (h : ¬ zFar (f i) = 0) : zAll f (i + 1) = 0 := by
  rw [zAll]
  split
  · rfl
  · exact zFar_1 h
theorem zAll_1 {f : Nat → Int64} {i : Nat} (h : ¬ zAll f i = 0) : zAll f i = 1 := (zAll_01 f i).resolve_left h
section ZS
variable {n : Nat} {zk zc zq zf : Nat → Int32} {hh : Int32} {px pv : Nat → Int64}
theorem zStep_a (c : zAll (zDv n zk zc zq zf hh px pv) n = 0) : (zStep n zk zc zq zf hh px pv).1 = 0 := by unfold zStep; rw [if_pos c]
theorem zStep_b (c : ¬ zAll (zDv n zk zc zq zf hh px pv) n = 0) (c2 : zAll (zDx hh px (zDv n zk zc zq zf hh px pv)) n = 0) : (zStep n zk zc zq zf hh px pv).1 = 0 := by unfold zStep; rw [if_neg c, if_pos c2]
theorem zStep_c (c : ¬ zAll (zDv n zk zc zq zf hh px pv) n = 0) (c2 : ¬ zAll (zDx hh px (zDv n zk zc zq zf hh px pv)) n = 0) : zStep n zk zc zq zf hh px pv = (zAll (zDv n zk zc zq zf hh (zDx hh px (zDv n zk zc zq zf hh px pv)) (zDv n zk zc zq zf hh px pv)) n, zDx hh px (zDv n zk zc zq zf hh px pv), zDv n zk zc zq zf hh (zDx hh px (zDv n zk zc zq zf hh px pv)) (zDv n zk zc zq zf hh px pv)) := by
  unfold zStep
  rw [if_neg c, if_neg c2]
  split
  · rename_i h; rw [h]
  · rename_i h; rw [zAll_1 h]
end ZS
theorem zAbs_nn {a : Int64} (h : 0 ≤ a) : zAbs a = a := by
  unfold zAbs
  split
  · rfl
  · rename_i h2
    have : a = 0 := by
      apply Int64.toInt_inj.mp
      simp only [Int64.lt_iff_toInt_lt, Int64.le_iff_toInt_le, Int64.toInt_zero] at *
      omega
    subst this
    decide
theorem zAbs_neg {a : Int64} (h : ¬ 0 ≤ a) : zAbs a = -a := by
  unfold zAbs
  rw [if_neg]
  simp only [Int64.lt_iff_toInt_lt, Int64.le_iff_toInt_le] at *
  omega
theorem zMax_le {e a : Int64} (h : a ≤ e) : zMax e a = e := by
  unfold zMax
  split
  · rfl
  · rename_i h2
    apply Int64.toInt_inj.mp
    simp only [Int64.lt_iff_toInt_lt, Int64.le_iff_toInt_le] at *
    omega
theorem zMax_gt {e a : Int64} (h : ¬ a ≤ e) : zMax e a = a := by
  unfold zMax
  rw [if_neg]
  simp only [Int64.lt_iff_toInt_lt, Int64.le_iff_toInt_le] at *
  omega
theorem zTk_vals : ∀ g, g < 9 → zTk g = 2 ^ (8 - g) ∧ (nI (zTk g) - 1).toBitVec.toNat = 2 ^ (8 - g) - 1 ∧ 0 < zTk g ∧ zTk g < 2 ^ 31 := by decide
theorem and_rem {tm g : Nat} (hg : g ≤ 8) (ht : tm < 2 ^ 31) : nI tm &&& ((256 : Int32) >>> (nI g &&& 31) - 1) = nI tm - nI tm / ((256 : Int32) >>> (nI g &&& 31)) * ((256 : Int32) >>> (nI g &&& 31)) := by
  obtain ⟨h1, h2, h3, h4⟩ := zTk_vals g (by omega)
  rw [zTk_eq hg, pk_rem ht h3 h4, pk_andN (by omega) (8 - g) h2, ← h1]
theorem tk_ne0 {g : Nat} (hg : g ≤ 8) : ¬ (256 : Int32) >>> (nI g &&& 31) = 0 := by
  obtain ⟨h1, h2, h3, h4⟩ := zTk_vals g (by omega)
  rw [zTk_eq hg]
  exact nI_ne0 h3 h4
theorem zFits_a {tm tk lf : Int32} (h : lf < tk) : zFits tm tk lf = 0 := if_pos h
theorem zFits_b {tm g : Nat} {lf : Int32} (hg : g ≤ 8) (ht : tm < 2 ^ 31) (h1 : ¬ lf < (256 : Int32) >>> (nI g &&& 31)) (h2 : ¬ nI tm - nI tm / ((256 : Int32) >>> (nI g &&& 31)) * ((256 : Int32) >>> (nI g &&& 31)) = 0) : zFits (nI tm) ((256 : Int32) >>> (nI g &&& 31)) lf = 0 := by
  unfold zFits
  rw [if_neg h1, and_rem hg ht, if_pos h2]
theorem zFits_c {tm g : Nat} {lf : Int32} (hg : g ≤ 8) (ht : tm < 2 ^ 31) (h1 : ¬ lf < (256 : Int32) >>> (nI g &&& 31)) (h2 : nI tm - nI tm / ((256 : Int32) >>> (nI g &&& 31)) * ((256 : Int32) >>> (nI g &&& 31)) = 0) : ¬ zFits (nI tm) ((256 : Int32) >>> (nI g &&& 31)) lf = 0 := by
  unfold zFits
  rw [if_neg h1, and_rem hg ht, if_neg (fun q => q h2)]
  decide
theorem fit_8a {lf : Nat} {g : Nat} (h1 : 1 ≤ lf) (h2 : lf < 2 ^ 31) (hg : g ≤ 8) (c : nI lf < (256 : Int32) >>> (nI g &&& 31)) : g < 8 := by
  rcases Nat.lt_or_ge g 8 with h | h
  · exact h
  · exfalso
    have e : g = 8 := by omega
    subst e
    rw [zTk_eq (by omega)] at c
    have := nI_ltM c h2 (by decide)
    have e1 : zTk 8 = 1 := by decide
    omega
theorem fit_8b {tm : Nat} {g : Nat} (ht : tm < 2 ^ 31) (hg : g ≤ 8) (c : ¬ nI tm - nI tm / ((256 : Int32) >>> (nI g &&& 31)) * ((256 : Int32) >>> (nI g &&& 31)) = 0) : g < 8 := by
  rcases Nat.lt_or_ge g 8 with h | h
  · exact h
  · exfalso
    have e : g = 8 := by omega
    subst e
    apply c
    obtain ⟨h1, h2, h3, h4⟩ := zTk_vals 8 (by omega)
    rw [zTk_eq (by omega), pk_rem ht h3 h4, show zTk 8 = 1 from by decide, Nat.mod_one]
    rfl
theorem zFit_stop' {tm lf : Int32} {g : Nat} (h : g ≤ 8) (c : ¬ zFits tm (256 >>> (nI g &&& 31)) lf = 0) : zFit tm lf (8 - g) g = g := by
  rcases Nat.lt_or_ge g 8 with h2 | h2
  · exact zFit_stop h2 c
  · exact zFit_8 h2 h
def zHs (f1 f2 f3 : Nat → Int32) : Nat → Int32 := fun q => if q % 3 = 0 then f1 (q / 3) else if q % 3 = 1 then f2 (q / 3) else f3 (q / 3)
theorem zHs_0 (f1 f2 f3 : Nat → Int32) (j : Nat) : zHs f1 f2 f3 (j * 3) = f1 j := by
  unfold zHs
  rw [if_pos (by omega)]
  congr 1
  omega
theorem zHs_1 (f1 f2 f3 : Nat → Int32) (j : Nat) : zHs f1 f2 f3 (j * 3 + 1) = f2 j := by
  unfold zHs
  rw [if_neg (by omega), if_pos (by omega)]
  congr 1
  omega
theorem zHs_2 (f1 f2 f3 : Nat → Int32) (j : Nat) : zHs f1 f2 f3 (j * 3 + 2) = f3 j := by
  unfold zHs
  rw [if_neg (by omega), if_neg (by omega)]
  congr 1
  omega
theorem zHs_u0 (f1 f2 f3 : Nat → Int32) (j : Nat) (v : Int32) : zHs (upd f1 j v) f2 f3 = upd (zHs f1 f2 f3) (j * 3) v := by
  funext q
  unfold zHs upd
  dsimp only
  by_cases h : q = j * 3
  · subst h
    rw [if_pos (by omega), if_pos (by omega), if_pos rfl]
  · rw [if_neg h]
    by_cases h0 : q % 3 = 0
    · rw [if_pos h0, if_pos h0, if_neg (by omega)]
    · rw [if_neg h0, if_neg h0]
theorem zHs_u1 (f1 f2 f3 : Nat → Int32) (j : Nat) (v : Int32) : zHs f1 (upd f2 j v) f3 = upd (zHs f1 f2 f3) (j * 3 + 1) v := by
  funext q
  unfold zHs upd
  dsimp only
  by_cases h : q = j * 3 + 1
  · subst h
    rw [if_neg (by omega), if_pos (by omega), if_pos (by omega), if_pos rfl]
  · rw [if_neg h]
    by_cases h0 : q % 3 = 0
    · rw [if_pos h0, if_pos h0]
    · rw [if_neg h0, if_neg h0]
      by_cases h1 : q % 3 = 1
      · rw [if_pos h1, if_pos h1, if_neg (by omega)]
      · rw [if_neg h1, if_neg h1]
theorem zHs_u2 (f1 f2 f3 : Nat → Int32) (j : Nat) (v : Int32) : zHs f1 f2 (upd f3 j v) = upd (zHs f1 f2 f3) (j * 3 + 2) v := by
  funext q
  unfold zHs upd
  dsimp only
  by_cases h : q = j * 3 + 2
  · subst h
    rw [if_neg (by omega), if_neg (by omega), if_pos (by omega), if_pos rfl]
  · rw [if_neg h]
    by_cases h0 : q % 3 = 0
    · rw [if_pos h0, if_pos h0]
    · rw [if_neg h0, if_neg h0]
      by_cases h1 : q % 3 = 1
      · rw [if_pos h1, if_pos h1]
      · rw [if_neg h1, if_neg h1, if_neg (by omega)]
