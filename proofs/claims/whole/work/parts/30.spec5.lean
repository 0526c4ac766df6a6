theorem six_ok2 {ia : Int32} (h : ¬ ia < 0) (h2 : ¬ 64 < ia) : ¬ zSix ia = 0 := six_ok h (by simp only [Int32.lt_iff_toInt_lt, Int32.le_iff_toInt_le] at *; omega)
theorem upL_ag {pp px : Nat → Int64} {n j : Nat} {v : Int64} (h : ∀ q, q < n → pp q = px q) : ∀ q, q < n → vp_updL pp j v q = vp_updL px j v q := by
  intro q hq
  unfold vp_updL
  by_cases e : q = j
  · rw [if_pos e, if_pos e]
  · rw [if_neg e, if_neg e, h q hq]
theorem wm_ag {wa wm : Nat → Int32} {j : Nat} {v : Int32} (h : ∀ k, k < 4 → ¬ zSet (wa k) = 0 → wm k = wa k) : ∀ k, k < 4 → ¬ zSet (upd wa j v k) = 0 → upd wm j v k = upd wa j v k := by
  intro k hk hs
  unfold upd at *
  by_cases e : k = j
  · rw [if_pos e, if_pos e]
  · rw [if_neg e] at hs
    rw [if_neg e, if_neg e, h k hk hs]
theorem ct_7 {n tm fs sd rj ct : Nat} {er : Int64} {wa : Nat → Int32} {ia : Int32} (h : ia = 7) : zCnt wa = zCcount n tm fs sd rj ct er wa ia := by
  subst h
  rfl
theorem zChit_0 {ct j : Nat} {f1 f2 f3 : Nat → Int32} (hj : j < 2 ^ 31) (h : ¬ zKeep (nI j) (nI ct) = 0) : f1 j = zChit ct (nI j) (nI 0) f1 f2 f3 := by
  unfold zChit
  rw [if_pos h, if_pos (by decide), nI_clamp hj]
theorem zChit_1 {ct j : Nat} {f1 f2 f3 : Nat → Int32} (hj : j < 2 ^ 31) (h : ¬ zKeep (nI j) (nI ct) = 0) : f2 j = zChit ct (nI j) (nI 1) f1 f2 f3 := by
  unfold zChit
  rw [if_pos h, if_neg (by decide), if_pos (by decide), nI_clamp hj]
theorem zChit_2 {ct j : Nat} {f1 f2 f3 : Nat → Int32} (hj : j < 2 ^ 31) (h : ¬ zKeep (nI j) (nI ct) = 0) : f3 j = zChit ct (nI j) (nI 2) f1 f2 f3 := by
  unfold zChit
  rw [if_pos h, if_neg (by decide), if_neg (by decide), if_pos (by decide), nI_clamp hj]
