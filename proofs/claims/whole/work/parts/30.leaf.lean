/-! leaves -/
def hs (s i : Int32) : Bool := decide ((s >>> (i &&& 31)) &&& nI 1 = nI 1)
def wi (v lo hi : Int32) : Bool := !(decide (v < lo)) && !(decide (hi < v))
theorem c_Se_has {s i : Int32} {h : mx_H} : vv 0 45 0 [.int s, .int i] [] h = some (some (.int (bI (hs s i))), h) := by
  simp only [e_Se_has_0, e_Se_has_1, e_Se_has_2, e_Se_has_3, e_Se_has_4, e_Se_has_5, e_Se_has_6, e_Se_has_9, e_Se_has_10, e_Se_has_13, e_Se_has_14_0, e_Se_has_14_1, e_Se_has_14_b, hs]
  split <;> simp_all [bI]
theorem c_Se_of {i : Int32} {h : mx_H} : vv 0 46 0 [.int i] [] h = some (some (.int (nI 1 <<< (i &&& 31))), h) := by
  simp only [e_Se_of_0, e_Se_of_1, e_Se_of_2, e_Se_of_3]
def sdB (s : Int32) : Int32 := nI 1103515245 * s + nI 12345
def up16 (s : Int32) : Int32 := (s.toUInt32 >>> ((nI 16).toUInt32 &&& Int32.toUInt32 31)).toInt32
def lfB (s y : Int32) : Int32 := up16 s - up16 s / y * y
theorem c_Dr_seedBehind {s : Int32} {h : mx_H} : vv 0 24 0 [.int s] [] h = some (some (.int (sdB s)), h) := by
  simp only [e_Dr_seedBehind_0, e_Dr_seedBehind_2, e_Dr_seedBehind_3, e_Dr_seedBehind_4, e_Dr_seedBehind_7, e_Dr_seedBehind_8, sdB]
theorem c_Dr_leftBy {s y : Int32} {h : mx_H} (hy : 0 < y) : vv 0 25 0 [.int s, .int y] [] h = some (some (.int (lfB s y)), h) := by
  have h1 : ¬ y ≤ 0 := fun z => by
    rw [Int32.le_iff_toInt_le] at z
    rw [Int32.lt_iff_toInt_lt] at hy
    omega
  have h2 : ¬ y = 0 := fun z => by subst z; exact h1 (by decide)
  simp only [e_Dr_leftBy_0, e_Dr_leftBy_1, e_Dr_leftBy_4, e_Dr_leftBy_5, e_Dr_leftBy_7, e_Dr_leftBy_8, e_Dr_leftBy_9, e_Dr_leftBy_10, e_Dr_leftBy_13, e_Dr_leftBy_14, if_neg h1, if_neg h2, lfB, up16]
theorem c_Ml_isWithin {v lo hi : Int32} {h : mx_H} : vv 0 106 0 [.int v, .int lo, .int hi] [] h = some (some (.int (bI (wi v lo hi))), h) := by
  simp only [e_Ml_isWithin_0, e_Ml_isWithin_1, e_Ml_isWithin_2, e_Ml_isWithin_5, e_Ml_isWithin_6, e_Ml_isWithin_7, e_Ml_isWithin_10, e_Ml_isWithin_11, e_Ml_isWithin_14, e_Ml_isWithin_15_0, e_Ml_isWithin_15_1, e_Ml_isWithin_15_b, wi]
  (repeat' split) <;> simp_all [bI]
theorem c_Mo_within {v lo hi : Int32} {h : mx_H} : vv 0 113 0 [.int v, .int lo, .int hi] [] h = some (some (.int (bI (wi v lo hi))), h) := by
  simp only [e_Mo_within_0, e_Mo_within_1, e_Mo_within_2, e_Mo_within_5, e_Mo_within_6, e_Mo_within_7, e_Mo_within_10, e_Mo_within_11, e_Mo_within_14, e_Mo_within_15_0, e_Mo_within_15_1, e_Mo_within_15_b, wi]
  (repeat' split) <;> simp_all [bI]
