/-! the shape behind the constructors; printed by wip/whole/gen6.py -/
def shF : List mx_C := [.inl (6, [some (some 1), some (some 7), some (some 11), some (some 19), some (some 20)]),
  .inl (5, [some (some 2), some (some 3), some (some 4), some (some 5), some (some 6), none]),
  .inr (.inl (0, 288)),
  .inr (.inl (0, 96)),
  .inr (.inl (0, 6)),
  .inr (.inl (0, 72)),
  .inr (.inl (0, 6)),
  .inl (4, [some (some 1), some (some 8), some (some 9), some (some 10), none, none]),
  .inr (.inl (0, 36)),
  .inr (.inl (0, 6)),
  .inr (.inl (0, 6)),
  .inl (0, [some (some 1), some (some 12), none, none, none, none, none]),
  .inr (.inr [some 13, some 14, some 15, some 16, some 17, some 18]),
  .inl (3, [none, none, none, none, none, none, none, none, none, none, none, none]),
  .inl (3, [none, none, none, none, none, none, none, none, none, none, none, none]),
  .inl (3, [none, none, none, none, none, none, none, none, none, none, none, none]),
  .inl (3, [none, none, none, none, none, none, none, none, none, none, none, none]),
  .inl (3, [none, none, none, none, none, none, none, none, none, none, none, none]),
  .inl (3, [none, none, none, none, none, none, none, none, none, none, none, none]),
  .inl (1, [none, none, none, none, none, none, none, none]),
  .inl (2, [some (some 1), some (some 21), some (some 22)]),
  .inr (.inl (0, 6)),
  .inr (.inl (0, 6)),
  .inl (7, [some (some 24), some (some 25), some (some 26), none, some (some 27), some (some 28), none, some (some 29), some (some 30), some (some 31), some (some 32), some (some 33), some (some 34), some (some 35), some (some 36), some (some 37), some (some 38), some (some 39), some (some 40), none, none, none, none, none, none, none, none, none, none, some (some 41), some (some 42), some (some 43)]),
  .inr (.inl (0, 288)),
  .inr (.inl (0, 96)),
  .inr (.inl (0, 6)),
  .inr (.inl (0, 6)),
  .inr (.inl (0, 36)),
  .inr (.inl (0, 6)),
  .inr (.inl (0, 6)),
  .inr (.inl (0, 6)),
  .inr (.inl (0, 6)),
  .inr (.inl (0, 6)),
  .inr (.inl (0, 6)),
  .inr (.inl (0, 6)),
  .inr (.inl (0, 6)),
  .inr (.inl (1, 6)),
  .inr (.inl (0, 6)),
  .inr (.inl (0, 6)),
  .inr (.inl (0, 6)),
  .inr (.inl (0, 6)),
  .inr (.inl (0, 6)),
  .inr (.inl (0, 6))]
theorem shF_12 : shF[12]? = some (.inr (.inr [some 13, some 14, some 15, some 16, some 17, some 18])) := rfl
theorem shF_in {i : Nat} (h : i < 6) : mx_in (nI i) ([some 13, some 14, some 15, some 16, some 17, some 18] : List (Option Nat)).length = true := mx_in_nI h (by decide)
theorem shF_at {i : Nat} (h : i < 6) : ([some 13, some 14, some 15, some 16, some 17, some 18] : List (Option Nat))[(nI i).toNatClampNeg]? = some (some (13 + i)) := by
  rw [nI_clamp (by omega)]
  match i, h with
  | 0, _ => rfl
  | 1, _ => rfl
  | 2, _ => rfl
  | 3, _ => rfl
  | 4, _ => rfl
  | 5, _ => rfl
  | n + 6, h => exact absurd h (by omega)
theorem fF_0_0 {σ : mx_S} : mx_fld (shF, σ) 6 0 0 = some (.ref 1) := rfl
theorem fF_0_1 {σ : mx_S} : mx_fld (shF, σ) 6 1 0 = some (.ref 7) := rfl
theorem fF_0_2 {σ : mx_S} : mx_fld (shF, σ) 6 2 0 = some (.ref 11) := rfl
theorem fF_0_3 {σ : mx_S} : mx_fld (shF, σ) 6 3 0 = some (.ref 19) := rfl
theorem fF_0_4 {σ : mx_S} : mx_fld (shF, σ) 6 4 0 = some (.ref 20) := rfl
theorem fR_0 {σ : mx_S} : mx_isR 6 (shF, σ) (some (.ref 0)) = true := rfl
theorem fF_1_0 {σ : mx_S} : mx_fld (shF, σ) 5 0 1 = some (.ref 2) := rfl
theorem fF_1_1 {σ : mx_S} : mx_fld (shF, σ) 5 1 1 = some (.ref 3) := rfl
theorem fF_1_2 {σ : mx_S} : mx_fld (shF, σ) 5 2 1 = some (.ref 4) := rfl
theorem fF_1_3 {σ : mx_S} : mx_fld (shF, σ) 5 3 1 = some (.ref 5) := rfl
theorem fF_1_4 {σ : mx_S} : mx_fld (shF, σ) 5 4 1 = some (.ref 6) := rfl
theorem fF_1_5 {σ : mx_S} : mx_fld (shF, σ) 5 5 1 = some (.int (σ 1 5)) := rfl
theorem fI_1_5 : mx_isI shF 5 5 1 = true := rfl
theorem fR_1 {σ : mx_S} : mx_isR 5 (shF, σ) (some (.ref 1)) = true := rfl
theorem fF_7_0 {σ : mx_S} : mx_fld (shF, σ) 4 0 7 = some (.ref 1) := rfl
theorem fF_7_1 {σ : mx_S} : mx_fld (shF, σ) 4 1 7 = some (.ref 8) := rfl
theorem fF_7_2 {σ : mx_S} : mx_fld (shF, σ) 4 2 7 = some (.ref 9) := rfl
theorem fF_7_3 {σ : mx_S} : mx_fld (shF, σ) 4 3 7 = some (.ref 10) := rfl
theorem fF_7_4 {σ : mx_S} : mx_fld (shF, σ) 4 4 7 = some (.int (σ 7 4)) := rfl
theorem fI_7_4 : mx_isI shF 4 4 7 = true := rfl
theorem fF_7_5 {σ : mx_S} : mx_fld (shF, σ) 4 5 7 = some (.int (σ 7 5)) := rfl
theorem fI_7_5 : mx_isI shF 4 5 7 = true := rfl
theorem fR_7 {σ : mx_S} : mx_isR 4 (shF, σ) (some (.ref 7)) = true := rfl
theorem fF_11_0 {σ : mx_S} : mx_fld (shF, σ) 0 0 11 = some (.ref 1) := rfl
theorem fF_11_1 {σ : mx_S} : mx_fld (shF, σ) 0 1 11 = some (.ref 12) := rfl
theorem fF_11_2 {σ : mx_S} : mx_fld (shF, σ) 0 2 11 = some (.int (σ 11 2)) := rfl
theorem fI_11_2 : mx_isI shF 0 2 11 = true := rfl
theorem fF_11_3 {σ : mx_S} : mx_fld (shF, σ) 0 3 11 = some (.int (σ 11 3)) := rfl
theorem fI_11_3 : mx_isI shF 0 3 11 = true := rfl
theorem fF_11_4 {σ : mx_S} : mx_fld (shF, σ) 0 4 11 = some (.int (σ 11 4)) := rfl
theorem fI_11_4 : mx_isI shF 0 4 11 = true := rfl
theorem fF_11_5 {σ : mx_S} : mx_fld (shF, σ) 0 5 11 = some (.int (σ 11 5)) := rfl
theorem fI_11_5 : mx_isI shF 0 5 11 = true := rfl
theorem fF_11_6 {σ : mx_S} : mx_fld (shF, σ) 0 6 11 = some (.int (σ 11 6)) := rfl
theorem fI_11_6 : mx_isI shF 0 6 11 = true := rfl
theorem fR_11 {σ : mx_S} : mx_isR 0 (shF, σ) (some (.ref 11)) = true := rfl
theorem fF_19_0 {σ : mx_S} : mx_fld (shF, σ) 1 0 19 = some (.int (σ 19 0)) := rfl
theorem fI_19_0 : mx_isI shF 1 0 19 = true := rfl
theorem fF_19_1 {σ : mx_S} : mx_fld (shF, σ) 1 1 19 = some (.int (σ 19 1)) := rfl
theorem fI_19_1 : mx_isI shF 1 1 19 = true := rfl
theorem fF_19_2 {σ : mx_S} : mx_fld (shF, σ) 1 2 19 = some (.int (σ 19 2)) := rfl
theorem fI_19_2 : mx_isI shF 1 2 19 = true := rfl
theorem fF_19_3 {σ : mx_S} : mx_fld (shF, σ) 1 3 19 = some (.int (σ 19 3)) := rfl
theorem fI_19_3 : mx_isI shF 1 3 19 = true := rfl
theorem fF_19_4 {σ : mx_S} : mx_fld (shF, σ) 1 4 19 = some (.int (σ 19 4)) := rfl
theorem fI_19_4 : mx_isI shF 1 4 19 = true := rfl
theorem fF_19_5 {σ : mx_S} : mx_fld (shF, σ) 1 5 19 = some (.int (σ 19 5)) := rfl
theorem fI_19_5 : mx_isI shF 1 5 19 = true := rfl
theorem fF_19_6 {σ : mx_S} : mx_fld (shF, σ) 1 6 19 = some (.int (σ 19 6)) := rfl
theorem fI_19_6 : mx_isI shF 1 6 19 = true := rfl
theorem fF_19_7 {σ : mx_S} : mx_fld (shF, σ) 1 7 19 = some (.int (σ 19 7)) := rfl
theorem fI_19_7 : mx_isI shF 1 7 19 = true := rfl
theorem fR_19 {σ : mx_S} : mx_isR 1 (shF, σ) (some (.ref 19)) = true := rfl
theorem fF_20_0 {σ : mx_S} : mx_fld (shF, σ) 2 0 20 = some (.ref 1) := rfl
theorem fF_20_1 {σ : mx_S} : mx_fld (shF, σ) 2 1 20 = some (.ref 21) := rfl
theorem fF_20_2 {σ : mx_S} : mx_fld (shF, σ) 2 2 20 = some (.ref 22) := rfl
theorem fR_20 {σ : mx_S} : mx_isR 2 (shF, σ) (some (.ref 20)) = true := rfl
theorem fF_23_0 {σ : mx_S} : mx_fld (shF, σ) 7 0 23 = some (.ref 24) := rfl
theorem fF_23_1 {σ : mx_S} : mx_fld (shF, σ) 7 1 23 = some (.ref 25) := rfl
theorem fF_23_2 {σ : mx_S} : mx_fld (shF, σ) 7 2 23 = some (.ref 26) := rfl
theorem fF_23_3 {σ : mx_S} : mx_fld (shF, σ) 7 3 23 = some (.int (σ 23 3)) := rfl
theorem fI_23_3 : mx_isI shF 7 3 23 = true := rfl
theorem fF_23_4 {σ : mx_S} : mx_fld (shF, σ) 7 4 23 = some (.ref 27) := rfl
theorem fF_23_5 {σ : mx_S} : mx_fld (shF, σ) 7 5 23 = some (.ref 28) := rfl
theorem fF_23_6 {σ : mx_S} : mx_fld (shF, σ) 7 6 23 = some (.int (σ 23 6)) := rfl
theorem fI_23_6 : mx_isI shF 7 6 23 = true := rfl
theorem fF_23_7 {σ : mx_S} : mx_fld (shF, σ) 7 7 23 = some (.ref 29) := rfl
theorem fF_23_8 {σ : mx_S} : mx_fld (shF, σ) 7 8 23 = some (.ref 30) := rfl
theorem fF_23_9 {σ : mx_S} : mx_fld (shF, σ) 7 9 23 = some (.ref 31) := rfl
theorem fF_23_10 {σ : mx_S} : mx_fld (shF, σ) 7 10 23 = some (.ref 32) := rfl
theorem fF_23_11 {σ : mx_S} : mx_fld (shF, σ) 7 11 23 = some (.ref 33) := rfl
theorem fF_23_12 {σ : mx_S} : mx_fld (shF, σ) 7 12 23 = some (.ref 34) := rfl
theorem fF_23_13 {σ : mx_S} : mx_fld (shF, σ) 7 13 23 = some (.ref 35) := rfl
theorem fF_23_14 {σ : mx_S} : mx_fld (shF, σ) 7 14 23 = some (.ref 36) := rfl
theorem fF_23_15 {σ : mx_S} : mx_fld (shF, σ) 7 15 23 = some (.ref 37) := rfl
theorem fF_23_16 {σ : mx_S} : mx_fld (shF, σ) 7 16 23 = some (.ref 38) := rfl
theorem fF_23_17 {σ : mx_S} : mx_fld (shF, σ) 7 17 23 = some (.ref 39) := rfl
theorem fF_23_18 {σ : mx_S} : mx_fld (shF, σ) 7 18 23 = some (.ref 40) := rfl
theorem fF_23_19 {σ : mx_S} : mx_fld (shF, σ) 7 19 23 = some (.int (σ 23 19)) := rfl
theorem fI_23_19 : mx_isI shF 7 19 23 = true := rfl
theorem fF_23_20 {σ : mx_S} : mx_fld (shF, σ) 7 20 23 = some (.int (σ 23 20)) := rfl
theorem fI_23_20 : mx_isI shF 7 20 23 = true := rfl
theorem fF_23_21 {σ : mx_S} : mx_fld (shF, σ) 7 21 23 = some (.int (σ 23 21)) := rfl
theorem fI_23_21 : mx_isI shF 7 21 23 = true := rfl
theorem fF_23_22 {σ : mx_S} : mx_fld (shF, σ) 7 22 23 = some (.int (σ 23 22)) := rfl
theorem fI_23_22 : mx_isI shF 7 22 23 = true := rfl
theorem fF_23_23 {σ : mx_S} : mx_fld (shF, σ) 7 23 23 = some (.int (σ 23 23)) := rfl
theorem fI_23_23 : mx_isI shF 7 23 23 = true := rfl
theorem fF_23_24 {σ : mx_S} : mx_fld (shF, σ) 7 24 23 = some (.int (σ 23 24)) := rfl
theorem fI_23_24 : mx_isI shF 7 24 23 = true := rfl
theorem fF_23_25 {σ : mx_S} : mx_fld (shF, σ) 7 25 23 = some (.int (σ 23 25)) := rfl
theorem fI_23_25 : mx_isI shF 7 25 23 = true := rfl
theorem fF_23_26 {σ : mx_S} : mx_fld (shF, σ) 7 26 23 = some (.int (σ 23 26)) := rfl
theorem fI_23_26 : mx_isI shF 7 26 23 = true := rfl
theorem fF_23_27 {σ : mx_S} : mx_fld (shF, σ) 7 27 23 = some (.int (σ 23 27)) := rfl
theorem fI_23_27 : mx_isI shF 7 27 23 = true := rfl
theorem fF_23_28 {σ : mx_S} : mx_fld (shF, σ) 7 28 23 = some (.int (σ 23 28)) := rfl
theorem fI_23_28 : mx_isI shF 7 28 23 = true := rfl
theorem fF_23_29 {σ : mx_S} : mx_fld (shF, σ) 7 29 23 = some (.ref 41) := rfl
theorem fF_23_30 {σ : mx_S} : mx_fld (shF, σ) 7 30 23 = some (.ref 42) := rfl
theorem fF_23_31 {σ : mx_S} : mx_fld (shF, σ) 7 31 23 = some (.ref 43) := rfl
theorem fR_23 {σ : mx_S} : mx_isR 7 (shF, σ) (some (.ref 23)) = true := rfl
theorem fL_2 {σ : mx_S} : mx_len (shF, σ) 2 = 288 := rfl
theorem fW_2 : mx_lenW shF 2 0 = 288 := rfl
theorem fL_3 {σ : mx_S} : mx_len (shF, σ) 3 = 96 := rfl
theorem fW_3 : mx_lenW shF 3 0 = 96 := rfl
theorem fL_4 {σ : mx_S} : mx_len (shF, σ) 4 = 6 := rfl
theorem fW_4 : mx_lenW shF 4 0 = 6 := rfl
theorem fL_5 {σ : mx_S} : mx_len (shF, σ) 5 = 72 := rfl
theorem fW_5 : mx_lenW shF 5 0 = 72 := rfl
theorem fL_6 {σ : mx_S} : mx_len (shF, σ) 6 = 6 := rfl
theorem fW_6 : mx_lenW shF 6 0 = 6 := rfl
theorem fL_8 {σ : mx_S} : mx_len (shF, σ) 8 = 36 := rfl
theorem fW_8 : mx_lenW shF 8 0 = 36 := rfl
theorem fL_9 {σ : mx_S} : mx_len (shF, σ) 9 = 6 := rfl
theorem fW_9 : mx_lenW shF 9 0 = 6 := rfl
theorem fL_10 {σ : mx_S} : mx_len (shF, σ) 10 = 6 := rfl
theorem fW_10 : mx_lenW shF 10 0 = 6 := rfl
theorem fL_21 {σ : mx_S} : mx_len (shF, σ) 21 = 6 := rfl
theorem fW_21 : mx_lenW shF 21 0 = 6 := rfl
theorem fL_22 {σ : mx_S} : mx_len (shF, σ) 22 = 6 := rfl
theorem fW_22 : mx_lenW shF 22 0 = 6 := rfl
theorem fL_24 {σ : mx_S} : mx_len (shF, σ) 24 = 288 := rfl
theorem fW_24 : mx_lenW shF 24 0 = 288 := rfl
theorem fL_25 {σ : mx_S} : mx_len (shF, σ) 25 = 96 := rfl
theorem fW_25 : mx_lenW shF 25 0 = 96 := rfl
theorem fL_26 {σ : mx_S} : mx_len (shF, σ) 26 = 6 := rfl
theorem fW_26 : mx_lenW shF 26 0 = 6 := rfl
theorem fL_27 {σ : mx_S} : mx_len (shF, σ) 27 = 6 := rfl
theorem fW_27 : mx_lenW shF 27 0 = 6 := rfl
theorem fL_28 {σ : mx_S} : mx_len (shF, σ) 28 = 36 := rfl
theorem fW_28 : mx_lenW shF 28 0 = 36 := rfl
theorem fL_29 {σ : mx_S} : mx_len (shF, σ) 29 = 6 := rfl
theorem fW_29 : mx_lenW shF 29 0 = 6 := rfl
theorem fL_30 {σ : mx_S} : mx_len (shF, σ) 30 = 6 := rfl
theorem fW_30 : mx_lenW shF 30 0 = 6 := rfl
theorem fL_31 {σ : mx_S} : mx_len (shF, σ) 31 = 6 := rfl
theorem fW_31 : mx_lenW shF 31 0 = 6 := rfl
theorem fL_32 {σ : mx_S} : mx_len (shF, σ) 32 = 6 := rfl
theorem fW_32 : mx_lenW shF 32 0 = 6 := rfl
theorem fL_33 {σ : mx_S} : mx_len (shF, σ) 33 = 6 := rfl
theorem fW_33 : mx_lenW shF 33 0 = 6 := rfl
theorem fL_34 {σ : mx_S} : mx_len (shF, σ) 34 = 6 := rfl
theorem fW_34 : mx_lenW shF 34 0 = 6 := rfl
theorem fL_35 {σ : mx_S} : mx_len (shF, σ) 35 = 6 := rfl
theorem fW_35 : mx_lenW shF 35 0 = 6 := rfl
theorem fL_36 {σ : mx_S} : mx_len (shF, σ) 36 = 6 := rfl
theorem fW_36 : mx_lenW shF 36 0 = 6 := rfl
theorem fW_37 : mx_lenW shF 37 1 = 6 := rfl
theorem fL_38 {σ : mx_S} : mx_len (shF, σ) 38 = 6 := rfl
theorem fW_38 : mx_lenW shF 38 0 = 6 := rfl
theorem fL_39 {σ : mx_S} : mx_len (shF, σ) 39 = 6 := rfl
theorem fW_39 : mx_lenW shF 39 0 = 6 := rfl
theorem fL_40 {σ : mx_S} : mx_len (shF, σ) 40 = 6 := rfl
theorem fW_40 : mx_lenW shF 40 0 = 6 := rfl
theorem fL_41 {σ : mx_S} : mx_len (shF, σ) 41 = 6 := rfl
theorem fW_41 : mx_lenW shF 41 0 = 6 := rfl
theorem fL_42 {σ : mx_S} : mx_len (shF, σ) 42 = 6 := rfl
theorem fW_42 : mx_lenW shF 42 0 = 6 := rfl
theorem fL_43 {σ : mx_S} : mx_len (shF, σ) 43 = 6 := rfl
theorem fW_43 : mx_lenW shF 43 0 = 6 := rfl
theorem fS_0 {σ : mx_S} {i : Nat} (h : i < 6) : mx_fld (shF, σ) 3 0 (13 + i) = some (.int (σ (13 + i) 0)) := by
  match i, h with
  | 0, _ => rfl
  | 1, _ => rfl
  | 2, _ => rfl
  | 3, _ => rfl
  | 4, _ => rfl
  | 5, _ => rfl
  | n + 6, h => exact absurd h (by omega)
theorem fT_0 {i : Nat} (h : i < 6) : mx_isI shF 3 0 (13 + i) = true := by
  match i, h with
  | 0, _ => rfl
  | 1, _ => rfl
  | 2, _ => rfl
  | 3, _ => rfl
  | 4, _ => rfl
  | 5, _ => rfl
  | n + 6, h => exact absurd h (by omega)
theorem fS_1 {σ : mx_S} {i : Nat} (h : i < 6) : mx_fld (shF, σ) 3 1 (13 + i) = some (.int (σ (13 + i) 1)) := by
  match i, h with
  | 0, _ => rfl
  | 1, _ => rfl
  | 2, _ => rfl
  | 3, _ => rfl
  | 4, _ => rfl
  | 5, _ => rfl
  | n + 6, h => exact absurd h (by omega)
theorem fT_1 {i : Nat} (h : i < 6) : mx_isI shF 3 1 (13 + i) = true := by
  match i, h with
  | 0, _ => rfl
  | 1, _ => rfl
  | 2, _ => rfl
  | 3, _ => rfl
  | 4, _ => rfl
  | 5, _ => rfl
  | n + 6, h => exact absurd h (by omega)
theorem fS_2 {σ : mx_S} {i : Nat} (h : i < 6) : mx_fld (shF, σ) 3 2 (13 + i) = some (.int (σ (13 + i) 2)) := by
  match i, h with
  | 0, _ => rfl
  | 1, _ => rfl
  | 2, _ => rfl
  | 3, _ => rfl
  | 4, _ => rfl
  | 5, _ => rfl
  | n + 6, h => exact absurd h (by omega)
theorem fT_2 {i : Nat} (h : i < 6) : mx_isI shF 3 2 (13 + i) = true := by
  match i, h with
  | 0, _ => rfl
  | 1, _ => rfl
  | 2, _ => rfl
  | 3, _ => rfl
  | 4, _ => rfl
  | 5, _ => rfl
  | n + 6, h => exact absurd h (by omega)
theorem fS_3 {σ : mx_S} {i : Nat} (h : i < 6) : mx_fld (shF, σ) 3 3 (13 + i) = some (.int (σ (13 + i) 3)) := by
  match i, h with
  | 0, _ => rfl
  | 1, _ => rfl
  | 2, _ => rfl
  | 3, _ => rfl
  | 4, _ => rfl
  | 5, _ => rfl
  | n + 6, h => exact absurd h (by omega)
theorem fT_3 {i : Nat} (h : i < 6) : mx_isI shF 3 3 (13 + i) = true := by
  match i, h with
  | 0, _ => rfl
  | 1, _ => rfl
  | 2, _ => rfl
  | 3, _ => rfl
  | 4, _ => rfl
  | 5, _ => rfl
  | n + 6, h => exact absurd h (by omega)
theorem fS_4 {σ : mx_S} {i : Nat} (h : i < 6) : mx_fld (shF, σ) 3 4 (13 + i) = some (.int (σ (13 + i) 4)) := by
  match i, h with
  | 0, _ => rfl
  | 1, _ => rfl
  | 2, _ => rfl
  | 3, _ => rfl
  | 4, _ => rfl
  | 5, _ => rfl
  | n + 6, h => exact absurd h (by omega)
theorem fT_4 {i : Nat} (h : i < 6) : mx_isI shF 3 4 (13 + i) = true := by
  match i, h with
  | 0, _ => rfl
  | 1, _ => rfl
  | 2, _ => rfl
  | 3, _ => rfl
  | 4, _ => rfl
  | 5, _ => rfl
  | n + 6, h => exact absurd h (by omega)
theorem fS_5 {σ : mx_S} {i : Nat} (h : i < 6) : mx_fld (shF, σ) 3 5 (13 + i) = some (.int (σ (13 + i) 5)) := by
  match i, h with
  | 0, _ => rfl
  | 1, _ => rfl
  | 2, _ => rfl
  | 3, _ => rfl
  | 4, _ => rfl
  | 5, _ => rfl
  | n + 6, h => exact absurd h (by omega)
theorem fT_5 {i : Nat} (h : i < 6) : mx_isI shF 3 5 (13 + i) = true := by
  match i, h with
  | 0, _ => rfl
  | 1, _ => rfl
  | 2, _ => rfl
  | 3, _ => rfl
  | 4, _ => rfl
  | 5, _ => rfl
  | n + 6, h => exact absurd h (by omega)
theorem fS_6 {σ : mx_S} {i : Nat} (h : i < 6) : mx_fld (shF, σ) 3 6 (13 + i) = some (.int (σ (13 + i) 6)) := by
  match i, h with
  | 0, _ => rfl
  | 1, _ => rfl
  | 2, _ => rfl
  | 3, _ => rfl
  | 4, _ => rfl
  | 5, _ => rfl
  | n + 6, h => exact absurd h (by omega)
theorem fT_6 {i : Nat} (h : i < 6) : mx_isI shF 3 6 (13 + i) = true := by
  match i, h with
  | 0, _ => rfl
  | 1, _ => rfl
  | 2, _ => rfl
  | 3, _ => rfl
  | 4, _ => rfl
  | 5, _ => rfl
  | n + 6, h => exact absurd h (by omega)
theorem fS_7 {σ : mx_S} {i : Nat} (h : i < 6) : mx_fld (shF, σ) 3 7 (13 + i) = some (.int (σ (13 + i) 7)) := by
  match i, h with
  | 0, _ => rfl
  | 1, _ => rfl
  | 2, _ => rfl
  | 3, _ => rfl
  | 4, _ => rfl
  | 5, _ => rfl
  | n + 6, h => exact absurd h (by omega)
theorem fT_7 {i : Nat} (h : i < 6) : mx_isI shF 3 7 (13 + i) = true := by
  match i, h with
  | 0, _ => rfl
  | 1, _ => rfl
  | 2, _ => rfl
  | 3, _ => rfl
  | 4, _ => rfl
  | 5, _ => rfl
  | n + 6, h => exact absurd h (by omega)
theorem fS_8 {σ : mx_S} {i : Nat} (h : i < 6) : mx_fld (shF, σ) 3 8 (13 + i) = some (.int (σ (13 + i) 8)) := by
  match i, h with
  | 0, _ => rfl
  | 1, _ => rfl
  | 2, _ => rfl
  | 3, _ => rfl
  | 4, _ => rfl
  | 5, _ => rfl
  | n + 6, h => exact absurd h (by omega)
theorem fT_8 {i : Nat} (h : i < 6) : mx_isI shF 3 8 (13 + i) = true := by
  match i, h with
  | 0, _ => rfl
  | 1, _ => rfl
  | 2, _ => rfl
  | 3, _ => rfl
  | 4, _ => rfl
  | 5, _ => rfl
  | n + 6, h => exact absurd h (by omega)
theorem fS_9 {σ : mx_S} {i : Nat} (h : i < 6) : mx_fld (shF, σ) 3 9 (13 + i) = some (.int (σ (13 + i) 9)) := by
  match i, h with
  | 0, _ => rfl
  | 1, _ => rfl
  | 2, _ => rfl
  | 3, _ => rfl
  | 4, _ => rfl
  | 5, _ => rfl
  | n + 6, h => exact absurd h (by omega)
theorem fT_9 {i : Nat} (h : i < 6) : mx_isI shF 3 9 (13 + i) = true := by
  match i, h with
  | 0, _ => rfl
  | 1, _ => rfl
  | 2, _ => rfl
  | 3, _ => rfl
  | 4, _ => rfl
  | 5, _ => rfl
  | n + 6, h => exact absurd h (by omega)
theorem fS_10 {σ : mx_S} {i : Nat} (h : i < 6) : mx_fld (shF, σ) 3 10 (13 + i) = some (.int (σ (13 + i) 10)) := by
  match i, h with
  | 0, _ => rfl
  | 1, _ => rfl
  | 2, _ => rfl
  | 3, _ => rfl
  | 4, _ => rfl
  | 5, _ => rfl
  | n + 6, h => exact absurd h (by omega)
theorem fT_10 {i : Nat} (h : i < 6) : mx_isI shF 3 10 (13 + i) = true := by
  match i, h with
  | 0, _ => rfl
  | 1, _ => rfl
  | 2, _ => rfl
  | 3, _ => rfl
  | 4, _ => rfl
  | 5, _ => rfl
  | n + 6, h => exact absurd h (by omega)
theorem fS_11 {σ : mx_S} {i : Nat} (h : i < 6) : mx_fld (shF, σ) 3 11 (13 + i) = some (.int (σ (13 + i) 11)) := by
  match i, h with
  | 0, _ => rfl
  | 1, _ => rfl
  | 2, _ => rfl
  | 3, _ => rfl
  | 4, _ => rfl
  | 5, _ => rfl
  | n + 6, h => exact absurd h (by omega)
theorem fT_11 {i : Nat} (h : i < 6) : mx_isI shF 3 11 (13 + i) = true := by
  match i, h with
  | 0, _ => rfl
  | 1, _ => rfl
  | 2, _ => rfl
  | 3, _ => rfl
  | 4, _ => rfl
  | 5, _ => rfl
  | n + 6, h => exact absurd h (by omega)
