/-! the class: undo, keep, back -/
theorem c_undo {E : kEnv} {w : List (Nat × Nat)} {f : Nat → Int → Int} {g : Nat → Int → Option Nat} {st : Int → Nat} (hg : kG g) (hst : kPile g 13 8 st) (hm : 0 ≤ f 12 1 ∧ f 12 1 ≤ 8) : kF E 3 M_X6_undo [kA (0)] ((kMC ++ w), f, g) (some (kI (sUndo (f 12 1)))) ((kMC ++ w), (if f 12 1 = 0 then f else (kBec (k_u f 12 1 (f 12 1 - 1)) 10 (st (f 12 1 - 1)))), g) := by
  refine kF_of (by decide) (by simp [k_one]) (Nat.le_of_ble_eq_true rfl) (L := [some (kA (0))]) rfl ?_
  have ek : (kBec (k_u f 12 1 (f 12 1 - 1)) 10 (st (f 12 1 - 1))) 12 1 = f 12 1 - 1 := by rw [kBec_eq 12 (by omega) (by omega), k_u_self]
  refine kw_aload_n dX6_undo_0 rfl ?_
  refine kv_getR (b := 12) dX6_undo_1 kf_X6_35 rfl rfl rfl (hg (0, 3, 12) (by decide)) ?_
  refine kv_getI (kz := 1) dX6_undo_4 kf_X6_179 rfl rfl rfl rfl ?_
  refine kw_if_ne (tgt := 13) dX6_undo_7 (by decide) (fun h1 => ?_) (fun h1 => ?_)
  · refine kw_aload_n dX6_undo_13 rfl ?_
    refine kv_getR (b := 12) dX6_undo_14 kf_X6_35 rfl rfl rfl (hg (0, 3, 12) (by decide)) ?_
    refine kw_aload_n dX6_undo_17 rfl ?_
    refine kv_getR (b := 10) dX6_undo_18 kf_X6_26 rfl rfl rfl (hg (0, 2, 10) (by decide)) ?_
    refine kv_callV0 (M2 := M_X3_moveLastTo) (As := [kA (10)]) dX6_undo_21 ml_X6_182 q_X3_moveLastTo rfl rfl rfl (Nat.le_of_ble_eq_true rfl) (c_pmove_past hg hst (by omega)) (by omega) ?_
    refine kw_aload_n dX6_undo_24 rfl ?_
    refine kv_getR (b := 12) dX6_undo_25 kf_X6_35 rfl rfl rfl (hg (0, 3, 12) (by decide)) ?_
    refine kv_getI (kz := 1) dX6_undo_28 kf_X6_179 rfl rfl rfl rfl ?_
    exact kv_ri dX6_undo_31 rfl (Eq.symm (by unfold sUndo; first | (rw [if_pos (by omega)]; done) | (rw [if_neg (by omega)]; exact ek.symm))) (by first | rw [if_pos (by omega)] | rw [if_neg (by omega)])
  · refine kw_bipush dX6_undo_10 (by decide) (by decide) ?_
    exact kv_ri dX6_undo_12 rfl (Eq.symm (by unfold sUndo; first | (rw [if_pos (by omega)]; done) | (rw [if_neg (by omega)]; exact ek.symm))) (by first | rw [if_pos (by omega)] | rw [if_neg (by omega)])
theorem c_keep {E : kEnv} {w : List (Nat × Nat)} {f : Nat → Int → Int} {g : Nat → Int → Option Nat} {st : Int → Nat} (hg : kG g) (hst : kPile g 31 2 st) (hm : 0 ≤ f 30 1 ∧ f 30 1 ≤ 2) : kF E 3 M_X6_keep [kA (0)] ((kMC ++ w), f, g) (some (kI (sKeep (f 30 1)))) ((kMC ++ w), (if f 30 1 = 2 then f else (k_u (kBec f (st (f 30 1)) 10) 30 1 (f 30 1 + 1))), g) := by
  refine kF_of (by decide) (by simp [k_one]) (Nat.le_of_ble_eq_true rfl) (L := [some (kA (0))]) rfl ?_
  have ek : (k_u (kBec f (st (f 30 1)) 10) 30 1 (f 30 1 + 1)) 30 1 = f 30 1 + 1 := k_u_self
  refine kw_aload_n dX6_keep_0 rfl ?_
  refine kv_getR (b := 30) dX6_keep_1 kf_X6_39 rfl rfl rfl (hg (0, 4, 30) (by decide)) ?_
  refine kv_callV1 (M2 := M_X3_isFull) (As := []) dX6_keep_4 ml_X6_252 q_X3_isFull rfl rfl rfl (Nat.le_of_ble_eq_true rfl) (c_full_kept hg) (by omega) ?_
  refine kv_ifeqB (tgt := 13) dX6_keep_7 (by decide) (fun h1 => ?_) (fun h1 => ?_)
  · refine kw_aload_n dX6_keep_13 rfl ?_
    refine kv_getR (b := 30) dX6_keep_14 kf_X6_39 rfl rfl rfl (hg (0, 4, 30) (by decide)) ?_
    refine kw_aload_n dX6_keep_17 rfl ?_
    refine kv_getR (b := 10) dX6_keep_18 kf_X6_26 rfl rfl rfl (hg (0, 2, 10) (by decide)) ?_
    refine kv_callV0 (M2 := M_X3_add) (As := [kA (10)]) dX6_keep_21 ml_X6_159 q_X3_add rfl rfl rfl (Nat.le_of_ble_eq_true rfl) (c_padd_kept hg hst (by omega)) (by omega) ?_
    refine kw_aload_n dX6_keep_24 rfl ?_
    refine kv_getR (b := 30) dX6_keep_25 kf_X6_39 rfl rfl rfl (hg (0, 4, 30) (by decide)) ?_
    refine kv_getI (kz := 1) dX6_keep_28 kf_X6_179 rfl rfl rfl rfl ?_
    exact kv_ri dX6_keep_31 rfl (Eq.symm (by unfold sKeep; first | (rw [if_pos (by omega)]; done) | (rw [if_neg (by omega)]; exact ek.symm))) (by first | rw [if_pos (by omega)] | rw [if_neg (by omega)])
  · refine kw_bipush dX6_keep_10 (by decide) (by decide) ?_
    exact kv_ri dX6_keep_12 rfl (Eq.symm (by unfold sKeep; first | (rw [if_pos (by omega)]; done) | (rw [if_neg (by omega)]; exact ek.symm))) (by first | rw [if_pos (by omega)] | rw [if_neg (by omega)])
theorem c_back {E : kEnv} {w : List (Nat × Nat)} {f : Nat → Int → Int} {g : Nat → Int → Option Nat} {st : Int → Nat} (hg : kG g) (hst : kPile g 31 2 st) (hm : 0 ≤ f 30 1 ∧ f 30 1 ≤ 2) : kF E 3 M_X6_back [kA (0)] ((kMC ++ w), f, g) (some (kI (sUndo (f 30 1)))) ((kMC ++ w), (if f 30 1 = 0 then f else k_u (kBec (k_u f 30 1 (f 30 1 - 1)) 10 (st (f 30 1 - 1))) 12 1 0), g) := by
  refine kF_of (by decide) (by simp [k_one]) (Nat.le_of_ble_eq_true rfl) (L := [some (kA (0))]) rfl ?_
  have ek : (kBec (k_u f 30 1 (f 30 1 - 1)) 10 (st (f 30 1 - 1))) 30 1 = f 30 1 - 1 := by rw [kBec_eq 30 (by omega) (by omega), k_u_self]
  refine kw_aload_n dX6_back_0 rfl ?_
  refine kv_getR (b := 30) dX6_back_1 kf_X6_39 rfl rfl rfl (hg (0, 4, 30) (by decide)) ?_
  refine kv_getI (kz := 1) dX6_back_4 kf_X6_179 rfl rfl rfl rfl ?_
  refine kw_if_ne (tgt := 13) dX6_back_7 (by decide) (fun h1 => ?_) (fun h1 => ?_)
  · refine kw_aload_n dX6_back_13 rfl ?_
    refine kv_getR (b := 30) dX6_back_14 kf_X6_39 rfl rfl rfl (hg (0, 4, 30) (by decide)) ?_
    refine kw_aload_n dX6_back_17 rfl ?_
    refine kv_getR (b := 10) dX6_back_18 kf_X6_26 rfl rfl rfl (hg (0, 2, 10) (by decide)) ?_
    refine kv_callV0 (M2 := M_X3_moveLastTo) (As := [kA (10)]) dX6_back_21 ml_X6_182 q_X3_moveLastTo rfl rfl rfl (Nat.le_of_ble_eq_true rfl) (c_pmove_kept hg hst (by omega)) (by omega) ?_
    refine kw_aload_n dX6_back_24 rfl ?_
    refine kv_getR (b := 12) dX6_back_25 kf_X6_35 rfl rfl rfl (hg (0, 3, 12) (by decide)) ?_
    refine kv_callV0 (M2 := M_X3_clear) (As := []) dX6_back_28 ml_X6_91 q_X3_clear rfl rfl rfl (Nat.le_of_ble_eq_true rfl) (c_clear_past hg) (by omega) ?_
    refine kw_aload_n dX6_back_31 rfl ?_
    refine kv_getR (b := 30) dX6_back_32 kf_X6_39 rfl rfl rfl (hg (0, 4, 30) (by decide)) ?_
    refine kv_getI (kz := 1) dX6_back_35 kf_X6_179 rfl rfl rfl (k_u_ne (by omega)) ?_
    exact kv_ri dX6_back_38 rfl (Eq.symm (by unfold sUndo; first | (rw [if_pos (by omega)]; done) | (rw [if_neg (by omega)]; exact ek.symm))) (by first | rw [if_pos (by omega)] | rw [if_neg (by omega)])
  · refine kw_bipush dX6_back_10 (by decide) (by decide) ?_
    exact kv_ri dX6_back_12 rfl (Eq.symm (by unfold sUndo; first | (rw [if_pos (by omega)]; done) | (rw [if_neg (by omega)]; exact ek.symm))) (by first | rw [if_pos (by omega)] | rw [if_neg (by omega)])
