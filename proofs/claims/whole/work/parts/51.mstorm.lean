/-! the model: storm -/
theorem upi_same {s : Int → Int} {i : Int} : upi s i (s i) = s := by
  funext j
  by_cases e : j = i
  · rw [e, upi_self]
  · rw [upi_ne e]
theorem mOut_blow {T s t : Int → Int} {D : Int} (hT : mTO T) (h : mOut s t) : mOut s (mBlow T t D) := by
  have n0 := hT.1
  have hb := k_modb (D := D) hT
  unfold mBlow
  split
  · exact mOut_u h (by omega)
  · exact h
theorem mOut_stm {T s : Int → Int} {z : Int} (hT : mTO T) : ∀ n : Nat, mOut s (mStm T z n s)
  | 0 => mOut_rf
  | n + 1 => by
    have ih := mOut_stm (s := s) (z := z) hT n
    rw [mStm]
    refine mOut_each hT (mOut_blow hT ?_)
    split
    · exact ih
    · exact mOut_pass ih
theorem l_mstorm {E : kEnv} {f : Nat → Int → Int} {s : Int → Int} {g : Nat → Int → Option Nat} {d : Nat} {z m v bef : Int} {Q : Option kV → kH → Prop} (hd : 4 ≤ d) (hm : kGM g) (hT : mTO (f 47)) (hS0 : mSO (f 47) s) (h28 : 0 ≤ s 28 ∧ s 28 ≤ 99) (hz : 0 ≤ z ∧ z ≤ 9999) (hmm : 1 ≤ m ∧ m ≤ 30) (hx : ∀ o : Option kV × Option kV × Option kV × Option kV × Option kV, kW E d 0 0 M_X7_storm 202 [some (kA 45), some (kI z), some (kI m), some (kI v), some (kI bef), some (kI m), o.1, o.2.1, o.2.2.1, o.2.2.2.1, o.2.2.2.2] [] ((kMC ++ kMM), kst f 50 (mStm (f 47) z m.toNat s), g) Q) : ∀ (n : Nat) (k : Int) (o : Option kV × Option kV × Option kV × Option kV × Option kV), (0 ≤ k ∧ k ≤ m) → (m - k).toNat < n → kW E d 0 0 M_X7_storm 64 [some (kA 45), some (kI z), some (kI m), some (kI v), some (kI bef), some (kI k), o.1, o.2.1, o.2.2.1, o.2.2.2.1, o.2.2.2.2] [] ((kMC ++ kMM), kst f 50 (mStm (f 47) z k.toNat s), g) Q := by
  intro n
  induction n with
  | zero => intro k o _ y; omega
  | succ n ih =>
    intro k o y0 y1
    have n0 := hT.1
    have n1 := hT.2.1
    have n4 := hT.2.2.2.2.1
    have hS := mSO_stm (z := z) hT hS0 h28 k.toNat (by omega)
    have e28 := mStm_28 (s := s) (z := z) hT k.toNat
    have hdr := mDraw_rng (z := z) (k := k)
    have hsq : ∀ _ : Unit, k < m → 0 ≤ (7919 * z + 6151 * k + 1) * (7919 * z + 6151 * k + 1) ∧ (7919 * z + 6151 * k + 1) * (7919 * z + 6151 * k + 1) ≤ 6400000000000000 := fun _ q => mDraw_sq hz ⟨by omega, by omega⟩
    have hb := k_modb (D := mDraw z k) hT
    have e1 := mStm_s (T := f 47) (s := s) (z := z) y0.1
    obtain ⟨o6, o7, o8, o9, o10⟩ := o
    refine kw_iload dX7_storm_64 rfl ?_
    refine kw_iload_n dX7_storm_66 rfl ?_
    refine kw_icmp_ge (tgt := 202) dX7_storm_67 (by decide) (fun h1 => ?_) (fun h1 => ?_)
    · have e2 : k = m := by omega
      subst e2
      exact hx (_, _, _, _, _)
    · refine kw_iload dX7_storm_70 rfl ?_
      refine kw_if_le (tgt := 79) dX7_storm_72 (by decide) (fun h2 => ?_) (fun h2 => ?_)
      · refine kw_ldc2 dX7_storm_79 (z := 7919) kl_X7_145 ⟨by decide, by decide⟩ ?_
        refine kw_iload_n dX7_storm_82 rfl ?_
        refine kw_i2l dX7_storm_83 ?_
        refine kw_lmul dX7_storm_84 ⟨by omega, by omega⟩ ?_
        refine kw_ldc2 dX7_storm_85 (z := 6151) kl_X7_147 ⟨by decide, by decide⟩ ?_
        refine kw_iload dX7_storm_88 rfl ?_
        refine kw_i2l dX7_storm_90 ?_
        refine kw_lmul dX7_storm_91 ⟨by omega, by omega⟩ ?_
        refine kw_ladd dX7_storm_92 ⟨by omega, by omega⟩ ?_
        refine kw_lconst1 dX7_storm_93 ?_
        refine kw_ladd dX7_storm_94 ⟨by omega, by omega⟩ ?_
        refine kw_lstore dX7_storm_95 (by decide) trivial (L2 := [some (kA (45)), some (kI (z)), some (kI (m)), some (kI (v)), some (kI (bef)), some (kI (k)), some (kJ ((((7919) * (z)) + ((6151) * (k))) + (1))), none, o8, o9, o10]) rfl ?_
        refine kw_lload dX7_storm_97 rfl ?_
        refine kw_lload dX7_storm_99 rfl ?_
        have hs0 := hsq () (by omega)
        refine kw_lmul dX7_storm_101 ⟨by omega, by omega⟩ ?_
        refine kw_ldc2 dX7_storm_102 (z := 65521) kl_X7_149 ⟨by decide, by decide⟩ ?_
        refine kw_lrem dX7_storm_105 (by omega) (by omega) ?_
        refine kw_l2i dX7_storm_106 ⟨by omega, by omega⟩ ?_
        refine kw_iconst dX7_storm_107 ⟨by decide, by decide⟩ ?_
        refine kw_idiv dX7_storm_108 (by omega) (by omega) ?_
        rw [show (7919 * z + 6151 * k + 1) * (7919 * z + 6151 * k + 1) % 65521 / 2 = mDraw z k from rfl]
        refine kw_istore dX7_storm_109 (by decide) trivial (L2 := [some (kA (45)), some (kI (z)), some (kI (m)), some (kI (v)), some (kI (bef)), some (kI (k)), some (kJ ((((7919) * (z)) + ((6151) * (k))) + (1))), none, some (kI (mDraw z k)), o9, o10]) rfl ?_
        refine kw_iload dX7_storm_111 rfl ?_
        refine kw_aload_n dX7_storm_113 rfl ?_
        refine kv_getR (b := 47) dX7_storm_114 kf_X7_13 rfl rfl rfl (hm (45, 2, 47) (by decide)) ?_
        refine kw_iconst dX7_storm_117 ⟨by decide, by decide⟩ ?_
        refine kv_iald dX7_storm_118 rfl (by omega) (by omega) (congrFun (kst_ne (by decide)) _) ?_
        refine kw_irem dX7_storm_119 (by omega) (by omega) ?_
        have sb := hS.2.1 (mDraw z k % f 47 0) hb.1 hb.2
        have gb := (hS.1 (mDraw z k % f 47 0) hb.1 (by omega)).1
        refine kw_istore dX7_storm_120 (by decide) trivial (L2 := [some (kA (45)), some (kI (z)), some (kI (m)), some (kI (v)), some (kI (bef)), some (kI (k)), some (kJ ((((7919) * (z)) + ((6151) * (k))) + (1))), none, some (kI (mDraw z k)), some (kI ((mDraw z k) % (f 47 0))), o10]) rfl ?_
        refine kw_aload_n dX7_storm_122 rfl ?_
        refine kv_getR (b := 50) dX7_storm_123 kf_X7_22 rfl rfl rfl (hm (45, 5, 50) (by decide)) ?_
        refine kw_bipush dX7_storm_126 (by decide) (by decide) ?_
        refine kv_iald dX7_storm_128 rfl (by omega) (by omega) (congrFun kst_self _) ?_
        refine kw_aload_n dX7_storm_129 rfl ?_
        refine kv_getR (b := 47) dX7_storm_130 kf_X7_13 rfl rfl rfl (hm (45, 2, 47) (by decide)) ?_
        refine kw_iconst dX7_storm_133 ⟨by decide, by decide⟩ ?_
        refine kv_iald dX7_storm_134 rfl (by omega) (by omega) (congrFun (kst_ne (by decide)) _) ?_
        refine kw_isub dX7_storm_135 ⟨by omega, by omega⟩ ?_
        refine kw_istore dX7_storm_136 (by decide) trivial (L2 := [some (kA (45)), some (kI (z)), some (kI (m)), some (kI (v)), some (kI (bef)), some (kI (k)), some (kJ ((((7919) * (z)) + ((6151) * (k))) + (1))), none, some (kI (mDraw z k)), some (kI ((mDraw z k) % (f 47 0))), some (kI (((mStm (f 47) z k.toNat s) 28) - (f 47 4)))]) rfl ?_
        refine kw_aload_n dX7_storm_138 rfl ?_
        refine kv_getR (b := 50) dX7_storm_139 kf_X7_22 rfl rfl rfl (hm (45, 5, 50) (by decide)) ?_
        refine kw_iload dX7_storm_142 rfl ?_
        refine kw_iload dX7_storm_144 rfl ?_
        refine kw_bipush dX7_storm_146 (by decide) (by decide) ?_
        refine kw_idiv dX7_storm_148 (by omega) (by omega) ?_
        refine kw_iconst dX7_storm_149 ⟨by decide, by decide⟩ ?_
        refine kw_irem dX7_storm_150 (by omega) (by omega) ?_
        refine kw_if_ne (tgt := 184) dX7_storm_151 (by decide) (fun h3 => ?_) (fun h3 => ?_)
        · refine kw_aload_n dX7_storm_184 rfl ?_
          refine kv_getR (b := 50) dX7_storm_185 kf_X7_22 rfl rfl rfl (hm (45, 5, 50) (by decide)) ?_
          refine kw_iload dX7_storm_188 rfl ?_
          refine kv_iald dX7_storm_190 rfl (by omega) (by omega) (congrFun kst_self _) ?_
          refine kv_iast dX7_storm_191 rfl (by omega) (by omega) ?_
          rw [kst_u]
          have eb : upi (mStm (f 47) z k.toNat s) ((mDraw z k) % (f 47 0)) ((mStm (f 47) z k.toNat s) ((mDraw z k) % (f 47 0))) = mBlow (f 47) (mStm (f 47) z k.toNat s) (mDraw z k) := by
            unfold mBlow
            first
              | rw [if_pos ⟨by omega, by omega, by omega⟩]
              | rw [if_neg (fun q => by omega), upi_same]
          rw [eb]
          have hSB := mSO_blow (D := mDraw z k) hT hS (by omega)
          rw [if_pos (by omega)] at e1
          refine kw_aload_n dX7_storm_192 rfl ?_
          refine kv_callV0 (M2 := M_X7_eachTakes) (As := []) dX7_storm_193 ml_X7_123 q_X7_eachTakes rfl rfl rfl (Nat.le_of_ble_eq_true rfl) (c_meach hm hT hSB) (by omega) ?_
          refine kw_iinc dX7_storm_196 (by decide) rfl ⟨by omega, by omega⟩ trivial (L2 := [some (kA (45)), some (kI (z)), some (kI (m)), some (kI (v)), some (kI (bef)), some (kI (k + 1)), some (kJ ((((7919) * (z)) + ((6151) * (k))) + (1))), none, some (kI (mDraw z k)), some (kI ((mDraw z k) % (f 47 0))), some (kI (((mStm (f 47) z k.toNat s) 28) - (f 47 4)))]) rfl ?_
          refine kw_goto (tgt := 64) dX7_storm_199 (by decide) ?_
          rw [← e1]
          exact ih (k + 1) (_, _, _, _, _) ⟨by omega, by omega⟩ (by omega)
        · refine kw_aload_n dX7_storm_154 rfl ?_
          refine kv_getR (b := 50) dX7_storm_155 kf_X7_22 rfl rfl rfl (hm (45, 5, 50) (by decide)) ?_
          refine kw_bipush dX7_storm_158 (by decide) (by decide) ?_
          refine kw_iload dX7_storm_160 rfl ?_
          refine kw_iadd dX7_storm_162 ⟨by omega, by omega⟩ ?_
          refine kv_iald dX7_storm_163 rfl (by omega) (by omega) (congrFun kst_self _) ?_
          refine kw_if_ne (tgt := 184) dX7_storm_164 (by decide) (fun h4 => ?_) (fun h4 => ?_)
          · refine kw_aload_n dX7_storm_184 rfl ?_
            refine kv_getR (b := 50) dX7_storm_185 kf_X7_22 rfl rfl rfl (hm (45, 5, 50) (by decide)) ?_
            refine kw_iload dX7_storm_188 rfl ?_
            refine kv_iald dX7_storm_190 rfl (by omega) (by omega) (congrFun kst_self _) ?_
            refine kv_iast dX7_storm_191 rfl (by omega) (by omega) ?_
            rw [kst_u]
            have eb : upi (mStm (f 47) z k.toNat s) ((mDraw z k) % (f 47 0)) ((mStm (f 47) z k.toNat s) ((mDraw z k) % (f 47 0))) = mBlow (f 47) (mStm (f 47) z k.toNat s) (mDraw z k) := by
              unfold mBlow
              first
                | rw [if_pos ⟨by omega, by omega, by omega⟩]
                | rw [if_neg (fun q => by omega), upi_same]
            rw [eb]
            have hSB := mSO_blow (D := mDraw z k) hT hS (by omega)
            rw [if_pos (by omega)] at e1
            refine kw_aload_n dX7_storm_192 rfl ?_
            refine kv_callV0 (M2 := M_X7_eachTakes) (As := []) dX7_storm_193 ml_X7_123 q_X7_eachTakes rfl rfl rfl (Nat.le_of_ble_eq_true rfl) (c_meach hm hT hSB) (by omega) ?_
            refine kw_iinc dX7_storm_196 (by decide) rfl ⟨by omega, by omega⟩ trivial (L2 := [some (kA (45)), some (kI (z)), some (kI (m)), some (kI (v)), some (kI (bef)), some (kI (k + 1)), some (kJ ((((7919) * (z)) + ((6151) * (k))) + (1))), none, some (kI (mDraw z k)), some (kI ((mDraw z k) % (f 47 0))), some (kI (((mStm (f 47) z k.toNat s) 28) - (f 47 4)))]) rfl ?_
            refine kw_goto (tgt := 64) dX7_storm_199 (by decide) ?_
            rw [← e1]
            exact ih (k + 1) (_, _, _, _, _) ⟨by omega, by omega⟩ (by omega)
          · refine kw_aload_n dX7_storm_167 rfl ?_
            refine kv_getR (b := 50) dX7_storm_168 kf_X7_22 rfl rfl rfl (hm (45, 5, 50) (by decide)) ?_
            refine kw_iload dX7_storm_171 rfl ?_
            refine kv_iald dX7_storm_173 rfl (by omega) (by omega) (congrFun kst_self _) ?_
            refine kw_iload dX7_storm_174 rfl ?_
            refine kw_icmp_le (tgt := 184) dX7_storm_176 (by decide) (fun h5 => ?_) (fun h5 => ?_)
            · refine kw_aload_n dX7_storm_184 rfl ?_
              refine kv_getR (b := 50) dX7_storm_185 kf_X7_22 rfl rfl rfl (hm (45, 5, 50) (by decide)) ?_
              refine kw_iload dX7_storm_188 rfl ?_
              refine kv_iald dX7_storm_190 rfl (by omega) (by omega) (congrFun kst_self _) ?_
              refine kv_iast dX7_storm_191 rfl (by omega) (by omega) ?_
              rw [kst_u]
              have eb : upi (mStm (f 47) z k.toNat s) ((mDraw z k) % (f 47 0)) ((mStm (f 47) z k.toNat s) ((mDraw z k) % (f 47 0))) = mBlow (f 47) (mStm (f 47) z k.toNat s) (mDraw z k) := by
                unfold mBlow
                first
                  | rw [if_pos ⟨by omega, by omega, by omega⟩]
                  | rw [if_neg (fun q => by omega), upi_same]
              rw [eb]
              have hSB := mSO_blow (D := mDraw z k) hT hS (by omega)
              rw [if_pos (by omega)] at e1
              refine kw_aload_n dX7_storm_192 rfl ?_
              refine kv_callV0 (M2 := M_X7_eachTakes) (As := []) dX7_storm_193 ml_X7_123 q_X7_eachTakes rfl rfl rfl (Nat.le_of_ble_eq_true rfl) (c_meach hm hT hSB) (by omega) ?_
              refine kw_iinc dX7_storm_196 (by decide) rfl ⟨by omega, by omega⟩ trivial (L2 := [some (kA (45)), some (kI (z)), some (kI (m)), some (kI (v)), some (kI (bef)), some (kI (k + 1)), some (kJ ((((7919) * (z)) + ((6151) * (k))) + (1))), none, some (kI (mDraw z k)), some (kI ((mDraw z k) % (f 47 0))), some (kI (((mStm (f 47) z k.toNat s) 28) - (f 47 4)))]) rfl ?_
              refine kw_goto (tgt := 64) dX7_storm_199 (by decide) ?_
              rw [← e1]
              exact ih (k + 1) (_, _, _, _, _) ⟨by omega, by omega⟩ (by omega)
            · refine kw_iload dX7_storm_179 rfl ?_
              refine kw_goto (tgt := 191) dX7_storm_181 (by decide) ?_
              refine kv_iast dX7_storm_191 rfl (by omega) (by omega) ?_
              rw [kst_u]
              have eb : upi (mStm (f 47) z k.toNat s) ((mDraw z k) % (f 47 0)) (((mStm (f 47) z k.toNat s) 28) - (f 47 4)) = mBlow (f 47) (mStm (f 47) z k.toNat s) (mDraw z k) := by
                unfold mBlow
                first
                  | rw [if_pos ⟨by omega, by omega, by omega⟩]
                  | rw [if_neg (fun q => by omega), upi_same]
              rw [eb]
              have hSB := mSO_blow (D := mDraw z k) hT hS (by omega)
              rw [if_pos (by omega)] at e1
              refine kw_aload_n dX7_storm_192 rfl ?_
              refine kv_callV0 (M2 := M_X7_eachTakes) (As := []) dX7_storm_193 ml_X7_123 q_X7_eachTakes rfl rfl rfl (Nat.le_of_ble_eq_true rfl) (c_meach hm hT hSB) (by omega) ?_
              refine kw_iinc dX7_storm_196 (by decide) rfl ⟨by omega, by omega⟩ trivial (L2 := [some (kA (45)), some (kI (z)), some (kI (m)), some (kI (v)), some (kI (bef)), some (kI (k + 1)), some (kJ ((((7919) * (z)) + ((6151) * (k))) + (1))), none, some (kI (mDraw z k)), some (kI ((mDraw z k) % (f 47 0))), some (kI (((mStm (f 47) z k.toNat s) 28) - (f 47 4)))]) rfl ?_
              refine kw_goto (tgt := 64) dX7_storm_199 (by decide) ?_
              rw [← e1]
              exact ih (k + 1) (_, _, _, _, _) ⟨by omega, by omega⟩ (by omega)
      · refine kw_aload_n dX7_storm_75 rfl ?_
        refine kv_callV0 (M2 := M_X7_passes) (As := []) dX7_storm_76 ml_X7_120 q_X7_passes rfl rfl rfl (Nat.le_of_ble_eq_true rfl) (c_mpasses hm (by omega)) (by omega) ?_
        have hS := mSO_pass hT hS
        have e28 : mPass (mStm (f 47) z k.toNat s) 28 = (mStm (f 47) z k.toNat s) 28 + 1 := mPass_d
        refine kw_ldc2 dX7_storm_79 (z := 7919) kl_X7_145 ⟨by decide, by decide⟩ ?_
        refine kw_iload_n dX7_storm_82 rfl ?_
        refine kw_i2l dX7_storm_83 ?_
        refine kw_lmul dX7_storm_84 ⟨by omega, by omega⟩ ?_
        refine kw_ldc2 dX7_storm_85 (z := 6151) kl_X7_147 ⟨by decide, by decide⟩ ?_
        refine kw_iload dX7_storm_88 rfl ?_
        refine kw_i2l dX7_storm_90 ?_
        refine kw_lmul dX7_storm_91 ⟨by omega, by omega⟩ ?_
        refine kw_ladd dX7_storm_92 ⟨by omega, by omega⟩ ?_
        refine kw_lconst1 dX7_storm_93 ?_
        refine kw_ladd dX7_storm_94 ⟨by omega, by omega⟩ ?_
        refine kw_lstore dX7_storm_95 (by decide) trivial (L2 := [some (kA (45)), some (kI (z)), some (kI (m)), some (kI (v)), some (kI (bef)), some (kI (k)), some (kJ ((((7919) * (z)) + ((6151) * (k))) + (1))), none, o8, o9, o10]) rfl ?_
        refine kw_lload dX7_storm_97 rfl ?_
        refine kw_lload dX7_storm_99 rfl ?_
        have hs0 := hsq () (by omega)
        refine kw_lmul dX7_storm_101 ⟨by omega, by omega⟩ ?_
        refine kw_ldc2 dX7_storm_102 (z := 65521) kl_X7_149 ⟨by decide, by decide⟩ ?_
        refine kw_lrem dX7_storm_105 (by omega) (by omega) ?_
        refine kw_l2i dX7_storm_106 ⟨by omega, by omega⟩ ?_
        refine kw_iconst dX7_storm_107 ⟨by decide, by decide⟩ ?_
        refine kw_idiv dX7_storm_108 (by omega) (by omega) ?_
        rw [show (7919 * z + 6151 * k + 1) * (7919 * z + 6151 * k + 1) % 65521 / 2 = mDraw z k from rfl]
        refine kw_istore dX7_storm_109 (by decide) trivial (L2 := [some (kA (45)), some (kI (z)), some (kI (m)), some (kI (v)), some (kI (bef)), some (kI (k)), some (kJ ((((7919) * (z)) + ((6151) * (k))) + (1))), none, some (kI (mDraw z k)), o9, o10]) rfl ?_
        refine kw_iload dX7_storm_111 rfl ?_
        refine kw_aload_n dX7_storm_113 rfl ?_
        refine kv_getR (b := 47) dX7_storm_114 kf_X7_13 rfl rfl rfl (hm (45, 2, 47) (by decide)) ?_
        refine kw_iconst dX7_storm_117 ⟨by decide, by decide⟩ ?_
        refine kv_iald dX7_storm_118 rfl (by omega) (by omega) (congrFun (kst_ne (by decide)) _) ?_
        refine kw_irem dX7_storm_119 (by omega) (by omega) ?_
        have sb := hS.2.1 (mDraw z k % f 47 0) hb.1 hb.2
        have gb := (hS.1 (mDraw z k % f 47 0) hb.1 (by omega)).1
        refine kw_istore dX7_storm_120 (by decide) trivial (L2 := [some (kA (45)), some (kI (z)), some (kI (m)), some (kI (v)), some (kI (bef)), some (kI (k)), some (kJ ((((7919) * (z)) + ((6151) * (k))) + (1))), none, some (kI (mDraw z k)), some (kI ((mDraw z k) % (f 47 0))), o10]) rfl ?_
        refine kw_aload_n dX7_storm_122 rfl ?_
        refine kv_getR (b := 50) dX7_storm_123 kf_X7_22 rfl rfl rfl (hm (45, 5, 50) (by decide)) ?_
        refine kw_bipush dX7_storm_126 (by decide) (by decide) ?_
        refine kv_iald dX7_storm_128 rfl (by omega) (by omega) (congrFun kst_self _) ?_
        refine kw_aload_n dX7_storm_129 rfl ?_
        refine kv_getR (b := 47) dX7_storm_130 kf_X7_13 rfl rfl rfl (hm (45, 2, 47) (by decide)) ?_
        refine kw_iconst dX7_storm_133 ⟨by decide, by decide⟩ ?_
        refine kv_iald dX7_storm_134 rfl (by omega) (by omega) (congrFun (kst_ne (by decide)) _) ?_
        refine kw_isub dX7_storm_135 ⟨by omega, by omega⟩ ?_
        refine kw_istore dX7_storm_136 (by decide) trivial (L2 := [some (kA (45)), some (kI (z)), some (kI (m)), some (kI (v)), some (kI (bef)), some (kI (k)), some (kJ ((((7919) * (z)) + ((6151) * (k))) + (1))), none, some (kI (mDraw z k)), some (kI ((mDraw z k) % (f 47 0))), some (kI (((mPass (mStm (f 47) z k.toNat s)) 28) - (f 47 4)))]) rfl ?_
        refine kw_aload_n dX7_storm_138 rfl ?_
        refine kv_getR (b := 50) dX7_storm_139 kf_X7_22 rfl rfl rfl (hm (45, 5, 50) (by decide)) ?_
        refine kw_iload dX7_storm_142 rfl ?_
        refine kw_iload dX7_storm_144 rfl ?_
        refine kw_bipush dX7_storm_146 (by decide) (by decide) ?_
        refine kw_idiv dX7_storm_148 (by omega) (by omega) ?_
        refine kw_iconst dX7_storm_149 ⟨by decide, by decide⟩ ?_
        refine kw_irem dX7_storm_150 (by omega) (by omega) ?_
        refine kw_if_ne (tgt := 184) dX7_storm_151 (by decide) (fun h6 => ?_) (fun h6 => ?_)
        · refine kw_aload_n dX7_storm_184 rfl ?_
          refine kv_getR (b := 50) dX7_storm_185 kf_X7_22 rfl rfl rfl (hm (45, 5, 50) (by decide)) ?_
          refine kw_iload dX7_storm_188 rfl ?_
          refine kv_iald dX7_storm_190 rfl (by omega) (by omega) (congrFun kst_self _) ?_
          refine kv_iast dX7_storm_191 rfl (by omega) (by omega) ?_
          rw [kst_u]
          have eb : upi (mPass (mStm (f 47) z k.toNat s)) ((mDraw z k) % (f 47 0)) ((mPass (mStm (f 47) z k.toNat s)) ((mDraw z k) % (f 47 0))) = mBlow (f 47) (mPass (mStm (f 47) z k.toNat s)) (mDraw z k) := by
            unfold mBlow
            first
              | rw [if_pos ⟨by omega, by omega, by omega⟩]
              | rw [if_neg (fun q => by omega), upi_same]
          rw [eb]
          have hSB := mSO_blow (D := mDraw z k) hT hS (by omega)
          rw [if_neg (by omega)] at e1
          refine kw_aload_n dX7_storm_192 rfl ?_
          refine kv_callV0 (M2 := M_X7_eachTakes) (As := []) dX7_storm_193 ml_X7_123 q_X7_eachTakes rfl rfl rfl (Nat.le_of_ble_eq_true rfl) (c_meach hm hT hSB) (by omega) ?_
          refine kw_iinc dX7_storm_196 (by decide) rfl ⟨by omega, by omega⟩ trivial (L2 := [some (kA (45)), some (kI (z)), some (kI (m)), some (kI (v)), some (kI (bef)), some (kI (k + 1)), some (kJ ((((7919) * (z)) + ((6151) * (k))) + (1))), none, some (kI (mDraw z k)), some (kI ((mDraw z k) % (f 47 0))), some (kI (((mPass (mStm (f 47) z k.toNat s)) 28) - (f 47 4)))]) rfl ?_
          refine kw_goto (tgt := 64) dX7_storm_199 (by decide) ?_
          rw [← e1]
          exact ih (k + 1) (_, _, _, _, _) ⟨by omega, by omega⟩ (by omega)
        · refine kw_aload_n dX7_storm_154 rfl ?_
          refine kv_getR (b := 50) dX7_storm_155 kf_X7_22 rfl rfl rfl (hm (45, 5, 50) (by decide)) ?_
          refine kw_bipush dX7_storm_158 (by decide) (by decide) ?_
          refine kw_iload dX7_storm_160 rfl ?_
          refine kw_iadd dX7_storm_162 ⟨by omega, by omega⟩ ?_
          refine kv_iald dX7_storm_163 rfl (by omega) (by omega) (congrFun kst_self _) ?_
          refine kw_if_ne (tgt := 184) dX7_storm_164 (by decide) (fun h7 => ?_) (fun h7 => ?_)
          · refine kw_aload_n dX7_storm_184 rfl ?_
            refine kv_getR (b := 50) dX7_storm_185 kf_X7_22 rfl rfl rfl (hm (45, 5, 50) (by decide)) ?_
            refine kw_iload dX7_storm_188 rfl ?_
            refine kv_iald dX7_storm_190 rfl (by omega) (by omega) (congrFun kst_self _) ?_
            refine kv_iast dX7_storm_191 rfl (by omega) (by omega) ?_
            rw [kst_u]
            have eb : upi (mPass (mStm (f 47) z k.toNat s)) ((mDraw z k) % (f 47 0)) ((mPass (mStm (f 47) z k.toNat s)) ((mDraw z k) % (f 47 0))) = mBlow (f 47) (mPass (mStm (f 47) z k.toNat s)) (mDraw z k) := by
              unfold mBlow
              first
                | rw [if_pos ⟨by omega, by omega, by omega⟩]
                | rw [if_neg (fun q => by omega), upi_same]
            rw [eb]
            have hSB := mSO_blow (D := mDraw z k) hT hS (by omega)
            rw [if_neg (by omega)] at e1
            refine kw_aload_n dX7_storm_192 rfl ?_
            refine kv_callV0 (M2 := M_X7_eachTakes) (As := []) dX7_storm_193 ml_X7_123 q_X7_eachTakes rfl rfl rfl (Nat.le_of_ble_eq_true rfl) (c_meach hm hT hSB) (by omega) ?_
            refine kw_iinc dX7_storm_196 (by decide) rfl ⟨by omega, by omega⟩ trivial (L2 := [some (kA (45)), some (kI (z)), some (kI (m)), some (kI (v)), some (kI (bef)), some (kI (k + 1)), some (kJ ((((7919) * (z)) + ((6151) * (k))) + (1))), none, some (kI (mDraw z k)), some (kI ((mDraw z k) % (f 47 0))), some (kI (((mPass (mStm (f 47) z k.toNat s)) 28) - (f 47 4)))]) rfl ?_
            refine kw_goto (tgt := 64) dX7_storm_199 (by decide) ?_
            rw [← e1]
            exact ih (k + 1) (_, _, _, _, _) ⟨by omega, by omega⟩ (by omega)
          · refine kw_aload_n dX7_storm_167 rfl ?_
            refine kv_getR (b := 50) dX7_storm_168 kf_X7_22 rfl rfl rfl (hm (45, 5, 50) (by decide)) ?_
            refine kw_iload dX7_storm_171 rfl ?_
            refine kv_iald dX7_storm_173 rfl (by omega) (by omega) (congrFun kst_self _) ?_
            refine kw_iload dX7_storm_174 rfl ?_
            refine kw_icmp_le (tgt := 184) dX7_storm_176 (by decide) (fun h8 => ?_) (fun h8 => ?_)
            · refine kw_aload_n dX7_storm_184 rfl ?_
              refine kv_getR (b := 50) dX7_storm_185 kf_X7_22 rfl rfl rfl (hm (45, 5, 50) (by decide)) ?_
              refine kw_iload dX7_storm_188 rfl ?_
              refine kv_iald dX7_storm_190 rfl (by omega) (by omega) (congrFun kst_self _) ?_
              refine kv_iast dX7_storm_191 rfl (by omega) (by omega) ?_
              rw [kst_u]
              have eb : upi (mPass (mStm (f 47) z k.toNat s)) ((mDraw z k) % (f 47 0)) ((mPass (mStm (f 47) z k.toNat s)) ((mDraw z k) % (f 47 0))) = mBlow (f 47) (mPass (mStm (f 47) z k.toNat s)) (mDraw z k) := by
                unfold mBlow
                first
                  | rw [if_pos ⟨by omega, by omega, by omega⟩]
                  | rw [if_neg (fun q => by omega), upi_same]
              rw [eb]
              have hSB := mSO_blow (D := mDraw z k) hT hS (by omega)
              rw [if_neg (by omega)] at e1
              refine kw_aload_n dX7_storm_192 rfl ?_
              refine kv_callV0 (M2 := M_X7_eachTakes) (As := []) dX7_storm_193 ml_X7_123 q_X7_eachTakes rfl rfl rfl (Nat.le_of_ble_eq_true rfl) (c_meach hm hT hSB) (by omega) ?_
              refine kw_iinc dX7_storm_196 (by decide) rfl ⟨by omega, by omega⟩ trivial (L2 := [some (kA (45)), some (kI (z)), some (kI (m)), some (kI (v)), some (kI (bef)), some (kI (k + 1)), some (kJ ((((7919) * (z)) + ((6151) * (k))) + (1))), none, some (kI (mDraw z k)), some (kI ((mDraw z k) % (f 47 0))), some (kI (((mPass (mStm (f 47) z k.toNat s)) 28) - (f 47 4)))]) rfl ?_
              refine kw_goto (tgt := 64) dX7_storm_199 (by decide) ?_
              rw [← e1]
              exact ih (k + 1) (_, _, _, _, _) ⟨by omega, by omega⟩ (by omega)
            · refine kw_iload dX7_storm_179 rfl ?_
              refine kw_goto (tgt := 191) dX7_storm_181 (by decide) ?_
              refine kv_iast dX7_storm_191 rfl (by omega) (by omega) ?_
              rw [kst_u]
              have eb : upi (mPass (mStm (f 47) z k.toNat s)) ((mDraw z k) % (f 47 0)) (((mPass (mStm (f 47) z k.toNat s)) 28) - (f 47 4)) = mBlow (f 47) (mPass (mStm (f 47) z k.toNat s)) (mDraw z k) := by
                unfold mBlow
                first
                  | rw [if_pos ⟨by omega, by omega, by omega⟩]
                  | rw [if_neg (fun q => by omega), upi_same]
              rw [eb]
              have hSB := mSO_blow (D := mDraw z k) hT hS (by omega)
              rw [if_neg (by omega)] at e1
              refine kw_aload_n dX7_storm_192 rfl ?_
              refine kv_callV0 (M2 := M_X7_eachTakes) (As := []) dX7_storm_193 ml_X7_123 q_X7_eachTakes rfl rfl rfl (Nat.le_of_ble_eq_true rfl) (c_meach hm hT hSB) (by omega) ?_
              refine kw_iinc dX7_storm_196 (by decide) rfl ⟨by omega, by omega⟩ trivial (L2 := [some (kA (45)), some (kI (z)), some (kI (m)), some (kI (v)), some (kI (bef)), some (kI (k + 1)), some (kJ ((((7919) * (z)) + ((6151) * (k))) + (1))), none, some (kI (mDraw z k)), some (kI ((mDraw z k) % (f 47 0))), some (kI (((mPass (mStm (f 47) z k.toNat s)) 28) - (f 47 4)))]) rfl ?_
              refine kw_goto (tgt := 64) dX7_storm_199 (by decide) ?_
              rw [← e1]
              exact ih (k + 1) (_, _, _, _, _) ⟨by omega, by omega⟩ (by omega)
theorem c_mstorm {E : kEnv} {f : Nat → Int → Int} {s : Int → Int} {g : Nat → Int → Option Nat} {z m v : Int} (hm : kGM g) (hT : mTO (f 47)) (hS : mSO (f 47) s) (h28 : 0 ≤ s 28 ∧ s 28 ≤ 99) : kFE E 5 M_X7_storm [kA (45), kI (z), kI (m), kI (v)] ((kMC ++ kMM), kst f 50 s, g) (some (kI (sStorm (f 47) s z m v))) (kMC ++ kMM) (fun h2 => h2 = kst f 50 s ∨ h2 = kst (kHd f s 29) 50 s) g := by
  refine kFE_of (by decide) (by simp [k_one]) (Nat.le_of_ble_eq_true rfl) (L := [some (kA (45)), some (kI (z)), some (kI (m)), some (kI (v)), none, none, none, none, none, none, none]) rfl ?_
  have n0 := hT.1
  have n1 := hT.2.1
  refine kw_iload_n dX7_storm_0 rfl ?_
  refine kw_iconst dX7_storm_1 ⟨by decide, by decide⟩ ?_
  refine kw_sipush dX7_storm_2 (by decide) (by decide) ?_
  refine kv_callS1 (M2 := M_X7_in) (As := [kI (z), kI (0), kI (9999)]) dX7_storm_5 ml_X7_54 q_X7_in rfl (Nat.le_of_ble_eq_true rfl) (c_min) (by omega) ?_
  refine kv_ifeqB (tgt := 30) dX7_storm_8 (by decide) (fun h1 => ?_) (fun h1 => ?_)
  · refine kw_iconst dX7_storm_30 ⟨by decide, by decide⟩ ?_
    exact kv_riE dX7_storm_31 rfl (Eq.symm (by unfold sStorm; rw [if_neg (by omega)])) (Or.inl rfl)
  · refine kw_iload_n dX7_storm_11 rfl ?_
    refine kw_iconst dX7_storm_12 ⟨by decide, by decide⟩ ?_
    refine kw_bipush dX7_storm_13 (by decide) (by decide) ?_
    refine kv_callS1 (M2 := M_X7_in) (As := [kI (m), kI (1), kI (30)]) dX7_storm_15 ml_X7_54 q_X7_in rfl (Nat.le_of_ble_eq_true rfl) (c_min) (by omega) ?_
    refine kv_ifeqB (tgt := 30) dX7_storm_18 (by decide) (fun h2 => ?_) (fun h2 => ?_)
    · refine kw_iconst dX7_storm_30 ⟨by decide, by decide⟩ ?_
      exact kv_riE dX7_storm_31 rfl (Eq.symm (by unfold sStorm; rw [if_neg (by omega)])) (Or.inl rfl)
    · refine kw_iload_n dX7_storm_21 rfl ?_
      refine kw_iconst dX7_storm_22 ⟨by decide, by decide⟩ ?_
      refine kw_iconst dX7_storm_23 ⟨by decide, by decide⟩ ?_
      refine kv_callS1 (M2 := M_X7_in) (As := [kI (v), kI (0), kI (1)]) dX7_storm_24 ml_X7_54 q_X7_in rfl (Nat.le_of_ble_eq_true rfl) (c_min) (by omega) ?_
      refine kv_ifneB (tgt := 32) dX7_storm_27 (by decide) (fun h3 => ?_) (fun h3 => ?_)
      · refine kw_aload_n dX7_storm_32 rfl ?_
        refine kv_getR (b := 50) dX7_storm_33 kf_X7_22 rfl rfl rfl (hm (45, 5, 50) (by decide)) ?_
        refine kw_bipush dX7_storm_36 (by decide) (by decide) ?_
        refine kv_iald dX7_storm_38 rfl (by omega) (by omega) (congrFun kst_self _) ?_
        refine kw_iload_n dX7_storm_39 rfl ?_
        refine kw_iadd dX7_storm_40 ⟨by omega, by omega⟩ ?_
        refine kw_iconst dX7_storm_41 ⟨by decide, by decide⟩ ?_
        refine kw_isub dX7_storm_42 ⟨by omega, by omega⟩ ?_
        refine kw_bipush dX7_storm_43 (by decide) (by decide) ?_
        refine kw_icmp_le (tgt := 51) dX7_storm_45 (by decide) (fun h4 => ?_) (fun h4 => ?_)
        · refine kw_aload_n dX7_storm_51 rfl ?_
          refine kv_callV0 (M2 := M_X7_holds) (As := []) dX7_storm_52 ml_X7_129 q_X7_holds rfl rfl rfl (Nat.le_of_ble_eq_true rfl) (c_mholds hm) (by omega) ?_
          refine kw_aload_n dX7_storm_55 rfl ?_
          refine kv_callV1 (M2 := M_X7_weighs) (As := []) dX7_storm_56 ml_X7_142 q_X7_weighs rfl rfl rfl (Nat.le_of_ble_eq_true rfl) (show kF E 0 M_X7_weighs [kA 45] ((kMC ++ kMM), kst (kHd f s 29) 50 s, g) (some (kI (sWg (f 47) s (f 47 0).toNat))) ((kMC ++ kMM), kst (kHd f s 29) 50 s, g) from c_mweighs (f := (kHd f s 29)) hm hT hS) (by omega) ?_
          refine kw_istore dX7_storm_59 (by decide) trivial (L2 := [some (kA (45)), some (kI (z)), some (kI (m)), some (kI (v)), some (kI (sWg (f 47) s (f 47 0).toNat)), none, none, none, none, none, none]) rfl ?_
          refine kw_iconst dX7_storm_61 ⟨by decide, by decide⟩ ?_
          refine kw_istore dX7_storm_62 (by decide) trivial (L2 := [some (kA (45)), some (kI (z)), some (kI (m)), some (kI (v)), some (kI (sWg (f 47) s (f 47 0).toNat)), some (kI (0)), none, none, none, none, none]) rfl ?_
          have e47 : (kHd f s 29) 47 = f 47 := rfl
          have hSm := mSO_stm (z := z) hT hS h28 m.toNat (by omega)
          have w1 := sWg_rng hT hS (f 47 0).toNat (Nat.le_refl _)
          have w2 := sWg_rng hT hSm (f 47 0).toNat (Nat.le_refl _)
          refine l_mstorm (f := (kHd f s 29)) (by omega) hm hT hS h28 ⟨by omega, by omega⟩ ⟨by omega, by omega⟩ (fun o => ?_) _ 0 (none, none, none, none, none) ⟨by omega, by omega⟩ (Nat.lt_succ_self _)
          rw [e47]
          refine kw_iload_n dX7_storm_202 rfl ?_
          refine kw_if_ne (tgt := 213) dX7_storm_203 (by decide) (fun h1 => ?_) (fun h1 => ?_)
          · refine kw_aload_n dX7_storm_213 rfl ?_
            refine kv_callV1 (M2 := M_X7_weighs) (As := []) dX7_storm_214 ml_X7_142 q_X7_weighs rfl rfl rfl (Nat.le_of_ble_eq_true rfl) (show kF E 0 M_X7_weighs [kA 45] ((kMC ++ kMM), kst (kHd f s 29) 50 ((mStm (f 47) z m.toNat s)), g) (some (kI (sWg (f 47) ((mStm (f 47) z m.toNat s)) (f 47 0).toNat))) ((kMC ++ kMM), kst (kHd f s 29) 50 ((mStm (f 47) z m.toNat s)), g) from c_mweighs (f := (kHd f s 29)) hm hT hSm) (by omega) ?_
            refine kw_iload dX7_storm_217 rfl ?_
            refine kw_isub dX7_storm_219 ⟨by omega, by omega⟩ ?_
            refine kw_istore dX7_storm_220 (by decide) trivial (L2 := [some (kA (45)), some (kI (z)), some (kI (m)), some (kI (v)), some (kI (sWg (f 47) s (f 47 0).toNat)), some (kI ((sWg (f 47) ((mStm (f 47) z m.toNat s)) (f 47 0).toNat) - (sWg (f 47) s (f 47 0).toNat))), o.1, o.2.1, o.2.2.1, o.2.2.2.1, o.2.2.2.2]) rfl ?_
            refine kw_aload_n dX7_storm_222 rfl ?_
            refine kv_callV0 (M2 := M_X7_lets) (As := []) dX7_storm_223 ml_X7_135 q_X7_lets rfl rfl rfl (Nat.le_of_ble_eq_true rfl) (c_mlets (s := s) hm (fun j hj => if_pos ⟨rfl, hj.1, hj.2⟩) (mOut_stm hT _)) (by omega) ?_
            refine kw_iload dX7_storm_226 rfl ?_
            exact kv_riE dX7_storm_228 rfl (Eq.symm (by unfold sStorm; rw [if_pos (by omega), if_pos (by omega), if_neg (by omega)])) (Or.inr rfl)
          · refine kw_aload_n dX7_storm_206 rfl ?_
            refine kv_callV1 (M2 := M_X7_warm) (As := []) dX7_storm_207 ml_X7_126 q_X7_warm rfl rfl rfl (Nat.le_of_ble_eq_true rfl) (show kF E 1 M_X7_warm [kA 45] ((kMC ++ kMM), kst (kHd f s 29) 50 (mStm (f 47) z m.toNat s), g) (some (kI (mBit (f 47) (mStm (f 47) z m.toNat s)))) ((kMC ++ kMM), kst (kHd f s 29) 50 (mStm (f 47) z m.toNat s), g) from c_mwarm (f := (kHd f s 29)) hm hT) (by omega) ?_
            refine kw_goto (tgt := 220) dX7_storm_210 (by decide) ?_
            refine kw_istore dX7_storm_220 (by decide) trivial (L2 := [some (kA (45)), some (kI (z)), some (kI (m)), some (kI (v)), some (kI (sWg (f 47) s (f 47 0).toNat)), some (kI (mBit (f 47) (mStm (f 47) z m.toNat s))), o.1, o.2.1, o.2.2.1, o.2.2.2.1, o.2.2.2.2]) rfl ?_
            refine kw_aload_n dX7_storm_222 rfl ?_
            refine kv_callV0 (M2 := M_X7_lets) (As := []) dX7_storm_223 ml_X7_135 q_X7_lets rfl rfl rfl (Nat.le_of_ble_eq_true rfl) (c_mlets (s := s) hm (fun j hj => if_pos ⟨rfl, hj.1, hj.2⟩) (mOut_stm hT _)) (by omega) ?_
            refine kw_iload dX7_storm_226 rfl ?_
            exact kv_riE dX7_storm_228 rfl (Eq.symm (by unfold sStorm; rw [if_pos (by omega), if_pos (by omega), if_pos (by omega)])) (Or.inr rfl)
        · refine kw_bipush dX7_storm_48 (by decide) (by decide) ?_
          exact kv_riE dX7_storm_50 rfl (Eq.symm (by unfold sStorm; rw [if_pos (by omega), if_neg (by omega)])) (Or.inl rfl)
      · refine kw_iconst dX7_storm_30 ⟨by decide, by decide⟩ ?_
        exact kv_riE dX7_storm_31 rfl (Eq.symm (by unfold sStorm; rw [if_neg (by omega)])) (Or.inl rfl)
