/-! the law: a call of each kind -/
theorem w_write {E : kEnv} {F : Nat → Int → Int} {g : Nat → Int → Option Nat} {i : Int} {Q : Option kV → kH → Prop} (h : zI F g) (hi : 0 ≤ i ∧ i + 5 ≤ ((kX E).1 : Int)) (hL : (kX E).1 ≤ 320) (hX : ∀ j, k_in ((kX E).2 j)) (kt : ∀ F2 g2, zI F2 g2 → kW E 40 0 0 M_L_law 807 [some (kA (1000002)), some (kA (0)), some (kA (45)), some (kI (i))] [] ((kMC ++ kMM), F2, g2) Q) : kW E 40 0 0 M_L_law 156 [some (kA (1000002)), some (kA (0)), some (kA (45)), some (kI (i))] [] ((kMC ++ kMM), F, g) Q := by
  refine kw_aload_n dL_law_156 rfl ?_
  refine kw_aload_n dL_law_157 rfl ?_
  refine kw_iload_n dL_law_158 rfl ?_
  refine kw_iconst dL_law_159 ⟨by decide, by decide⟩ ?_
  refine kw_iadd dL_law_160 ⟨by omega, by omega⟩ ?_
  refine kw_ialdS (j := 2) dL_law_161 (by decide) (by omega) (show i + 1 < ((kX E).1 : Int) by omega) (hX _) ?_
  obtain ⟨v, d1, e1, z1⟩ := s2_write (E := E) (a := (kX E).2 (i + 1).toNat) h
  refine kw_callV (M2 := M_X6_write) (As := [kI ((kX E).2 (i + 1).toNat)]) (b := 0) (mc3 := 0) (ms3 := 0) dL_law_162 ml_L_13 q_X6_write rfl rfl rfl (Nat.le_of_ble_eq_true rfl) z1 (by omega) (Nat.le_refl _) (Nat.le_refl _) (fun r h2 y => ?_)
  obtain ⟨rfl, F1, g1, rfl, d2, e2, z2⟩ := y
  refine kw_aload_n dL_law_165 rfl ?_
  refine kw_aload_n dL_law_166 rfl ?_
  refine kw_iload_n dL_law_167 rfl ?_
  refine kw_iconst dL_law_168 ⟨by decide, by decide⟩ ?_
  refine kw_iadd dL_law_169 ⟨by omega, by omega⟩ ?_
  refine kw_ialdS (j := 2) dL_law_170 (by decide) (by omega) (show i + 1 < ((kX E).1 : Int) by omega) (hX _) ?_
  refine kw_callV (M2 := M_X7_write) (As := [kI ((kX E).2 (i + 1).toNat)]) (b := 45) (mc3 := 0) (ms3 := 0) dL_law_171 ml_L_17 q_X7_write rfl rfl rfl (Nat.le_of_ble_eq_true rfl) z2 (by omega) (Nat.le_refl _) (Nat.le_refl _) (fun r h2 y => ?_)
  obtain ⟨rfl, F2, rfl, hz⟩ := y
  refine kw_icmp_eq (tgt := 807) dL_law_174 (by decide) (kf := fun h1 => absurd rfl h1) (kt := fun h1 => ?_)
  exact kt F2 g1 hz
theorem w_wipe {E : kEnv} {F : Nat → Int → Int} {g : Nat → Int → Option Nat} {i : Int} {Q : Option kV → kH → Prop} (h : zI F g) (hi : 0 ≤ i ∧ i + 5 ≤ ((kX E).1 : Int)) (hL : (kX E).1 ≤ 320) (hX : ∀ j, k_in ((kX E).2 j)) (kt : ∀ F2 g2, zI F2 g2 → kW E 40 0 0 M_L_law 807 [some (kA (1000002)), some (kA (0)), some (kA (45)), some (kI (i))] [] ((kMC ++ kMM), F2, g2) Q) : kW E 40 0 0 M_L_law 179 [some (kA (1000002)), some (kA (0)), some (kA (45)), some (kI (i))] [] ((kMC ++ kMM), F, g) Q := by
  refine kw_aload_n dL_law_179 rfl ?_
  obtain ⟨v, d1, e1, z1⟩ := s2_wipe (E := E)  h
  refine kw_callV (M2 := M_X6_wipe) (As := []) (b := 0) (mc3 := 0) (ms3 := 0) dL_law_180 ml_L_18 q_X6_wipe rfl rfl rfl (Nat.le_of_ble_eq_true rfl) z1 (by omega) (Nat.le_refl _) (Nat.le_refl _) (fun r h2 y => ?_)
  obtain ⟨rfl, F1, g1, rfl, d2, e2, z2⟩ := y
  refine kw_aload_n dL_law_183 rfl ?_
  refine kw_callV (M2 := M_X7_wipe) (As := []) (b := 45) (mc3 := 0) (ms3 := 0) dL_law_184 ml_L_22 q_X7_wipe rfl rfl rfl (Nat.le_of_ble_eq_true rfl) z2 (by omega) (Nat.le_refl _) (Nat.le_refl _) (fun r h2 y => ?_)
  obtain ⟨rfl, F2, rfl, hz⟩ := y
  refine kw_icmp_eq (tgt := 807) dL_law_187 (by decide) (kf := fun h1 => absurd rfl h1) (kt := fun h1 => ?_)
  exact kt F2 g1 hz
theorem w_fault {E : kEnv} {F : Nat → Int → Int} {g : Nat → Int → Option Nat} {i : Int} {Q : Option kV → kH → Prop} (h : zI F g) (hi : 0 ≤ i ∧ i + 5 ≤ ((kX E).1 : Int)) (hL : (kX E).1 ≤ 320) (hX : ∀ j, k_in ((kX E).2 j)) (kt : ∀ F2 g2, zI F2 g2 → kW E 40 0 0 M_L_law 807 [some (kA (1000002)), some (kA (0)), some (kA (45)), some (kI (i))] [] ((kMC ++ kMM), F2, g2) Q) : kW E 40 0 0 M_L_law 192 [some (kA (1000002)), some (kA (0)), some (kA (45)), some (kI (i))] [] ((kMC ++ kMM), F, g) Q := by
  refine kw_aload_n dL_law_192 rfl ?_
  obtain ⟨v, d1, e1, z1⟩ := s2_fault (E := E)  h
  refine kw_callV (M2 := M_X6_fault) (As := []) (b := 0) (mc3 := 0) (ms3 := 0) dL_law_193 ml_L_23 q_X6_fault rfl rfl rfl (Nat.le_of_ble_eq_true rfl) z1 (by omega) (Nat.le_refl _) (Nat.le_refl _) (fun r h2 y => ?_)
  obtain ⟨rfl, F1, g1, rfl, d2, e2, z2⟩ := y
  refine kw_aload_n dL_law_196 rfl ?_
  refine kw_callV (M2 := M_X7_fault) (As := []) (b := 45) (mc3 := 0) (ms3 := 0) dL_law_197 ml_L_26 q_X7_fault rfl rfl rfl (Nat.le_of_ble_eq_true rfl) z2 (by omega) (Nat.le_refl _) (Nat.le_refl _) (fun r h2 y => ?_)
  obtain ⟨rfl, F2, rfl, hz⟩ := y
  refine kw_icmp_eq (tgt := 807) dL_law_200 (by decide) (kf := fun h1 => absurd rfl h1) (kt := fun h1 => ?_)
  exact kt F2 g1 hz
theorem w_lay {E : kEnv} {F : Nat → Int → Int} {g : Nat → Int → Option Nat} {i : Int} {Q : Option kV → kH → Prop} (h : zI F g) (hi : 0 ≤ i ∧ i + 5 ≤ ((kX E).1 : Int)) (hL : (kX E).1 ≤ 320) (hX : ∀ j, k_in ((kX E).2 j)) (kt : ∀ F2 g2, zI F2 g2 → kW E 40 0 0 M_L_law 807 [some (kA (1000002)), some (kA (0)), some (kA (45)), some (kI (i))] [] ((kMC ++ kMM), F2, g2) Q) : kW E 40 0 0 M_L_law 205 [some (kA (1000002)), some (kA (0)), some (kA (45)), some (kI (i))] [] ((kMC ++ kMM), F, g) Q := by
  refine kw_aload_n dL_law_205 rfl ?_
  obtain ⟨v, d1, e1, z1⟩ := s2_lay (E := E)  h
  refine kw_callV (M2 := M_X6_lay) (As := []) (b := 0) (mc3 := 0) (ms3 := 0) dL_law_206 ml_L_27 q_X6_lay rfl rfl rfl (Nat.le_of_ble_eq_true rfl) z1 (by omega) (Nat.le_refl _) (Nat.le_refl _) (fun r h2 y => ?_)
  obtain ⟨rfl, F1, g1, rfl, d2, e2, z2⟩ := y
  refine kw_aload_n dL_law_209 rfl ?_
  refine kw_callV (M2 := M_X7_lay) (As := []) (b := 45) (mc3 := 0) (ms3 := 0) dL_law_210 ml_L_30 q_X7_lay rfl rfl rfl (Nat.le_of_ble_eq_true rfl) z2 (by omega) (Nat.le_refl _) (Nat.le_refl _) (fun r h2 y => ?_)
  obtain ⟨rfl, F2, rfl, hz⟩ := y
  refine kw_icmp_eq (tgt := 807) dL_law_213 (by decide) (kf := fun h1 => absurd rfl h1) (kt := fun h1 => ?_)
  exact kt F2 g1 hz
theorem w_bough {E : kEnv} {F : Nat → Int → Int} {g : Nat → Int → Option Nat} {i : Int} {Q : Option kV → kH → Prop} (h : zI F g) (hi : 0 ≤ i ∧ i + 5 ≤ ((kX E).1 : Int)) (hL : (kX E).1 ≤ 320) (hX : ∀ j, k_in ((kX E).2 j)) (kt : ∀ F2 g2, zI F2 g2 → kW E 40 0 0 M_L_law 807 [some (kA (1000002)), some (kA (0)), some (kA (45)), some (kI (i))] [] ((kMC ++ kMM), F2, g2) Q) : kW E 40 0 0 M_L_law 218 [some (kA (1000002)), some (kA (0)), some (kA (45)), some (kI (i))] [] ((kMC ++ kMM), F, g) Q := by
  refine kw_aload_n dL_law_218 rfl ?_
  refine kw_aload_n dL_law_219 rfl ?_
  refine kw_iload_n dL_law_220 rfl ?_
  refine kw_iconst dL_law_221 ⟨by decide, by decide⟩ ?_
  refine kw_iadd dL_law_222 ⟨by omega, by omega⟩ ?_
  refine kw_ialdS (j := 2) dL_law_223 (by decide) (by omega) (show i + 1 < ((kX E).1 : Int) by omega) (hX _) ?_
  refine kw_aload_n dL_law_224 rfl ?_
  refine kw_iload_n dL_law_225 rfl ?_
  refine kw_iconst dL_law_226 ⟨by decide, by decide⟩ ?_
  refine kw_iadd dL_law_227 ⟨by omega, by omega⟩ ?_
  refine kw_ialdS (j := 2) dL_law_228 (by decide) (by omega) (show i + 2 < ((kX E).1 : Int) by omega) (hX _) ?_
  obtain ⟨v, d1, e1, z1⟩ := s2_bough (E := E) (a := (kX E).2 (i + 1).toNat) (b := (kX E).2 (i + 2).toNat) h
  refine kw_callV (M2 := M_X6_bough) (As := [kI ((kX E).2 (i + 1).toNat), kI ((kX E).2 (i + 2).toNat)]) (b := 0) (mc3 := 0) (ms3 := 0) dL_law_229 ml_L_31 q_X6_bough rfl rfl rfl (Nat.le_of_ble_eq_true rfl) z1 (by omega) (Nat.le_refl _) (Nat.le_refl _) (fun r h2 y => ?_)
  obtain ⟨rfl, F1, g1, rfl, d2, e2, z2⟩ := y
  refine kw_aload_n dL_law_232 rfl ?_
  refine kw_aload_n dL_law_233 rfl ?_
  refine kw_iload_n dL_law_234 rfl ?_
  refine kw_iconst dL_law_235 ⟨by decide, by decide⟩ ?_
  refine kw_iadd dL_law_236 ⟨by omega, by omega⟩ ?_
  refine kw_ialdS (j := 2) dL_law_237 (by decide) (by omega) (show i + 1 < ((kX E).1 : Int) by omega) (hX _) ?_
  refine kw_aload_n dL_law_238 rfl ?_
  refine kw_iload_n dL_law_239 rfl ?_
  refine kw_iconst dL_law_240 ⟨by decide, by decide⟩ ?_
  refine kw_iadd dL_law_241 ⟨by omega, by omega⟩ ?_
  refine kw_ialdS (j := 2) dL_law_242 (by decide) (by omega) (show i + 2 < ((kX E).1 : Int) by omega) (hX _) ?_
  refine kw_callV (M2 := M_X7_bough) (As := [kI ((kX E).2 (i + 1).toNat), kI ((kX E).2 (i + 2).toNat)]) (b := 45) (mc3 := 0) (ms3 := 0) dL_law_243 ml_L_35 q_X7_bough rfl rfl rfl (Nat.le_of_ble_eq_true rfl) z2 (by omega) (Nat.le_refl _) (Nat.le_refl _) (fun r h2 y => ?_)
  obtain ⟨rfl, F2, rfl, hz⟩ := y
  refine kw_icmp_eq (tgt := 807) dL_law_246 (by decide) (kf := fun h1 => absurd rfl h1) (kt := fun h1 => ?_)
  exact kt F2 g1 hz
theorem w_tenant {E : kEnv} {F : Nat → Int → Int} {g : Nat → Int → Option Nat} {i : Int} {Q : Option kV → kH → Prop} (h : zI F g) (hi : 0 ≤ i ∧ i + 5 ≤ ((kX E).1 : Int)) (hL : (kX E).1 ≤ 320) (hX : ∀ j, k_in ((kX E).2 j)) (kt : ∀ F2 g2, zI F2 g2 → kW E 40 0 0 M_L_law 807 [some (kA (1000002)), some (kA (0)), some (kA (45)), some (kI (i))] [] ((kMC ++ kMM), F2, g2) Q) : kW E 40 0 0 M_L_law 251 [some (kA (1000002)), some (kA (0)), some (kA (45)), some (kI (i))] [] ((kMC ++ kMM), F, g) Q := by
  refine kw_aload_n dL_law_251 rfl ?_
  refine kw_aload_n dL_law_252 rfl ?_
  refine kw_iload_n dL_law_253 rfl ?_
  refine kw_iconst dL_law_254 ⟨by decide, by decide⟩ ?_
  refine kw_iadd dL_law_255 ⟨by omega, by omega⟩ ?_
  refine kw_ialdS (j := 2) dL_law_256 (by decide) (by omega) (show i + 1 < ((kX E).1 : Int) by omega) (hX _) ?_
  refine kw_aload_n dL_law_257 rfl ?_
  refine kw_iload_n dL_law_258 rfl ?_
  refine kw_iconst dL_law_259 ⟨by decide, by decide⟩ ?_
  refine kw_iadd dL_law_260 ⟨by omega, by omega⟩ ?_
  refine kw_ialdS (j := 2) dL_law_261 (by decide) (by omega) (show i + 2 < ((kX E).1 : Int) by omega) (hX _) ?_
  obtain ⟨v, d1, e1, z1⟩ := s2_tenant (E := E) (a := (kX E).2 (i + 1).toNat) (b := (kX E).2 (i + 2).toNat) h
  refine kw_callV (M2 := M_X6_tenant) (As := [kI ((kX E).2 (i + 1).toNat), kI ((kX E).2 (i + 2).toNat)]) (b := 0) (mc3 := 0) (ms3 := 0) dL_law_262 ml_L_36 q_X6_tenant rfl rfl rfl (Nat.le_of_ble_eq_true rfl) z1 (by omega) (Nat.le_refl _) (Nat.le_refl _) (fun r h2 y => ?_)
  obtain ⟨rfl, F1, g1, rfl, d2, e2, z2⟩ := y
  refine kw_aload_n dL_law_265 rfl ?_
  refine kw_aload_n dL_law_266 rfl ?_
  refine kw_iload_n dL_law_267 rfl ?_
  refine kw_iconst dL_law_268 ⟨by decide, by decide⟩ ?_
  refine kw_iadd dL_law_269 ⟨by omega, by omega⟩ ?_
  refine kw_ialdS (j := 2) dL_law_270 (by decide) (by omega) (show i + 1 < ((kX E).1 : Int) by omega) (hX _) ?_
  refine kw_aload_n dL_law_271 rfl ?_
  refine kw_iload_n dL_law_272 rfl ?_
  refine kw_iconst dL_law_273 ⟨by decide, by decide⟩ ?_
  refine kw_iadd dL_law_274 ⟨by omega, by omega⟩ ?_
  refine kw_ialdS (j := 2) dL_law_275 (by decide) (by omega) (show i + 2 < ((kX E).1 : Int) by omega) (hX _) ?_
  refine kw_callV (M2 := M_X7_tenant) (As := [kI ((kX E).2 (i + 1).toNat), kI ((kX E).2 (i + 2).toNat)]) (b := 45) (mc3 := 0) (ms3 := 0) dL_law_276 ml_L_39 q_X7_tenant rfl rfl rfl (Nat.le_of_ble_eq_true rfl) z2 (by omega) (Nat.le_refl _) (Nat.le_refl _) (fun r h2 y => ?_)
  obtain ⟨rfl, F2, rfl, hz⟩ := y
  refine kw_icmp_eq (tgt := 807) dL_law_279 (by decide) (kf := fun h1 => absurd rfl h1) (kt := fun h1 => ?_)
  exact kt F2 g1 hz
theorem w_can {E : kEnv} {F : Nat → Int → Int} {g : Nat → Int → Option Nat} {i : Int} {Q : Option kV → kH → Prop} (h : zI F g) (hi : 0 ≤ i ∧ i + 5 ≤ ((kX E).1 : Int)) (hL : (kX E).1 ≤ 320) (hX : ∀ j, k_in ((kX E).2 j)) (kt : ∀ F2 g2, zI F2 g2 → kW E 40 0 0 M_L_law 807 [some (kA (1000002)), some (kA (0)), some (kA (45)), some (kI (i))] [] ((kMC ++ kMM), F2, g2) Q) : kW E 40 0 0 M_L_law 284 [some (kA (1000002)), some (kA (0)), some (kA (45)), some (kI (i))] [] ((kMC ++ kMM), F, g) Q := by
  refine kw_aload_n dL_law_284 rfl ?_
  refine kw_aload_n dL_law_285 rfl ?_
  refine kw_iload_n dL_law_286 rfl ?_
  refine kw_iconst dL_law_287 ⟨by decide, by decide⟩ ?_
  refine kw_iadd dL_law_288 ⟨by omega, by omega⟩ ?_
  refine kw_ialdS (j := 2) dL_law_289 (by decide) (by omega) (show i + 1 < ((kX E).1 : Int) by omega) (hX _) ?_
  refine kw_aload_n dL_law_290 rfl ?_
  refine kw_iload_n dL_law_291 rfl ?_
  refine kw_iconst dL_law_292 ⟨by decide, by decide⟩ ?_
  refine kw_iadd dL_law_293 ⟨by omega, by omega⟩ ?_
  refine kw_ialdS (j := 2) dL_law_294 (by decide) (by omega) (show i + 2 < ((kX E).1 : Int) by omega) (hX _) ?_
  obtain ⟨v, d1, e1, z1⟩ := s2_can (E := E) (a := (kX E).2 (i + 1).toNat) (b := (kX E).2 (i + 2).toNat) h
  refine kw_callV (M2 := M_X6_can) (As := [kI ((kX E).2 (i + 1).toNat), kI ((kX E).2 (i + 2).toNat)]) (b := 0) (mc3 := 0) (ms3 := 0) dL_law_295 ml_L_40 q_X6_can rfl rfl rfl (Nat.le_of_ble_eq_true rfl) z1 (by omega) (Nat.le_refl _) (Nat.le_refl _) (fun r h2 y => ?_)
  obtain ⟨rfl, F1, g1, rfl, d2, e2, z2⟩ := y
  refine kw_aload_n dL_law_298 rfl ?_
  refine kw_aload_n dL_law_299 rfl ?_
  refine kw_iload_n dL_law_300 rfl ?_
  refine kw_iconst dL_law_301 ⟨by decide, by decide⟩ ?_
  refine kw_iadd dL_law_302 ⟨by omega, by omega⟩ ?_
  refine kw_ialdS (j := 2) dL_law_303 (by decide) (by omega) (show i + 1 < ((kX E).1 : Int) by omega) (hX _) ?_
  refine kw_aload_n dL_law_304 rfl ?_
  refine kw_iload_n dL_law_305 rfl ?_
  refine kw_iconst dL_law_306 ⟨by decide, by decide⟩ ?_
  refine kw_iadd dL_law_307 ⟨by omega, by omega⟩ ?_
  refine kw_ialdS (j := 2) dL_law_308 (by decide) (by omega) (show i + 2 < ((kX E).1 : Int) by omega) (hX _) ?_
  refine kw_callV (M2 := M_X7_can) (As := [kI ((kX E).2 (i + 1).toNat), kI ((kX E).2 (i + 2).toNat)]) (b := 45) (mc3 := 0) (ms3 := 0) dL_law_309 ml_L_43 q_X7_can rfl rfl rfl (Nat.le_of_ble_eq_true rfl) z2 (by omega) (Nat.le_refl _) (Nat.le_refl _) (fun r h2 y => ?_)
  obtain ⟨rfl, F2, rfl, hz⟩ := y
  refine kw_icmp_eq (tgt := 807) dL_law_312 (by decide) (kf := fun h1 => absurd rfl h1) (kt := fun h1 => ?_)
  exact kt F2 g1 hz
theorem w_take {E : kEnv} {F : Nat → Int → Int} {g : Nat → Int → Option Nat} {i : Int} {Q : Option kV → kH → Prop} (h : zI F g) (hi : 0 ≤ i ∧ i + 5 ≤ ((kX E).1 : Int)) (hL : (kX E).1 ≤ 320) (hX : ∀ j, k_in ((kX E).2 j)) (kt : ∀ F2 g2, zI F2 g2 → kW E 40 0 0 M_L_law 807 [some (kA (1000002)), some (kA (0)), some (kA (45)), some (kI (i))] [] ((kMC ++ kMM), F2, g2) Q) : kW E 40 0 0 M_L_law 317 [some (kA (1000002)), some (kA (0)), some (kA (45)), some (kI (i))] [] ((kMC ++ kMM), F, g) Q := by
  refine kw_aload_n dL_law_317 rfl ?_
  refine kw_aload_n dL_law_318 rfl ?_
  refine kw_iload_n dL_law_319 rfl ?_
  refine kw_iconst dL_law_320 ⟨by decide, by decide⟩ ?_
  refine kw_iadd dL_law_321 ⟨by omega, by omega⟩ ?_
  refine kw_ialdS (j := 2) dL_law_322 (by decide) (by omega) (show i + 1 < ((kX E).1 : Int) by omega) (hX _) ?_
  refine kw_aload_n dL_law_323 rfl ?_
  refine kw_iload_n dL_law_324 rfl ?_
  refine kw_iconst dL_law_325 ⟨by decide, by decide⟩ ?_
  refine kw_iadd dL_law_326 ⟨by omega, by omega⟩ ?_
  refine kw_ialdS (j := 2) dL_law_327 (by decide) (by omega) (show i + 2 < ((kX E).1 : Int) by omega) (hX _) ?_
  obtain ⟨v, d1, e1, z1⟩ := s2_take (E := E) (a := (kX E).2 (i + 1).toNat) (b := (kX E).2 (i + 2).toNat) h
  refine kw_callV (M2 := M_X6_take) (As := [kI ((kX E).2 (i + 1).toNat), kI ((kX E).2 (i + 2).toNat)]) (b := 0) (mc3 := 0) (ms3 := 0) dL_law_328 ml_L_44 q_X6_take rfl rfl rfl (Nat.le_of_ble_eq_true rfl) z1 (by omega) (Nat.le_refl _) (Nat.le_refl _) (fun r h2 y => ?_)
  obtain ⟨rfl, F1, g1, rfl, d2, e2, z2⟩ := y
  refine kw_aload_n dL_law_331 rfl ?_
  refine kw_aload_n dL_law_332 rfl ?_
  refine kw_iload_n dL_law_333 rfl ?_
  refine kw_iconst dL_law_334 ⟨by decide, by decide⟩ ?_
  refine kw_iadd dL_law_335 ⟨by omega, by omega⟩ ?_
  refine kw_ialdS (j := 2) dL_law_336 (by decide) (by omega) (show i + 1 < ((kX E).1 : Int) by omega) (hX _) ?_
  refine kw_aload_n dL_law_337 rfl ?_
  refine kw_iload_n dL_law_338 rfl ?_
  refine kw_iconst dL_law_339 ⟨by decide, by decide⟩ ?_
  refine kw_iadd dL_law_340 ⟨by omega, by omega⟩ ?_
  refine kw_ialdS (j := 2) dL_law_341 (by decide) (by omega) (show i + 2 < ((kX E).1 : Int) by omega) (hX _) ?_
  refine kw_callV (M2 := M_X7_take) (As := [kI ((kX E).2 (i + 1).toNat), kI ((kX E).2 (i + 2).toNat)]) (b := 45) (mc3 := 0) (ms3 := 0) dL_law_342 ml_L_47 q_X7_take rfl rfl rfl (Nat.le_of_ble_eq_true rfl) z2 (by omega) (Nat.le_refl _) (Nat.le_refl _) (fun r h2 y => ?_)
  obtain ⟨rfl, F2, rfl, hz⟩ := y
  refine kw_icmp_eq (tgt := 807) dL_law_345 (by decide) (kf := fun h1 => absurd rfl h1) (kt := fun h1 => ?_)
  exact kt F2 g1 hz
theorem w_pass {E : kEnv} {F : Nat → Int → Int} {g : Nat → Int → Option Nat} {i : Int} {Q : Option kV → kH → Prop} (h : zI F g) (hi : 0 ≤ i ∧ i + 5 ≤ ((kX E).1 : Int)) (hL : (kX E).1 ≤ 320) (hX : ∀ j, k_in ((kX E).2 j)) (kt : ∀ F2 g2, zI F2 g2 → kW E 40 0 0 M_L_law 807 [some (kA (1000002)), some (kA (0)), some (kA (45)), some (kI (i))] [] ((kMC ++ kMM), F2, g2) Q) : kW E 40 0 0 M_L_law 350 [some (kA (1000002)), some (kA (0)), some (kA (45)), some (kI (i))] [] ((kMC ++ kMM), F, g) Q := by
  refine kw_aload_n dL_law_350 rfl ?_
  refine kw_aload_n dL_law_351 rfl ?_
  refine kw_iload_n dL_law_352 rfl ?_
  refine kw_iconst dL_law_353 ⟨by decide, by decide⟩ ?_
  refine kw_iadd dL_law_354 ⟨by omega, by omega⟩ ?_
  refine kw_ialdS (j := 2) dL_law_355 (by decide) (by omega) (show i + 1 < ((kX E).1 : Int) by omega) (hX _) ?_
  obtain ⟨v, d1, e1, z1⟩ := s2_pass (E := E) (a := (kX E).2 (i + 1).toNat) h
  refine kw_callV (M2 := M_X6_pass) (As := [kI ((kX E).2 (i + 1).toNat)]) (b := 0) (mc3 := 0) (ms3 := 0) dL_law_356 ml_L_48 q_X6_pass rfl rfl rfl (Nat.le_of_ble_eq_true rfl) z1 (by omega) (Nat.le_refl _) (Nat.le_refl _) (fun r h2 y => ?_)
  obtain ⟨rfl, F1, g1, rfl, d2, e2, z2⟩ := y
  refine kw_aload_n dL_law_359 rfl ?_
  refine kw_aload_n dL_law_360 rfl ?_
  refine kw_iload_n dL_law_361 rfl ?_
  refine kw_iconst dL_law_362 ⟨by decide, by decide⟩ ?_
  refine kw_iadd dL_law_363 ⟨by omega, by omega⟩ ?_
  refine kw_ialdS (j := 2) dL_law_364 (by decide) (by omega) (show i + 1 < ((kX E).1 : Int) by omega) (hX _) ?_
  refine kw_callV (M2 := M_X7_pass) (As := [kI ((kX E).2 (i + 1).toNat)]) (b := 45) (mc3 := 0) (ms3 := 0) dL_law_365 ml_L_51 q_X7_pass rfl rfl rfl (Nat.le_of_ble_eq_true rfl) z2 (by omega) (Nat.le_refl _) (Nat.le_refl _) (fun r h2 y => ?_)
  obtain ⟨rfl, F2, rfl, hz⟩ := y
  refine kw_icmp_eq (tgt := 807) dL_law_368 (by decide) (kf := fun h1 => absurd rfl h1) (kt := fun h1 => ?_)
  exact kt F2 g1 hz
theorem w_hook {E : kEnv} {F : Nat → Int → Int} {g : Nat → Int → Option Nat} {i : Int} {Q : Option kV → kH → Prop} (h : zI F g) (hi : 0 ≤ i ∧ i + 5 ≤ ((kX E).1 : Int)) (hL : (kX E).1 ≤ 320) (hX : ∀ j, k_in ((kX E).2 j)) (kt : ∀ F2 g2, zI F2 g2 → kW E 40 0 0 M_L_law 807 [some (kA (1000002)), some (kA (0)), some (kA (45)), some (kI (i))] [] ((kMC ++ kMM), F2, g2) Q) : kW E 40 0 0 M_L_law 373 [some (kA (1000002)), some (kA (0)), some (kA (45)), some (kI (i))] [] ((kMC ++ kMM), F, g) Q := by
  refine kw_aload_n dL_law_373 rfl ?_
  refine kw_aload_n dL_law_374 rfl ?_
  refine kw_iload_n dL_law_375 rfl ?_
  refine kw_iconst dL_law_376 ⟨by decide, by decide⟩ ?_
  refine kw_iadd dL_law_377 ⟨by omega, by omega⟩ ?_
  refine kw_ialdS (j := 2) dL_law_378 (by decide) (by omega) (show i + 1 < ((kX E).1 : Int) by omega) (hX _) ?_
  refine kw_aload_n dL_law_379 rfl ?_
  refine kw_iload_n dL_law_380 rfl ?_
  refine kw_iconst dL_law_381 ⟨by decide, by decide⟩ ?_
  refine kw_iadd dL_law_382 ⟨by omega, by omega⟩ ?_
  refine kw_ialdS (j := 2) dL_law_383 (by decide) (by omega) (show i + 2 < ((kX E).1 : Int) by omega) (hX _) ?_
  obtain ⟨v, d1, e1, z1⟩ := s2_hook (E := E) (a := (kX E).2 (i + 1).toNat) (b := (kX E).2 (i + 2).toNat) h
  refine kw_callV (M2 := M_X6_hook) (As := [kI ((kX E).2 (i + 1).toNat), kI ((kX E).2 (i + 2).toNat)]) (b := 0) (mc3 := 0) (ms3 := 0) dL_law_384 ml_L_52 q_X6_hook rfl rfl rfl (Nat.le_of_ble_eq_true rfl) z1 (by omega) (Nat.le_refl _) (Nat.le_refl _) (fun r h2 y => ?_)
  obtain ⟨rfl, F1, g1, rfl, d2, e2, z2⟩ := y
  refine kw_aload_n dL_law_387 rfl ?_
  refine kw_aload_n dL_law_388 rfl ?_
  refine kw_iload_n dL_law_389 rfl ?_
  refine kw_iconst dL_law_390 ⟨by decide, by decide⟩ ?_
  refine kw_iadd dL_law_391 ⟨by omega, by omega⟩ ?_
  refine kw_ialdS (j := 2) dL_law_392 (by decide) (by omega) (show i + 1 < ((kX E).1 : Int) by omega) (hX _) ?_
  refine kw_aload_n dL_law_393 rfl ?_
  refine kw_iload_n dL_law_394 rfl ?_
  refine kw_iconst dL_law_395 ⟨by decide, by decide⟩ ?_
  refine kw_iadd dL_law_396 ⟨by omega, by omega⟩ ?_
  refine kw_ialdS (j := 2) dL_law_397 (by decide) (by omega) (show i + 2 < ((kX E).1 : Int) by omega) (hX _) ?_
  refine kw_callV (M2 := M_X7_hook) (As := [kI ((kX E).2 (i + 1).toNat), kI ((kX E).2 (i + 2).toNat)]) (b := 45) (mc3 := 0) (ms3 := 0) dL_law_398 ml_L_55 q_X7_hook rfl rfl rfl (Nat.le_of_ble_eq_true rfl) z2 (by omega) (Nat.le_refl _) (Nat.le_refl _) (fun r h2 y => ?_)
  obtain ⟨rfl, F2, rfl, hz⟩ := y
  refine kw_icmp_eq (tgt := 807) dL_law_401 (by decide) (kf := fun h1 => absurd rfl h1) (kt := fun h1 => ?_)
  exact kt F2 g1 hz
theorem w_ring {E : kEnv} {F : Nat → Int → Int} {g : Nat → Int → Option Nat} {i : Int} {Q : Option kV → kH → Prop} (h : zI F g) (hi : 0 ≤ i ∧ i + 5 ≤ ((kX E).1 : Int)) (hL : (kX E).1 ≤ 320) (hX : ∀ j, k_in ((kX E).2 j)) (kt : ∀ F2 g2, zI F2 g2 → kW E 40 0 0 M_L_law 807 [some (kA (1000002)), some (kA (0)), some (kA (45)), some (kI (i))] [] ((kMC ++ kMM), F2, g2) Q) : kW E 40 0 0 M_L_law 406 [some (kA (1000002)), some (kA (0)), some (kA (45)), some (kI (i))] [] ((kMC ++ kMM), F, g) Q := by
  refine kw_aload_n dL_law_406 rfl ?_
  refine kw_aload_n dL_law_407 rfl ?_
  refine kw_iload_n dL_law_408 rfl ?_
  refine kw_iconst dL_law_409 ⟨by decide, by decide⟩ ?_
  refine kw_iadd dL_law_410 ⟨by omega, by omega⟩ ?_
  refine kw_ialdS (j := 2) dL_law_411 (by decide) (by omega) (show i + 1 < ((kX E).1 : Int) by omega) (hX _) ?_
  obtain ⟨v, d1, e1, z1⟩ := s2_ring (E := E) (a := (kX E).2 (i + 1).toNat) h
  refine kw_callV (M2 := M_X6_ring) (As := [kI ((kX E).2 (i + 1).toNat)]) (b := 0) (mc3 := 0) (ms3 := 0) dL_law_412 ml_L_56 q_X6_ring rfl rfl rfl (Nat.le_of_ble_eq_true rfl) z1 (by omega) (Nat.le_refl _) (Nat.le_refl _) (fun r h2 y => ?_)
  obtain ⟨rfl, F1, g1, rfl, d2, e2, z2⟩ := y
  refine kw_aload_n dL_law_415 rfl ?_
  refine kw_aload_n dL_law_416 rfl ?_
  refine kw_iload_n dL_law_417 rfl ?_
  refine kw_iconst dL_law_418 ⟨by decide, by decide⟩ ?_
  refine kw_iadd dL_law_419 ⟨by omega, by omega⟩ ?_
  refine kw_ialdS (j := 2) dL_law_420 (by decide) (by omega) (show i + 1 < ((kX E).1 : Int) by omega) (hX _) ?_
  refine kw_callV (M2 := M_X7_ring) (As := [kI ((kX E).2 (i + 1).toNat)]) (b := 45) (mc3 := 0) (ms3 := 0) dL_law_421 ml_L_59 q_X7_ring rfl rfl rfl (Nat.le_of_ble_eq_true rfl) z2 (by omega) (Nat.le_refl _) (Nat.le_refl _) (fun r h2 y => ?_)
  obtain ⟨rfl, F2, rfl, hz⟩ := y
  refine kw_icmp_eq (tgt := 807) dL_law_424 (by decide) (kf := fun h1 => absurd rfl h1) (kt := fun h1 => ?_)
  exact kt F2 g1 hz
theorem w_undo {E : kEnv} {F : Nat → Int → Int} {g : Nat → Int → Option Nat} {i : Int} {Q : Option kV → kH → Prop} (h : zI F g) (hi : 0 ≤ i ∧ i + 5 ≤ ((kX E).1 : Int)) (hL : (kX E).1 ≤ 320) (hX : ∀ j, k_in ((kX E).2 j)) (kt : ∀ F2 g2, zI F2 g2 → kW E 40 0 0 M_L_law 807 [some (kA (1000002)), some (kA (0)), some (kA (45)), some (kI (i))] [] ((kMC ++ kMM), F2, g2) Q) : kW E 40 0 0 M_L_law 429 [some (kA (1000002)), some (kA (0)), some (kA (45)), some (kI (i))] [] ((kMC ++ kMM), F, g) Q := by
  refine kw_aload_n dL_law_429 rfl ?_
  obtain ⟨v, d1, e1, z1⟩ := s2_undo (E := E)  h
  refine kw_callV (M2 := M_X6_undo) (As := []) (b := 0) (mc3 := 0) (ms3 := 0) dL_law_430 ml_L_60 q_X6_undo rfl rfl rfl (Nat.le_of_ble_eq_true rfl) z1 (by omega) (Nat.le_refl _) (Nat.le_refl _) (fun r h2 y => ?_)
  obtain ⟨rfl, F1, g1, rfl, d2, e2, z2⟩ := y
  refine kw_aload_n dL_law_433 rfl ?_
  refine kw_callV (M2 := M_X7_undo) (As := []) (b := 45) (mc3 := 0) (ms3 := 0) dL_law_434 ml_L_63 q_X7_undo rfl rfl rfl (Nat.le_of_ble_eq_true rfl) z2 (by omega) (Nat.le_refl _) (Nat.le_refl _) (fun r h2 y => ?_)
  obtain ⟨rfl, F2, rfl, hz⟩ := y
  refine kw_icmp_eq (tgt := 807) dL_law_437 (by decide) (kf := fun h1 => absurd rfl h1) (kt := fun h1 => ?_)
  exact kt F2 g1 hz
theorem w_warmBy {E : kEnv} {F : Nat → Int → Int} {g : Nat → Int → Option Nat} {i : Int} {Q : Option kV → kH → Prop} (h : zI F g) (hi : 0 ≤ i ∧ i + 5 ≤ ((kX E).1 : Int)) (hL : (kX E).1 ≤ 320) (hX : ∀ j, k_in ((kX E).2 j)) (kt : ∀ F2 g2, zI F2 g2 → kW E 40 0 0 M_L_law 807 [some (kA (1000002)), some (kA (0)), some (kA (45)), some (kI (i))] [] ((kMC ++ kMM), F2, g2) Q) : kW E 40 0 0 M_L_law 442 [some (kA (1000002)), some (kA (0)), some (kA (45)), some (kI (i))] [] ((kMC ++ kMM), F, g) Q := by
  refine kw_aload_n dL_law_442 rfl ?_
  refine kw_aload_n dL_law_443 rfl ?_
  refine kw_iload_n dL_law_444 rfl ?_
  refine kw_iconst dL_law_445 ⟨by decide, by decide⟩ ?_
  refine kw_iadd dL_law_446 ⟨by omega, by omega⟩ ?_
  refine kw_ialdS (j := 2) dL_law_447 (by decide) (by omega) (show i + 1 < ((kX E).1 : Int) by omega) (hX _) ?_
  obtain ⟨v, d1, e1, z1⟩ := s2_warmBy (E := E) (a := (kX E).2 (i + 1).toNat) h
  refine kw_callV (M2 := M_X6_warmBy) (As := [kI ((kX E).2 (i + 1).toNat)]) (b := 0) (mc3 := 0) (ms3 := 0) dL_law_448 ml_L_64 q_X6_warmBy rfl rfl rfl (Nat.le_of_ble_eq_true rfl) z1 (by omega) (Nat.le_refl _) (Nat.le_refl _) (fun r h2 y => ?_)
  obtain ⟨rfl, F1, g1, rfl, d2, e2, z2⟩ := y
  refine kw_aload_n dL_law_451 rfl ?_
  refine kw_aload_n dL_law_452 rfl ?_
  refine kw_iload_n dL_law_453 rfl ?_
  refine kw_iconst dL_law_454 ⟨by decide, by decide⟩ ?_
  refine kw_iadd dL_law_455 ⟨by omega, by omega⟩ ?_
  refine kw_ialdS (j := 2) dL_law_456 (by decide) (by omega) (show i + 1 < ((kX E).1 : Int) by omega) (hX _) ?_
  refine kw_callV (M2 := M_X7_warmBy) (As := [kI ((kX E).2 (i + 1).toNat)]) (b := 45) (mc3 := 0) (ms3 := 0) dL_law_457 ml_L_67 q_X7_warmBy rfl rfl rfl (Nat.le_of_ble_eq_true rfl) z2 (by omega) (Nat.le_refl _) (Nat.le_refl _) (fun r h2 y => ?_)
  obtain ⟨rfl, F2, rfl, hz⟩ := y
  refine kw_icmp_eq (tgt := 807) dL_law_460 (by decide) (kf := fun h1 => absurd rfl h1) (kt := fun h1 => ?_)
  exact kt F2 g1 hz
theorem w_allWarm {E : kEnv} {F : Nat → Int → Int} {g : Nat → Int → Option Nat} {i : Int} {Q : Option kV → kH → Prop} (h : zI F g) (hi : 0 ≤ i ∧ i + 5 ≤ ((kX E).1 : Int)) (hL : (kX E).1 ≤ 320) (hX : ∀ j, k_in ((kX E).2 j)) (kt : ∀ F2 g2, zI F2 g2 → kW E 40 0 0 M_L_law 807 [some (kA (1000002)), some (kA (0)), some (kA (45)), some (kI (i))] [] ((kMC ++ kMM), F2, g2) Q) : kW E 40 0 0 M_L_law 465 [some (kA (1000002)), some (kA (0)), some (kA (45)), some (kI (i))] [] ((kMC ++ kMM), F, g) Q := by
  refine kw_aload_n dL_law_465 rfl ?_
  obtain ⟨v, d1, e1, z1⟩ := s2_allWarm (E := E)  h
  refine kw_callV (M2 := M_X6_allWarm) (As := []) (b := 0) (mc3 := 0) (ms3 := 0) dL_law_466 ml_L_68 q_X6_allWarm rfl rfl rfl (Nat.le_of_ble_eq_true rfl) z1 (by omega) (Nat.le_refl _) (Nat.le_refl _) (fun r h2 y => ?_)
  obtain ⟨rfl, F1, g1, rfl, d2, e2, z2⟩ := y
  refine kw_aload_n dL_law_469 rfl ?_
  refine kw_callV (M2 := M_X7_allWarm) (As := []) (b := 45) (mc3 := 0) (ms3 := 0) dL_law_470 ml_L_71 q_X7_allWarm rfl rfl rfl (Nat.le_of_ble_eq_true rfl) z2 (by omega) (Nat.le_refl _) (Nat.le_refl _) (fun r h2 y => ?_)
  obtain ⟨rfl, F2, rfl, hz⟩ := y
  refine kw_icmp_eq (tgt := 807) dL_law_473 (by decide) (kf := fun h1 => absurd rfl h1) (kt := fun h1 => ?_)
  exact kt F2 g1 hz
theorem w_share {E : kEnv} {F : Nat → Int → Int} {g : Nat → Int → Option Nat} {i : Int} {Q : Option kV → kH → Prop} (h : zI F g) (hi : 0 ≤ i ∧ i + 5 ≤ ((kX E).1 : Int)) (hL : (kX E).1 ≤ 320) (hX : ∀ j, k_in ((kX E).2 j)) (kt : ∀ F2 g2, zI F2 g2 → kW E 40 0 0 M_L_law 807 [some (kA (1000002)), some (kA (0)), some (kA (45)), some (kI (i))] [] ((kMC ++ kMM), F2, g2) Q) : kW E 40 0 0 M_L_law 478 [some (kA (1000002)), some (kA (0)), some (kA (45)), some (kI (i))] [] ((kMC ++ kMM), F, g) Q := by
  refine kw_aload_n dL_law_478 rfl ?_
  refine kw_aload_n dL_law_479 rfl ?_
  refine kw_iload_n dL_law_480 rfl ?_
  refine kw_iconst dL_law_481 ⟨by decide, by decide⟩ ?_
  refine kw_iadd dL_law_482 ⟨by omega, by omega⟩ ?_
  refine kw_ialdS (j := 2) dL_law_483 (by decide) (by omega) (show i + 1 < ((kX E).1 : Int) by omega) (hX _) ?_
  obtain ⟨v, d1, e1, z1⟩ := s2_share (E := E) (a := (kX E).2 (i + 1).toNat) h
  refine kw_callV (M2 := M_X6_share) (As := [kI ((kX E).2 (i + 1).toNat)]) (b := 0) (mc3 := 0) (ms3 := 0) dL_law_484 ml_L_72 q_X6_share rfl rfl rfl (Nat.le_of_ble_eq_true rfl) z1 (by omega) (Nat.le_refl _) (Nat.le_refl _) (fun r h2 y => ?_)
  obtain ⟨rfl, F1, g1, rfl, d2, e2, z2⟩ := y
  refine kw_aload_n dL_law_487 rfl ?_
  refine kw_aload_n dL_law_488 rfl ?_
  refine kw_iload_n dL_law_489 rfl ?_
  refine kw_iconst dL_law_490 ⟨by decide, by decide⟩ ?_
  refine kw_iadd dL_law_491 ⟨by omega, by omega⟩ ?_
  refine kw_ialdS (j := 2) dL_law_492 (by decide) (by omega) (show i + 1 < ((kX E).1 : Int) by omega) (hX _) ?_
  refine kw_callV (M2 := M_X7_share) (As := [kI ((kX E).2 (i + 1).toNat)]) (b := 45) (mc3 := 0) (ms3 := 0) dL_law_493 ml_L_75 q_X7_share rfl rfl rfl (Nat.le_of_ble_eq_true rfl) z2 (by omega) (Nat.le_refl _) (Nat.le_refl _) (fun r h2 y => ?_)
  obtain ⟨rfl, F2, rfl, hz⟩ := y
  refine kw_icmp_eq (tgt := 807) dL_law_496 (by decide) (kf := fun h1 => absurd rfl h1) (kt := fun h1 => ?_)
  exact kt F2 g1 hz
theorem w_leastHook {E : kEnv} {F : Nat → Int → Int} {g : Nat → Int → Option Nat} {i : Int} {Q : Option kV → kH → Prop} (h : zI F g) (hi : 0 ≤ i ∧ i + 5 ≤ ((kX E).1 : Int)) (hL : (kX E).1 ≤ 320) (hX : ∀ j, k_in ((kX E).2 j)) (kt : ∀ F2 g2, zI F2 g2 → kW E 40 0 0 M_L_law 807 [some (kA (1000002)), some (kA (0)), some (kA (45)), some (kI (i))] [] ((kMC ++ kMM), F2, g2) Q) : kW E 40 0 0 M_L_law 501 [some (kA (1000002)), some (kA (0)), some (kA (45)), some (kI (i))] [] ((kMC ++ kMM), F, g) Q := by
  refine kw_aload_n dL_law_501 rfl ?_
  refine kw_aload_n dL_law_502 rfl ?_
  refine kw_iload_n dL_law_503 rfl ?_
  refine kw_iconst dL_law_504 ⟨by decide, by decide⟩ ?_
  refine kw_iadd dL_law_505 ⟨by omega, by omega⟩ ?_
  refine kw_ialdS (j := 2) dL_law_506 (by decide) (by omega) (show i + 1 < ((kX E).1 : Int) by omega) (hX _) ?_
  obtain ⟨v, d1, e1, z1⟩ := s2_leastHook (E := E) (a := (kX E).2 (i + 1).toNat) h
  refine kw_callV (M2 := M_X6_leastHook) (As := [kI ((kX E).2 (i + 1).toNat)]) (b := 0) (mc3 := 0) (ms3 := 0) dL_law_507 ml_L_76 q_X6_leastHook rfl rfl rfl (Nat.le_of_ble_eq_true rfl) z1 (by omega) (Nat.le_refl _) (Nat.le_refl _) (fun r h2 y => ?_)
  obtain ⟨rfl, F1, g1, rfl, d2, e2, z2⟩ := y
  refine kw_aload_n dL_law_510 rfl ?_
  refine kw_aload_n dL_law_511 rfl ?_
  refine kw_iload_n dL_law_512 rfl ?_
  refine kw_iconst dL_law_513 ⟨by decide, by decide⟩ ?_
  refine kw_iadd dL_law_514 ⟨by omega, by omega⟩ ?_
  refine kw_ialdS (j := 2) dL_law_515 (by decide) (by omega) (show i + 1 < ((kX E).1 : Int) by omega) (hX _) ?_
  refine kw_callV (M2 := M_X7_leastHook) (As := [kI ((kX E).2 (i + 1).toNat)]) (b := 45) (mc3 := 0) (ms3 := 0) dL_law_516 ml_L_79 q_X7_leastHook rfl rfl rfl (Nat.le_of_ble_eq_true rfl) z2 (by omega) (Nat.le_refl _) (Nat.le_refl _) (fun r h2 y => ?_)
  obtain ⟨rfl, F2, rfl, hz⟩ := y
  refine kw_icmp_eq (tgt := 807) dL_law_519 (by decide) (kf := fun h1 => absurd rfl h1) (kt := fun h1 => ?_)
  exact kt F2 g1 hz
theorem w_pole {E : kEnv} {F : Nat → Int → Int} {g : Nat → Int → Option Nat} {i : Int} {Q : Option kV → kH → Prop} (h : zI F g) (hi : 0 ≤ i ∧ i + 5 ≤ ((kX E).1 : Int)) (hL : (kX E).1 ≤ 320) (hX : ∀ j, k_in ((kX E).2 j)) (kt : ∀ F2 g2, zI F2 g2 → kW E 40 0 0 M_L_law 807 [some (kA (1000002)), some (kA (0)), some (kA (45)), some (kI (i))] [] ((kMC ++ kMM), F2, g2) Q) : kW E 40 0 0 M_L_law 524 [some (kA (1000002)), some (kA (0)), some (kA (45)), some (kI (i))] [] ((kMC ++ kMM), F, g) Q := by
  refine kw_aload_n dL_law_524 rfl ?_
  obtain ⟨v, d1, e1, z1⟩ := s2_pole (E := E)  h
  refine kw_callV (M2 := M_X6_pole) (As := []) (b := 0) (mc3 := 0) (ms3 := 0) dL_law_525 ml_L_80 q_X6_pole rfl rfl rfl (Nat.le_of_ble_eq_true rfl) z1 (by omega) (Nat.le_refl _) (Nat.le_refl _) (fun r h2 y => ?_)
  obtain ⟨rfl, F1, g1, rfl, d2, e2, z2⟩ := y
  refine kw_aload_n dL_law_528 rfl ?_
  refine kw_callV (M2 := M_X7_pole) (As := []) (b := 45) (mc3 := 0) (ms3 := 0) dL_law_529 ml_L_83 q_X7_pole rfl rfl rfl (Nat.le_of_ble_eq_true rfl) z2 (by omega) (Nat.le_refl _) (Nat.le_refl _) (fun r h2 y => ?_)
  obtain ⟨rfl, F2, rfl, hz⟩ := y
  refine kw_icmp_eq (tgt := 807) dL_law_532 (by decide) (kf := fun h1 => absurd rfl h1) (kt := fun h1 => ?_)
  exact kt F2 g1 hz
theorem w_firstDay {E : kEnv} {F : Nat → Int → Int} {g : Nat → Int → Option Nat} {i : Int} {Q : Option kV → kH → Prop} (h : zI F g) (hi : 0 ≤ i ∧ i + 5 ≤ ((kX E).1 : Int)) (hL : (kX E).1 ≤ 320) (hX : ∀ j, k_in ((kX E).2 j)) (kt : ∀ F2 g2, zI F2 g2 → kW E 40 0 0 M_L_law 807 [some (kA (1000002)), some (kA (0)), some (kA (45)), some (kI (i))] [] ((kMC ++ kMM), F2, g2) Q) : kW E 40 0 0 M_L_law 537 [some (kA (1000002)), some (kA (0)), some (kA (45)), some (kI (i))] [] ((kMC ++ kMM), F, g) Q := by
  refine kw_aload_n dL_law_537 rfl ?_
  refine kw_aload_n dL_law_538 rfl ?_
  refine kw_iload_n dL_law_539 rfl ?_
  refine kw_iconst dL_law_540 ⟨by decide, by decide⟩ ?_
  refine kw_iadd dL_law_541 ⟨by omega, by omega⟩ ?_
  refine kw_ialdS (j := 2) dL_law_542 (by decide) (by omega) (show i + 1 < ((kX E).1 : Int) by omega) (hX _) ?_
  refine kw_aload_n dL_law_543 rfl ?_
  refine kw_iload_n dL_law_544 rfl ?_
  refine kw_iconst dL_law_545 ⟨by decide, by decide⟩ ?_
  refine kw_iadd dL_law_546 ⟨by omega, by omega⟩ ?_
  refine kw_ialdS (j := 2) dL_law_547 (by decide) (by omega) (show i + 2 < ((kX E).1 : Int) by omega) (hX _) ?_
  obtain ⟨v, d1, e1, z1⟩ := s2_firstDay (E := E) (a := (kX E).2 (i + 1).toNat) (b := (kX E).2 (i + 2).toNat) h
  refine kw_callV (M2 := M_X6_firstDay) (As := [kI ((kX E).2 (i + 1).toNat), kI ((kX E).2 (i + 2).toNat)]) (b := 0) (mc3 := 0) (ms3 := 0) dL_law_548 ml_L_84 q_X6_firstDay rfl rfl rfl (Nat.le_of_ble_eq_true rfl) z1 (by omega) (Nat.le_refl _) (Nat.le_refl _) (fun r h2 y => ?_)
  obtain ⟨rfl, F1, g1, rfl, d2, e2, z2⟩ := y
  refine kw_aload_n dL_law_551 rfl ?_
  refine kw_aload_n dL_law_552 rfl ?_
  refine kw_iload_n dL_law_553 rfl ?_
  refine kw_iconst dL_law_554 ⟨by decide, by decide⟩ ?_
  refine kw_iadd dL_law_555 ⟨by omega, by omega⟩ ?_
  refine kw_ialdS (j := 2) dL_law_556 (by decide) (by omega) (show i + 1 < ((kX E).1 : Int) by omega) (hX _) ?_
  refine kw_aload_n dL_law_557 rfl ?_
  refine kw_iload_n dL_law_558 rfl ?_
  refine kw_iconst dL_law_559 ⟨by decide, by decide⟩ ?_
  refine kw_iadd dL_law_560 ⟨by omega, by omega⟩ ?_
  refine kw_ialdS (j := 2) dL_law_561 (by decide) (by omega) (show i + 2 < ((kX E).1 : Int) by omega) (hX _) ?_
  refine kw_callV (M2 := M_X7_firstDay) (As := [kI ((kX E).2 (i + 1).toNat), kI ((kX E).2 (i + 2).toNat)]) (b := 45) (mc3 := 0) (ms3 := 0) dL_law_562 ml_L_87 q_X7_firstDay rfl rfl rfl (Nat.le_of_ble_eq_true rfl) z2 (by omega) (Nat.le_refl _) (Nat.le_refl _) (fun r h2 y => ?_)
  obtain ⟨rfl, F2, rfl, hz⟩ := y
  refine kw_icmp_eq (tgt := 807) dL_law_565 (by decide) (kf := fun h1 => absurd rfl h1) (kt := fun h1 => ?_)
  exact kt F2 g1 hz
theorem w_sticks {E : kEnv} {F : Nat → Int → Int} {g : Nat → Int → Option Nat} {i : Int} {Q : Option kV → kH → Prop} (h : zI F g) (hi : 0 ≤ i ∧ i + 5 ≤ ((kX E).1 : Int)) (hL : (kX E).1 ≤ 320) (hX : ∀ j, k_in ((kX E).2 j)) (kt : ∀ F2 g2, zI F2 g2 → kW E 40 0 0 M_L_law 807 [some (kA (1000002)), some (kA (0)), some (kA (45)), some (kI (i))] [] ((kMC ++ kMM), F2, g2) Q) : kW E 40 0 0 M_L_law 570 [some (kA (1000002)), some (kA (0)), some (kA (45)), some (kI (i))] [] ((kMC ++ kMM), F, g) Q := by
  refine kw_aload_n dL_law_570 rfl ?_
  refine kw_aload_n dL_law_571 rfl ?_
  refine kw_iload_n dL_law_572 rfl ?_
  refine kw_iconst dL_law_573 ⟨by decide, by decide⟩ ?_
  refine kw_iadd dL_law_574 ⟨by omega, by omega⟩ ?_
  refine kw_ialdS (j := 2) dL_law_575 (by decide) (by omega) (show i + 1 < ((kX E).1 : Int) by omega) (hX _) ?_
  refine kw_aload_n dL_law_576 rfl ?_
  refine kw_iload_n dL_law_577 rfl ?_
  refine kw_iconst dL_law_578 ⟨by decide, by decide⟩ ?_
  refine kw_iadd dL_law_579 ⟨by omega, by omega⟩ ?_
  refine kw_ialdS (j := 2) dL_law_580 (by decide) (by omega) (show i + 2 < ((kX E).1 : Int) by omega) (hX _) ?_
  obtain ⟨v, d1, e1, z1⟩ := s2_sticks (E := E) (a := (kX E).2 (i + 1).toNat) (b := (kX E).2 (i + 2).toNat) h
  refine kw_callV (M2 := M_X6_sticks) (As := [kI ((kX E).2 (i + 1).toNat), kI ((kX E).2 (i + 2).toNat)]) (b := 0) (mc3 := 0) (ms3 := 0) dL_law_581 ml_L_88 q_X6_sticks rfl rfl rfl (Nat.le_of_ble_eq_true rfl) z1 (by omega) (Nat.le_refl _) (Nat.le_refl _) (fun r h2 y => ?_)
  obtain ⟨rfl, F1, g1, rfl, d2, e2, z2⟩ := y
  refine kw_aload_n dL_law_584 rfl ?_
  refine kw_aload_n dL_law_585 rfl ?_
  refine kw_iload_n dL_law_586 rfl ?_
  refine kw_iconst dL_law_587 ⟨by decide, by decide⟩ ?_
  refine kw_iadd dL_law_588 ⟨by omega, by omega⟩ ?_
  refine kw_ialdS (j := 2) dL_law_589 (by decide) (by omega) (show i + 1 < ((kX E).1 : Int) by omega) (hX _) ?_
  refine kw_aload_n dL_law_590 rfl ?_
  refine kw_iload_n dL_law_591 rfl ?_
  refine kw_iconst dL_law_592 ⟨by decide, by decide⟩ ?_
  refine kw_iadd dL_law_593 ⟨by omega, by omega⟩ ?_
  refine kw_ialdS (j := 2) dL_law_594 (by decide) (by omega) (show i + 2 < ((kX E).1 : Int) by omega) (hX _) ?_
  refine kw_callV (M2 := M_X7_sticks) (As := [kI ((kX E).2 (i + 1).toNat), kI ((kX E).2 (i + 2).toNat)]) (b := 45) (mc3 := 0) (ms3 := 0) dL_law_595 ml_L_91 q_X7_sticks rfl rfl rfl (Nat.le_of_ble_eq_true rfl) z2 (by omega) (Nat.le_refl _) (Nat.le_refl _) (fun r h2 y => ?_)
  obtain ⟨rfl, F2, rfl, hz⟩ := y
  refine kw_icmp_eq (tgt := 807) dL_law_598 (by decide) (kf := fun h1 => absurd rfl h1) (kt := fun h1 => ?_)
  exact kt F2 g1 hz
theorem w_whose {E : kEnv} {F : Nat → Int → Int} {g : Nat → Int → Option Nat} {i : Int} {Q : Option kV → kH → Prop} (h : zI F g) (hi : 0 ≤ i ∧ i + 5 ≤ ((kX E).1 : Int)) (hL : (kX E).1 ≤ 320) (hX : ∀ j, k_in ((kX E).2 j)) (kt : ∀ F2 g2, zI F2 g2 → kW E 40 0 0 M_L_law 807 [some (kA (1000002)), some (kA (0)), some (kA (45)), some (kI (i))] [] ((kMC ++ kMM), F2, g2) Q) : kW E 40 0 0 M_L_law 603 [some (kA (1000002)), some (kA (0)), some (kA (45)), some (kI (i))] [] ((kMC ++ kMM), F, g) Q := by
  refine kw_aload_n dL_law_603 rfl ?_
  refine kw_aload_n dL_law_604 rfl ?_
  refine kw_iload_n dL_law_605 rfl ?_
  refine kw_iconst dL_law_606 ⟨by decide, by decide⟩ ?_
  refine kw_iadd dL_law_607 ⟨by omega, by omega⟩ ?_
  refine kw_ialdS (j := 2) dL_law_608 (by decide) (by omega) (show i + 1 < ((kX E).1 : Int) by omega) (hX _) ?_
  refine kw_aload_n dL_law_609 rfl ?_
  refine kw_iload_n dL_law_610 rfl ?_
  refine kw_iconst dL_law_611 ⟨by decide, by decide⟩ ?_
  refine kw_iadd dL_law_612 ⟨by omega, by omega⟩ ?_
  refine kw_ialdS (j := 2) dL_law_613 (by decide) (by omega) (show i + 2 < ((kX E).1 : Int) by omega) (hX _) ?_
  obtain ⟨v, d1, e1, z1⟩ := s2_whose (E := E) (a := (kX E).2 (i + 1).toNat) (b := (kX E).2 (i + 2).toNat) h
  refine kw_callV (M2 := M_X6_whose) (As := [kI ((kX E).2 (i + 1).toNat), kI ((kX E).2 (i + 2).toNat)]) (b := 0) (mc3 := 0) (ms3 := 0) dL_law_614 ml_L_92 q_X6_whose rfl rfl rfl (Nat.le_of_ble_eq_true rfl) z1 (by omega) (Nat.le_refl _) (Nat.le_refl _) (fun r h2 y => ?_)
  obtain ⟨rfl, F1, g1, rfl, d2, e2, z2⟩ := y
  refine kw_aload_n dL_law_617 rfl ?_
  refine kw_aload_n dL_law_618 rfl ?_
  refine kw_iload_n dL_law_619 rfl ?_
  refine kw_iconst dL_law_620 ⟨by decide, by decide⟩ ?_
  refine kw_iadd dL_law_621 ⟨by omega, by omega⟩ ?_
  refine kw_ialdS (j := 2) dL_law_622 (by decide) (by omega) (show i + 1 < ((kX E).1 : Int) by omega) (hX _) ?_
  refine kw_aload_n dL_law_623 rfl ?_
  refine kw_iload_n dL_law_624 rfl ?_
  refine kw_iconst dL_law_625 ⟨by decide, by decide⟩ ?_
  refine kw_iadd dL_law_626 ⟨by omega, by omega⟩ ?_
  refine kw_ialdS (j := 2) dL_law_627 (by decide) (by omega) (show i + 2 < ((kX E).1 : Int) by omega) (hX _) ?_
  refine kw_callV (M2 := M_X7_whose) (As := [kI ((kX E).2 (i + 1).toNat), kI ((kX E).2 (i + 2).toNat)]) (b := 45) (mc3 := 0) (ms3 := 0) dL_law_628 ml_L_95 q_X7_whose rfl rfl rfl (Nat.le_of_ble_eq_true rfl) z2 (by omega) (Nat.le_refl _) (Nat.le_refl _) (fun r h2 y => ?_)
  obtain ⟨rfl, F2, rfl, hz⟩ := y
  refine kw_icmp_eq (tgt := 807) dL_law_631 (by decide) (kf := fun h1 => absurd rfl h1) (kt := fun h1 => ?_)
  exact kt F2 g1 hz
theorem w_sure {E : kEnv} {F : Nat → Int → Int} {g : Nat → Int → Option Nat} {i : Int} {Q : Option kV → kH → Prop} (h : zI F g) (hi : 0 ≤ i ∧ i + 5 ≤ ((kX E).1 : Int)) (hL : (kX E).1 ≤ 320) (hX : ∀ j, k_in ((kX E).2 j)) (kt : ∀ F2 g2, zI F2 g2 → kW E 40 0 0 M_L_law 807 [some (kA (1000002)), some (kA (0)), some (kA (45)), some (kI (i))] [] ((kMC ++ kMM), F2, g2) Q) : kW E 40 0 0 M_L_law 636 [some (kA (1000002)), some (kA (0)), some (kA (45)), some (kI (i))] [] ((kMC ++ kMM), F, g) Q := by
  refine kw_aload_n dL_law_636 rfl ?_
  refine kw_aload_n dL_law_637 rfl ?_
  refine kw_iload_n dL_law_638 rfl ?_
  refine kw_iconst dL_law_639 ⟨by decide, by decide⟩ ?_
  refine kw_iadd dL_law_640 ⟨by omega, by omega⟩ ?_
  refine kw_ialdS (j := 2) dL_law_641 (by decide) (by omega) (show i + 1 < ((kX E).1 : Int) by omega) (hX _) ?_
  refine kw_aload_n dL_law_642 rfl ?_
  refine kw_iload_n dL_law_643 rfl ?_
  refine kw_iconst dL_law_644 ⟨by decide, by decide⟩ ?_
  refine kw_iadd dL_law_645 ⟨by omega, by omega⟩ ?_
  refine kw_ialdS (j := 2) dL_law_646 (by decide) (by omega) (show i + 2 < ((kX E).1 : Int) by omega) (hX _) ?_
  refine kw_aload_n dL_law_647 rfl ?_
  refine kw_iload_n dL_law_648 rfl ?_
  refine kw_iconst dL_law_649 ⟨by decide, by decide⟩ ?_
  refine kw_iadd dL_law_650 ⟨by omega, by omega⟩ ?_
  refine kw_ialdS (j := 2) dL_law_651 (by decide) (by omega) (show i + 3 < ((kX E).1 : Int) by omega) (hX _) ?_
  refine kw_aload_n dL_law_652 rfl ?_
  refine kw_iload_n dL_law_653 rfl ?_
  refine kw_iconst dL_law_654 ⟨by decide, by decide⟩ ?_
  refine kw_iadd dL_law_655 ⟨by omega, by omega⟩ ?_
  refine kw_ialdS (j := 2) dL_law_656 (by decide) (by omega) (show i + 4 < ((kX E).1 : Int) by omega) (hX _) ?_
  obtain ⟨v, d1, e1, z1⟩ := s2_sure (E := E) (a := (kX E).2 (i + 1).toNat) (b := (kX E).2 (i + 2).toNat) (c := (kX E).2 (i + 3).toNat) (d := (kX E).2 (i + 4).toNat) h
  refine kw_callV (M2 := M_X6_sure) (As := [kI ((kX E).2 (i + 1).toNat), kI ((kX E).2 (i + 2).toNat), kI ((kX E).2 (i + 3).toNat), kI ((kX E).2 (i + 4).toNat)]) (b := 0) (mc3 := 0) (ms3 := 0) dL_law_657 ml_L_96 q_X6_sure rfl rfl rfl (Nat.le_of_ble_eq_true rfl) z1 (by omega) (Nat.le_refl _) (Nat.le_refl _) (fun r h2 y => ?_)
  obtain ⟨rfl, F1, g1, rfl, d2, e2, z2⟩ := y
  refine kw_aload_n dL_law_660 rfl ?_
  refine kw_aload_n dL_law_661 rfl ?_
  refine kw_iload_n dL_law_662 rfl ?_
  refine kw_iconst dL_law_663 ⟨by decide, by decide⟩ ?_
  refine kw_iadd dL_law_664 ⟨by omega, by omega⟩ ?_
  refine kw_ialdS (j := 2) dL_law_665 (by decide) (by omega) (show i + 1 < ((kX E).1 : Int) by omega) (hX _) ?_
  refine kw_aload_n dL_law_666 rfl ?_
  refine kw_iload_n dL_law_667 rfl ?_
  refine kw_iconst dL_law_668 ⟨by decide, by decide⟩ ?_
  refine kw_iadd dL_law_669 ⟨by omega, by omega⟩ ?_
  refine kw_ialdS (j := 2) dL_law_670 (by decide) (by omega) (show i + 2 < ((kX E).1 : Int) by omega) (hX _) ?_
  refine kw_aload_n dL_law_671 rfl ?_
  refine kw_iload_n dL_law_672 rfl ?_
  refine kw_iconst dL_law_673 ⟨by decide, by decide⟩ ?_
  refine kw_iadd dL_law_674 ⟨by omega, by omega⟩ ?_
  refine kw_ialdS (j := 2) dL_law_675 (by decide) (by omega) (show i + 3 < ((kX E).1 : Int) by omega) (hX _) ?_
  refine kw_aload_n dL_law_676 rfl ?_
  refine kw_iload_n dL_law_677 rfl ?_
  refine kw_iconst dL_law_678 ⟨by decide, by decide⟩ ?_
  refine kw_iadd dL_law_679 ⟨by omega, by omega⟩ ?_
  refine kw_ialdS (j := 2) dL_law_680 (by decide) (by omega) (show i + 4 < ((kX E).1 : Int) by omega) (hX _) ?_
  refine kw_callV (M2 := M_X7_sure) (As := [kI ((kX E).2 (i + 1).toNat), kI ((kX E).2 (i + 2).toNat), kI ((kX E).2 (i + 3).toNat), kI ((kX E).2 (i + 4).toNat)]) (b := 45) (mc3 := 0) (ms3 := 0) dL_law_681 ml_L_100 q_X7_sure rfl rfl rfl (Nat.le_of_ble_eq_true rfl) z2 (by omega) (Nat.le_refl _) (Nat.le_refl _) (fun r h2 y => ?_)
  obtain ⟨rfl, F2, rfl, hz⟩ := y
  refine kw_icmp_eq (tgt := 807) dL_law_684 (by decide) (kf := fun h1 => absurd rfl h1) (kt := fun h1 => ?_)
  exact kt F2 g1 hz
theorem w_waste {E : kEnv} {F : Nat → Int → Int} {g : Nat → Int → Option Nat} {i : Int} {Q : Option kV → kH → Prop} (h : zI F g) (hi : 0 ≤ i ∧ i + 5 ≤ ((kX E).1 : Int)) (hL : (kX E).1 ≤ 320) (hX : ∀ j, k_in ((kX E).2 j)) (kt : ∀ F2 g2, zI F2 g2 → kW E 40 0 0 M_L_law 807 [some (kA (1000002)), some (kA (0)), some (kA (45)), some (kI (i))] [] ((kMC ++ kMM), F2, g2) Q) : kW E 40 0 0 M_L_law 689 [some (kA (1000002)), some (kA (0)), some (kA (45)), some (kI (i))] [] ((kMC ++ kMM), F, g) Q := by
  refine kw_aload_n dL_law_689 rfl ?_
  obtain ⟨v, d1, e1, z1⟩ := s2_waste (E := E)  h
  refine kw_callV (M2 := M_X6_waste) (As := []) (b := 0) (mc3 := 0) (ms3 := 0) dL_law_690 ml_L_101 q_X6_waste rfl rfl rfl (Nat.le_of_ble_eq_true rfl) z1 (by omega) (Nat.le_refl _) (Nat.le_refl _) (fun r h2 y => ?_)
  obtain ⟨rfl, F1, g1, rfl, d2, e2, z2⟩ := y
  refine kw_aload_n dL_law_693 rfl ?_
  refine kw_callV (M2 := M_X7_waste) (As := []) (b := 45) (mc3 := 0) (ms3 := 0) dL_law_694 ml_L_104 q_X7_waste rfl rfl rfl (Nat.le_of_ble_eq_true rfl) z2 (by omega) (Nat.le_refl _) (Nat.le_refl _) (fun r h2 y => ?_)
  obtain ⟨rfl, F2, rfl, hz⟩ := y
  refine kw_icmp_eq (tgt := 807) dL_law_697 (by decide) (kf := fun h1 => absurd rfl h1) (kt := fun h1 => ?_)
  exact kt F2 g1 hz
theorem w_needs {E : kEnv} {F : Nat → Int → Int} {g : Nat → Int → Option Nat} {i : Int} {Q : Option kV → kH → Prop} (h : zI F g) (hi : 0 ≤ i ∧ i + 5 ≤ ((kX E).1 : Int)) (hL : (kX E).1 ≤ 320) (hX : ∀ j, k_in ((kX E).2 j)) (kt : ∀ F2 g2, zI F2 g2 → kW E 40 0 0 M_L_law 807 [some (kA (1000002)), some (kA (0)), some (kA (45)), some (kI (i))] [] ((kMC ++ kMM), F2, g2) Q) : kW E 40 0 0 M_L_law 702 [some (kA (1000002)), some (kA (0)), some (kA (45)), some (kI (i))] [] ((kMC ++ kMM), F, g) Q := by
  refine kw_aload_n dL_law_702 rfl ?_
  obtain ⟨v, d1, e1, z1⟩ := s2_needs (E := E)  h
  refine kw_callV (M2 := M_X6_needs) (As := []) (b := 0) (mc3 := 0) (ms3 := 0) dL_law_703 ml_L_105 q_X6_needs rfl rfl rfl (Nat.le_of_ble_eq_true rfl) z1 (by omega) (Nat.le_refl _) (Nat.le_refl _) (fun r h2 y => ?_)
  obtain ⟨rfl, F1, g1, rfl, d2, e2, z2⟩ := y
  refine kw_aload_n dL_law_706 rfl ?_
  refine kw_callV (M2 := M_X7_needs) (As := []) (b := 45) (mc3 := 0) (ms3 := 0) dL_law_707 ml_L_108 q_X7_needs rfl rfl rfl (Nat.le_of_ble_eq_true rfl) z2 (by omega) (Nat.le_refl _) (Nat.le_refl _) (fun r h2 y => ?_)
  obtain ⟨rfl, F2, rfl, hz⟩ := y
  refine kw_icmp_eq (tgt := 807) dL_law_710 (by decide) (kf := fun h1 => absurd rfl h1) (kt := fun h1 => ?_)
  exact kt F2 g1 hz
theorem w_storm {E : kEnv} {F : Nat → Int → Int} {g : Nat → Int → Option Nat} {i : Int} {Q : Option kV → kH → Prop} (h : zI F g) (hi : 0 ≤ i ∧ i + 5 ≤ ((kX E).1 : Int)) (hL : (kX E).1 ≤ 320) (hX : ∀ j, k_in ((kX E).2 j)) (kt : ∀ F2 g2, zI F2 g2 → kW E 40 0 0 M_L_law 807 [some (kA (1000002)), some (kA (0)), some (kA (45)), some (kI (i))] [] ((kMC ++ kMM), F2, g2) Q) : kW E 40 0 0 M_L_law 715 [some (kA (1000002)), some (kA (0)), some (kA (45)), some (kI (i))] [] ((kMC ++ kMM), F, g) Q := by
  refine kw_aload_n dL_law_715 rfl ?_
  refine kw_aload_n dL_law_716 rfl ?_
  refine kw_iload_n dL_law_717 rfl ?_
  refine kw_iconst dL_law_718 ⟨by decide, by decide⟩ ?_
  refine kw_iadd dL_law_719 ⟨by omega, by omega⟩ ?_
  refine kw_ialdS (j := 2) dL_law_720 (by decide) (by omega) (show i + 1 < ((kX E).1 : Int) by omega) (hX _) ?_
  refine kw_aload_n dL_law_721 rfl ?_
  refine kw_iload_n dL_law_722 rfl ?_
  refine kw_iconst dL_law_723 ⟨by decide, by decide⟩ ?_
  refine kw_iadd dL_law_724 ⟨by omega, by omega⟩ ?_
  refine kw_ialdS (j := 2) dL_law_725 (by decide) (by omega) (show i + 2 < ((kX E).1 : Int) by omega) (hX _) ?_
  refine kw_aload_n dL_law_726 rfl ?_
  refine kw_iload_n dL_law_727 rfl ?_
  refine kw_iconst dL_law_728 ⟨by decide, by decide⟩ ?_
  refine kw_iadd dL_law_729 ⟨by omega, by omega⟩ ?_
  refine kw_ialdS (j := 2) dL_law_730 (by decide) (by omega) (show i + 3 < ((kX E).1 : Int) by omega) (hX _) ?_
  obtain ⟨v, d1, e1, z1⟩ := s2_storm (E := E) (a := (kX E).2 (i + 1).toNat) (b := (kX E).2 (i + 2).toNat) (c := (kX E).2 (i + 3).toNat) h
  refine kw_callV (M2 := M_X6_storm) (As := [kI ((kX E).2 (i + 1).toNat), kI ((kX E).2 (i + 2).toNat), kI ((kX E).2 (i + 3).toNat)]) (b := 0) (mc3 := 0) (ms3 := 0) dL_law_731 ml_L_109 q_X6_storm rfl rfl rfl (Nat.le_of_ble_eq_true rfl) z1 (by omega) (Nat.le_refl _) (Nat.le_refl _) (fun r h2 y => ?_)
  obtain ⟨rfl, F1, g1, rfl, d2, e2, z2⟩ := y
  refine kw_aload_n dL_law_734 rfl ?_
  refine kw_aload_n dL_law_735 rfl ?_
  refine kw_iload_n dL_law_736 rfl ?_
  refine kw_iconst dL_law_737 ⟨by decide, by decide⟩ ?_
  refine kw_iadd dL_law_738 ⟨by omega, by omega⟩ ?_
  refine kw_ialdS (j := 2) dL_law_739 (by decide) (by omega) (show i + 1 < ((kX E).1 : Int) by omega) (hX _) ?_
  refine kw_aload_n dL_law_740 rfl ?_
  refine kw_iload_n dL_law_741 rfl ?_
  refine kw_iconst dL_law_742 ⟨by decide, by decide⟩ ?_
  refine kw_iadd dL_law_743 ⟨by omega, by omega⟩ ?_
  refine kw_ialdS (j := 2) dL_law_744 (by decide) (by omega) (show i + 2 < ((kX E).1 : Int) by omega) (hX _) ?_
  refine kw_aload_n dL_law_745 rfl ?_
  refine kw_iload_n dL_law_746 rfl ?_
  refine kw_iconst dL_law_747 ⟨by decide, by decide⟩ ?_
  refine kw_iadd dL_law_748 ⟨by omega, by omega⟩ ?_
  refine kw_ialdS (j := 2) dL_law_749 (by decide) (by omega) (show i + 3 < ((kX E).1 : Int) by omega) (hX _) ?_
  refine kw_callV (M2 := M_X7_storm) (As := [kI ((kX E).2 (i + 1).toNat), kI ((kX E).2 (i + 2).toNat), kI ((kX E).2 (i + 3).toNat)]) (b := 45) (mc3 := 0) (ms3 := 0) dL_law_750 ml_L_113 q_X7_storm rfl rfl rfl (Nat.le_of_ble_eq_true rfl) z2 (by omega) (Nat.le_refl _) (Nat.le_refl _) (fun r h2 y => ?_)
  obtain ⟨rfl, F2, rfl, hz⟩ := y
  refine kw_icmp_eq (tgt := 807) dL_law_753 (by decide) (kf := fun h1 => absurd rfl h1) (kt := fun h1 => ?_)
  exact kt F2 g1 hz
theorem w_keep {E : kEnv} {F : Nat → Int → Int} {g : Nat → Int → Option Nat} {i : Int} {Q : Option kV → kH → Prop} (h : zI F g) (hi : 0 ≤ i ∧ i + 5 ≤ ((kX E).1 : Int)) (hL : (kX E).1 ≤ 320) (hX : ∀ j, k_in ((kX E).2 j)) (kt : ∀ F2 g2, zI F2 g2 → kW E 40 0 0 M_L_law 807 [some (kA (1000002)), some (kA (0)), some (kA (45)), some (kI (i))] [] ((kMC ++ kMM), F2, g2) Q) : kW E 40 0 0 M_L_law 758 [some (kA (1000002)), some (kA (0)), some (kA (45)), some (kI (i))] [] ((kMC ++ kMM), F, g) Q := by
  refine kw_aload_n dL_law_758 rfl ?_
  obtain ⟨v, d1, e1, z1⟩ := s2_keep (E := E)  h
  refine kw_callV (M2 := M_X6_keep) (As := []) (b := 0) (mc3 := 0) (ms3 := 0) dL_law_759 ml_L_114 q_X6_keep rfl rfl rfl (Nat.le_of_ble_eq_true rfl) z1 (by omega) (Nat.le_refl _) (Nat.le_refl _) (fun r h2 y => ?_)
  obtain ⟨rfl, F1, g1, rfl, d2, e2, z2⟩ := y
  refine kw_aload_n dL_law_762 rfl ?_
  refine kw_callV (M2 := M_X7_keep) (As := []) (b := 45) (mc3 := 0) (ms3 := 0) dL_law_763 ml_L_117 q_X7_keep rfl rfl rfl (Nat.le_of_ble_eq_true rfl) z2 (by omega) (Nat.le_refl _) (Nat.le_refl _) (fun r h2 y => ?_)
  obtain ⟨rfl, F2, rfl, hz⟩ := y
  refine kw_icmp_eq (tgt := 807) dL_law_766 (by decide) (kf := fun h1 => absurd rfl h1) (kt := fun h1 => ?_)
  exact kt F2 g1 hz
theorem w_back {E : kEnv} {F : Nat → Int → Int} {g : Nat → Int → Option Nat} {i : Int} {Q : Option kV → kH → Prop} (h : zI F g) (hi : 0 ≤ i ∧ i + 5 ≤ ((kX E).1 : Int)) (hL : (kX E).1 ≤ 320) (hX : ∀ j, k_in ((kX E).2 j)) (kt : ∀ F2 g2, zI F2 g2 → kW E 40 0 0 M_L_law 807 [some (kA (1000002)), some (kA (0)), some (kA (45)), some (kI (i))] [] ((kMC ++ kMM), F2, g2) Q) : kW E 40 0 0 M_L_law 771 [some (kA (1000002)), some (kA (0)), some (kA (45)), some (kI (i))] [] ((kMC ++ kMM), F, g) Q := by
  refine kw_aload_n dL_law_771 rfl ?_
  obtain ⟨v, d1, e1, z1⟩ := s2_back (E := E)  h
  refine kw_callV (M2 := M_X6_back) (As := []) (b := 0) (mc3 := 0) (ms3 := 0) dL_law_772 ml_L_118 q_X6_back rfl rfl rfl (Nat.le_of_ble_eq_true rfl) z1 (by omega) (Nat.le_refl _) (Nat.le_refl _) (fun r h2 y => ?_)
  obtain ⟨rfl, F1, g1, rfl, d2, e2, z2⟩ := y
  refine kw_aload_n dL_law_775 rfl ?_
  refine kw_callV (M2 := M_X7_back) (As := []) (b := 45) (mc3 := 0) (ms3 := 0) dL_law_776 ml_L_121 q_X7_back rfl rfl rfl (Nat.le_of_ble_eq_true rfl) z2 (by omega) (Nat.le_refl _) (Nat.le_refl _) (fun r h2 y => ?_)
  obtain ⟨rfl, F2, rfl, hz⟩ := y
  refine kw_icmp_eq (tgt := 807) dL_law_779 (by decide) (kf := fun h1 => absurd rfl h1) (kt := fun h1 => ?_)
  exact kt F2 g1 hz
theorem w_count {E : kEnv} {F : Nat → Int → Int} {g : Nat → Int → Option Nat} {i : Int} {Q : Option kV → kH → Prop} (h : zI F g) (hi : 0 ≤ i ∧ i + 5 ≤ ((kX E).1 : Int)) (hL : (kX E).1 ≤ 320) (hX : ∀ j, k_in ((kX E).2 j)) (kt : ∀ F2 g2, zI F2 g2 → kW E 40 0 0 M_L_law 807 [some (kA (1000002)), some (kA (0)), some (kA (45)), some (kI (i))] [] ((kMC ++ kMM), F2, g2) Q) : kW E 40 0 0 M_L_law 784 [some (kA (1000002)), some (kA (0)), some (kA (45)), some (kI (i))] [] ((kMC ++ kMM), F, g) Q := by
  refine kw_aload_n dL_law_784 rfl ?_
  refine kw_aload_n dL_law_785 rfl ?_
  refine kw_iload_n dL_law_786 rfl ?_
  refine kw_iconst dL_law_787 ⟨by decide, by decide⟩ ?_
  refine kw_iadd dL_law_788 ⟨by omega, by omega⟩ ?_
  refine kw_ialdS (j := 2) dL_law_789 (by decide) (by omega) (show i + 1 < ((kX E).1 : Int) by omega) (hX _) ?_
  obtain ⟨v, d1, e1, z1⟩ := s2_count (E := E) (a := (kX E).2 (i + 1).toNat) h
  refine kw_callV (M2 := M_X6_count) (As := [kI ((kX E).2 (i + 1).toNat)]) (b := 0) (mc3 := 0) (ms3 := 0) dL_law_790 ml_L_122 q_X6_count rfl rfl rfl (Nat.le_of_ble_eq_true rfl) z1 (by omega) (Nat.le_refl _) (Nat.le_refl _) (fun r h2 y => ?_)
  obtain ⟨rfl, F1, g1, rfl, d2, e2, z2⟩ := y
  refine kw_aload_n dL_law_793 rfl ?_
  refine kw_aload_n dL_law_794 rfl ?_
  refine kw_iload_n dL_law_795 rfl ?_
  refine kw_iconst dL_law_796 ⟨by decide, by decide⟩ ?_
  refine kw_iadd dL_law_797 ⟨by omega, by omega⟩ ?_
  refine kw_ialdS (j := 2) dL_law_798 (by decide) (by omega) (show i + 1 < ((kX E).1 : Int) by omega) (hX _) ?_
  refine kw_callV (M2 := M_X7_count) (As := [kI ((kX E).2 (i + 1).toNat)]) (b := 45) (mc3 := 0) (ms3 := 0) dL_law_799 ml_L_125 q_X7_count rfl rfl rfl (Nat.le_of_ble_eq_true rfl) z2 (by omega) (Nat.le_refl _) (Nat.le_refl _) (fun r h2 y => ?_)
  obtain ⟨rfl, F2, rfl, hz⟩ := y
  refine kw_icmp_eq (tgt := 807) dL_law_802 (by decide) (kf := fun h1 => absurd rfl h1) (kt := fun h1 => ?_)
  exact kt F2 g1 hz
theorem k_and31 {x : Int} : ∃ z : Int, k_in z ∧ Int32.ofInt x &&& Int32.ofInt 31 = Int32.ofInt z :=
  ⟨(Int32.ofInt x &&& Int32.ofInt 31).toInt, ⟨Int32.le_toInt _, by have := Int32.toInt_lt (Int32.ofInt x &&& Int32.ofInt 31); omega⟩, by rw [Int32.ofInt_toInt]⟩
theorem l_law {E : kEnv} (hL : (kX E).1 ≤ 320) (hX : ∀ j, k_in ((kX E).2 j)) : ∀ (n : Nat) (i : Int) (F : Nat → Int → Int) (g : Nat → Int → Option Nat), (0 ≤ i ∧ i ≤ 325) → (400 - i).toNat < n → zI F g → kW E 40 0 0 M_L_law 18 [some (kA (1000002)), some (kA (0)), some (kA (45)), some (kI (i))] [] ((kMC ++ kMM), F, g) (fun r h' => r = some (kI 1)) := by
  intro n
  induction n with
  | zero => intro i F g _ y; omega
  | succ n ih =>
    intro i F g y0 y1 h
    have kt : ∀ F2 g2, zI F2 g2 → i + 5 ≤ ((kX E).1 : Int) → kW E 40 0 0 M_L_law 807 [some (kA (1000002)), some (kA (0)), some (kA (45)), some (kI (i))] [] ((kMC ++ kMM), F2, g2) (fun r h' => r = some (kI 1)) := by
      intro F2 g2 h2 y2
      refine kw_iinc dL_law_807 (by decide) rfl ⟨by omega, by omega⟩ trivial (L2 := [some (kA (1000002)), some (kA (0)), some (kA (45)), some (kI (i + 5))]) rfl ?_
      refine kw_goto (tgt := 18) dL_law_810 (by decide) ?_
      exact ih (i + 5) F2 g2 (by omega) (by omega) h2
    refine kw_iload_n dL_law_18 rfl ?_
    refine kw_aload_n dL_law_19 rfl ?_
    refine kw_alenS (j := 2) dL_law_20 (by decide) (show (kX E).1 < 2147483648 by omega) ?_
    refine (show kW _ _ _ _ _ _ _ (kI ((kX E).1 : Int) :: _) _ _ from ?_)
    refine kw_iconst dL_law_21 ⟨by decide, by decide⟩ ?_
    refine kw_isub dL_law_22 ⟨by omega, by omega⟩ ?_
    refine kw_icmp_gt (tgt := 813) dL_law_23 (by decide) (fun h1 => ?_) (fun h1 => ?_)
    · refine kw_iconst dL_law_813 ⟨by decide, by decide⟩ ?_
      exact kw_iret dL_law_814 rfl (k_nz (Or.inr rfl)) rfl
    · refine kw_aload_n dL_law_26 rfl ?_
      refine kw_iload_n dL_law_27 rfl ?_
      refine kw_ialdS (j := 2) dL_law_28 (by decide) (by omega) (show i < ((kX E).1 : Int) by omega) (hX _) ?_
      refine kw_bipush dL_law_29 (by decide) (by decide) ?_
      obtain ⟨z, hz1, hz2⟩ := k_and31 (x := (kX E).2 i.toNat)
      refine kw_iandG dL_law_31 hz1 hz2 ?_
      rcases (show z = 0 ∨ z = 1 ∨ z = 2 ∨ z = 3 ∨ z = 4 ∨ z = 5 ∨ z = 6 ∨ z = 7 ∨ z = 8 ∨ z = 9 ∨ z = 10 ∨ z = 11 ∨ z = 12 ∨ z = 13 ∨ z = 14 ∨ z = 15 ∨ z = 16 ∨ z = 17 ∨ z = 18 ∨ z = 19 ∨ z = 20 ∨ z = 21 ∨ z = 22 ∨ z = 23 ∨ z = 24 ∨ z = 25 ∨ z = 26 ∨ (z < 0 ∨ 26 < z) by omega) with h2 | h2 | h2 | h2 | h2 | h2 | h2 | h2 | h2 | h2 | h2 | h2 | h2 | h2 | h2 | h2 | h2 | h2 | h2 | h2 | h2 | h2 | h2 | h2 | h2 | h2 | h2 | h2
      · refine kw_tblIn (off := 124) (tgt := 156) dL_law_32 (by omega) (by omega) (by rw [h2]; rfl) (by decide) ?_
        exact w_write h ⟨by omega, by omega⟩ hL hX (fun F2 g2 h2 => kt F2 g2 h2 (by omega))
      · refine kw_tblIn (off := 147) (tgt := 179) dL_law_32 (by omega) (by omega) (by rw [h2]; rfl) (by decide) ?_
        exact w_wipe h ⟨by omega, by omega⟩ hL hX (fun F2 g2 h2 => kt F2 g2 h2 (by omega))
      · refine kw_tblIn (off := 160) (tgt := 192) dL_law_32 (by omega) (by omega) (by rw [h2]; rfl) (by decide) ?_
        exact w_fault h ⟨by omega, by omega⟩ hL hX (fun F2 g2 h2 => kt F2 g2 h2 (by omega))
      · refine kw_tblIn (off := 173) (tgt := 205) dL_law_32 (by omega) (by omega) (by rw [h2]; rfl) (by decide) ?_
        exact w_lay h ⟨by omega, by omega⟩ hL hX (fun F2 g2 h2 => kt F2 g2 h2 (by omega))
      · refine kw_tblIn (off := 186) (tgt := 218) dL_law_32 (by omega) (by omega) (by rw [h2]; rfl) (by decide) ?_
        exact w_bough h ⟨by omega, by omega⟩ hL hX (fun F2 g2 h2 => kt F2 g2 h2 (by omega))
      · refine kw_tblIn (off := 219) (tgt := 251) dL_law_32 (by omega) (by omega) (by rw [h2]; rfl) (by decide) ?_
        exact w_tenant h ⟨by omega, by omega⟩ hL hX (fun F2 g2 h2 => kt F2 g2 h2 (by omega))
      · refine kw_tblIn (off := 252) (tgt := 284) dL_law_32 (by omega) (by omega) (by rw [h2]; rfl) (by decide) ?_
        exact w_can h ⟨by omega, by omega⟩ hL hX (fun F2 g2 h2 => kt F2 g2 h2 (by omega))
      · refine kw_tblIn (off := 285) (tgt := 317) dL_law_32 (by omega) (by omega) (by rw [h2]; rfl) (by decide) ?_
        exact w_take h ⟨by omega, by omega⟩ hL hX (fun F2 g2 h2 => kt F2 g2 h2 (by omega))
      · refine kw_tblIn (off := 318) (tgt := 350) dL_law_32 (by omega) (by omega) (by rw [h2]; rfl) (by decide) ?_
        exact w_pass h ⟨by omega, by omega⟩ hL hX (fun F2 g2 h2 => kt F2 g2 h2 (by omega))
      · refine kw_tblIn (off := 341) (tgt := 373) dL_law_32 (by omega) (by omega) (by rw [h2]; rfl) (by decide) ?_
        exact w_hook h ⟨by omega, by omega⟩ hL hX (fun F2 g2 h2 => kt F2 g2 h2 (by omega))
      · refine kw_tblIn (off := 374) (tgt := 406) dL_law_32 (by omega) (by omega) (by rw [h2]; rfl) (by decide) ?_
        exact w_ring h ⟨by omega, by omega⟩ hL hX (fun F2 g2 h2 => kt F2 g2 h2 (by omega))
      · refine kw_tblIn (off := 397) (tgt := 429) dL_law_32 (by omega) (by omega) (by rw [h2]; rfl) (by decide) ?_
        exact w_undo h ⟨by omega, by omega⟩ hL hX (fun F2 g2 h2 => kt F2 g2 h2 (by omega))
      · refine kw_tblIn (off := 410) (tgt := 442) dL_law_32 (by omega) (by omega) (by rw [h2]; rfl) (by decide) ?_
        exact w_warmBy h ⟨by omega, by omega⟩ hL hX (fun F2 g2 h2 => kt F2 g2 h2 (by omega))
      · refine kw_tblIn (off := 433) (tgt := 465) dL_law_32 (by omega) (by omega) (by rw [h2]; rfl) (by decide) ?_
        exact w_allWarm h ⟨by omega, by omega⟩ hL hX (fun F2 g2 h2 => kt F2 g2 h2 (by omega))
      · refine kw_tblIn (off := 446) (tgt := 478) dL_law_32 (by omega) (by omega) (by rw [h2]; rfl) (by decide) ?_
        exact w_share h ⟨by omega, by omega⟩ hL hX (fun F2 g2 h2 => kt F2 g2 h2 (by omega))
      · refine kw_tblIn (off := 469) (tgt := 501) dL_law_32 (by omega) (by omega) (by rw [h2]; rfl) (by decide) ?_
        exact w_leastHook h ⟨by omega, by omega⟩ hL hX (fun F2 g2 h2 => kt F2 g2 h2 (by omega))
      · refine kw_tblIn (off := 492) (tgt := 524) dL_law_32 (by omega) (by omega) (by rw [h2]; rfl) (by decide) ?_
        exact w_pole h ⟨by omega, by omega⟩ hL hX (fun F2 g2 h2 => kt F2 g2 h2 (by omega))
      · refine kw_tblIn (off := 505) (tgt := 537) dL_law_32 (by omega) (by omega) (by rw [h2]; rfl) (by decide) ?_
        exact w_firstDay h ⟨by omega, by omega⟩ hL hX (fun F2 g2 h2 => kt F2 g2 h2 (by omega))
      · refine kw_tblIn (off := 538) (tgt := 570) dL_law_32 (by omega) (by omega) (by rw [h2]; rfl) (by decide) ?_
        exact w_sticks h ⟨by omega, by omega⟩ hL hX (fun F2 g2 h2 => kt F2 g2 h2 (by omega))
      · refine kw_tblIn (off := 571) (tgt := 603) dL_law_32 (by omega) (by omega) (by rw [h2]; rfl) (by decide) ?_
        exact w_whose h ⟨by omega, by omega⟩ hL hX (fun F2 g2 h2 => kt F2 g2 h2 (by omega))
      · refine kw_tblIn (off := 604) (tgt := 636) dL_law_32 (by omega) (by omega) (by rw [h2]; rfl) (by decide) ?_
        exact w_sure h ⟨by omega, by omega⟩ hL hX (fun F2 g2 h2 => kt F2 g2 h2 (by omega))
      · refine kw_tblIn (off := 657) (tgt := 689) dL_law_32 (by omega) (by omega) (by rw [h2]; rfl) (by decide) ?_
        exact w_waste h ⟨by omega, by omega⟩ hL hX (fun F2 g2 h2 => kt F2 g2 h2 (by omega))
      · refine kw_tblIn (off := 670) (tgt := 702) dL_law_32 (by omega) (by omega) (by rw [h2]; rfl) (by decide) ?_
        exact w_needs h ⟨by omega, by omega⟩ hL hX (fun F2 g2 h2 => kt F2 g2 h2 (by omega))
      · refine kw_tblIn (off := 683) (tgt := 715) dL_law_32 (by omega) (by omega) (by rw [h2]; rfl) (by decide) ?_
        exact w_storm h ⟨by omega, by omega⟩ hL hX (fun F2 g2 h2 => kt F2 g2 h2 (by omega))
      · refine kw_tblIn (off := 726) (tgt := 758) dL_law_32 (by omega) (by omega) (by rw [h2]; rfl) (by decide) ?_
        exact w_keep h ⟨by omega, by omega⟩ hL hX (fun F2 g2 h2 => kt F2 g2 h2 (by omega))
      · refine kw_tblIn (off := 739) (tgt := 771) dL_law_32 (by omega) (by omega) (by rw [h2]; rfl) (by decide) ?_
        exact w_back h ⟨by omega, by omega⟩ hL hX (fun F2 g2 h2 => kt F2 g2 h2 (by omega))
      · refine kw_tblIn (off := 752) (tgt := 784) dL_law_32 (by omega) (by omega) (by rw [h2]; rfl) (by decide) ?_
        exact w_count h ⟨by omega, by omega⟩ hL hX (fun F2 g2 h2 => kt F2 g2 h2 (by omega))
      · refine kw_tblOut (tgt := 807) dL_law_32 (by omega) (by decide) ?_
        exact kt F g h (by omega)
def gO : Nat → Int → Option Nat := fun _ _ => none
theorem zI_first {f2 f3 : Nat → Int → Int} {g : Nat → Int → Option Nat} (h1 : RS fT11 fS11 f2) (h2 : f2 1 2 = 0) (h3 : f2 12 1 = 0) (h4 : f2 30 1 = 0) (y1 : f3 47 = kLt fT11 (fun _ => 0) 37) (y2 : f3 45 1 = 0) (y3 : f3 45 7 = 0) (y4 : f3 45 9 = 0) (y5 : ∀ b : Nat, b < 45 → f3 b = f2 b) : zI (kst f3 50 (kLt fS11 (fun _ => 0) 29)) (kgM (k_zr (kgC g) 45)) := by
  have ok := rA_ok (tx := txF) (n := 87) 100 0 fT0 fS0 bgT_p bgS_p
  rw [fst_all] at ok
  obtain ⟨w1, w2, w3⟩ := zP_new (u := fun _ => 0) (w := fun _ => 0) ok.1 ok.2 (by decide +kernel) (by decide +kernel) h1
  have hg : ∀ b : Nat, b < 45 → kgM (k_zr (kgC g) 45) b = kgC g b := fun b hb => by
    rw [kgM_o hb]
    funext j
    exact if_neg (by omega)
  have hlo : ∀ b : Nat, b < 45 → kst f3 50 (kLt fS11 (fun _ => 0) 29) b = f2 b := fun b hb => by rw [kst_ne (by omega), y5 b hb]
  refine ⟨fun q hq => ?_, kgM_M, ?_, ?_, ?_, ?_, ⟨kst0, fun i i0 i1 => ?_, fun i i0 i1 => ?_, fun i j i0 i1 i2 => ?_, ?_, ?_, fun k k0 k1 => ?_⟩, fun i i0 i1 => ?_, ?_, ?_, fun k k0 k1 => ?_⟩
  · have z : ∀ q ∈ kGL, q.1 < 45 := by decide
    rw [hg _ (z q hq)]
    exact kgC_G q hq
  · rw [kst_ne (by decide), y1]; exact w1
  · rw [kst_ne (by decide), y1]
    exact RF_mono w2 (fun b b0 => hlo b (by omega))
  · rw [kst_ne (by decide), y1, kst_self]
    exact zP_mono w3 (hlo 10 (by decide)) (hlo 11 (by decide))
  · refine ⟨⟨?_, ?_, ?_⟩, fun j j0 j1 => ?_⟩
    · rw [hlo 1 (by decide), kst_ne (by decide), y2]; exact h2
    · rw [kst_ne (by decide), y2]; decide
    · rw [kst_ne (by decide), y2]; decide
    · rw [kst_ne (by decide), y2] at j1; omega
  · rw [hg 13 (by decide)]; exact kgC_P i i0 i1
  · unfold kst0; omega
  · unfold kst0; omega
  · rw [hlo 12 (by decide), h3, kst_ne (by decide), y3]
  · rw [kst_ne (by decide), y3]; decide
  · rw [kst_ne (by decide), y3] at k1; omega
  · rw [hg 31 (by decide)]; exact kgC_K i i0 i1
  · rw [hlo 30 (by decide), h4, kst_ne (by decide), y4]
  · rw [kst_ne (by decide), y4]; decide
  · rw [kst_ne (by decide), y4] at k1; omega
theorem law_all {E : kEnv} (hL : (kX E).1 ≤ 320) (hX : ∀ j, k_in ((kX E).2 j)) : kW E 40 56 1269 M_L_law 0 [some (kA 1000002), none, none, none] [] ([], kO, gO) (fun r h' => r = some (kI 1)) := by
  refine kn_new (a := 0) (mc2 := 55) (ms2 := 1262) (m2 := kMC.take 1) dL_law_0 km_L_7 rfl (by decide) (by decide) (by decide) rfl ?_
  refine kw_dup dL_law_3 trivial ?_
  refine kw_callI (M2 := M_X6_init) (As := []) (b := 0) (mc3 := 11) (ms3 := 677) dL_law_4 ml_L_9 q_X6_init (by decide) rfl (Nat.le_of_ble_eq_true rfl) (c_init6 (g := k_zr gO 0)) (by omega) (by decide) (by decide) (fun r h2 y => ?_)
  obtain ⟨rfl, f2, rfl, q1, q2, q3, q4⟩ := y
  refine (show kW E 40 11 677 M_L_law 7 [some (kA 1000002), none, none, none] [kA 0] (kMC ++ [], f2, kgC (k_zr gO 0)) (fun r h' => r = some (kI 1)) from ?_)
  refine kw_astore_n dL_law_7 (by omega) (by decide) trivial (L2 := [some (kA 1000002), some (kA 0), none, none]) rfl ?_
  refine kw_new (a := 45) (mc2 := 10) (ms2 := 663) dL_law_8 km_L_10 rfl (by decide) (by decide) (by decide) ?_
  rw [show k_new (kMC ++ [], f2, kgC (k_zr gO 0)) (7, 14) = (kMC ++ kMM.take 1, kZm f2 1, k_zr (kgC (k_zr gO 0)) 45) from by rw [← kZm_1]; rfl]
  refine kw_dup dL_law_11 trivial ?_
  refine kw_callI (M2 := M_X7_init) (As := []) (b := 45) (mc3 := 0) (ms3 := 0) dL_law_12 ml_L_12 q_X7_init (by decide) rfl (Nat.le_of_ble_eq_true rfl) (c_init7 (f := f2) (g := k_zr (kgC (k_zr gO 0)) 45)) (by omega) (by decide) (by decide) (fun r h2 y => ?_)
  obtain ⟨rfl, f3, rfl, p1, p2, p3, p4, p5⟩ := y
  refine (show kW E 40 0 0 M_L_law 15 [some (kA 1000002), some (kA 0), none, none] [kA 45] ((kMC ++ kMM), kst f3 50 (kLt fS11 (fun _ => 0) 29), kgM (k_zr (kgC (k_zr gO 0)) 45)) (fun r h' => r = some (kI 1)) from ?_)
  refine kw_astore_n dL_law_15 (by omega) (by decide) trivial (L2 := [some (kA 1000002), some (kA 0), some (kA 45), none]) rfl ?_
  refine kw_iconst dL_law_16 ⟨by decide, by decide⟩ ?_
  refine kw_istore_n dL_law_17 (by decide) trivial (L2 := [some (kA 1000002), some (kA 0), some (kA 45), some (kI 0)]) rfl ?_
  exact l_law hL hX 401 0 _ _ ⟨by omega, by omega⟩ (by omega) (zI_first q1 q2 q3 q4 p1 p2 p3 p4 p5)
