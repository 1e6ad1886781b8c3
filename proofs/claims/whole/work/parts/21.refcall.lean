noncomputable def k_X7_call_b487 (x1 : Int32) (x2 : Int32) (x3 : Int32) (x4 : Int32) (K : MS → Int32 → Int32 → Int32 → Option (Int32 × MS)) (τ : MS) (x5 : Int32) (x6 : Int32) (x7 : Int32) (x8 : Int32) (x9 : Int32) (x10 : Int32) (x11 : Int32) (x12 : Int32) (x13 : Int32) (x14 : Int32) (x15 : Int32) : Option (Int32 × MS) := zi (x15 ≤ 0) (K τ x5 x6 x11) (some (x15, τ))
noncomputable def k_X7_call_b429 (x1 : Int32) (x2 : Int32) (x3 : Int32) (x4 : Int32) (K : MS → Int32 → Int32 → Int32 → Option (Int32 × MS)) (τ : MS) (x5 : Int32) (x6 : Int32) (x7 : Int32) (x8 : Int32) (x9 : Int32) (x10 : Int32) (x11 : Int32) (x12 : Int32) (x13 : Int32) (x14 : Int32) (x15 : Int32) : Option (Int32 × MS) := zi ((5 : Int32) ≤ x8) (zi ((12 : Int32) ≤ x8) (zi (x8 = (14 : Int32)) (k_X7_call_b487 x1 x2 x3 x4 K τ x5 x6 x7 x8 x9 x10 x11 x12 x13 x14 x15) (zb (k_X7_other τ x8 x10 x1 x5) (fun r_81 t_82 => k_X7_call_b487 x1 x2 x3 x4 K t_82 x5 x6 x7 x8 x9 x10 x11 x12 x13 x14 r_81))) (zb (k_X7_reckon τ x8) (fun r_84 t_85 => k_X7_call_b487 x1 x2 x3 x4 K t_85 x5 x6 x7 x8 x9 x10 x11 x12 x13 x14 r_84))) (zb (k_X7_move τ x8 x10 x1 x5) (fun _ t_88 => k_X7_call_b487 x1 x2 x3 x4 K t_88 x5 x6 x7 x8 x9 x10 x11 x12 x13 x14 x15))
noncomputable def k_X7_call_b417 (x1 : Int32) (x2 : Int32) (x3 : Int32) (x4 : Int32) (τ : MS) (x5 : Int32) (x6 : Int32) (x7 : Int32) (x8 : Int32) (x9 : Int32) (x10 : Int32) (x11 : Int32) (x12 : Int32) (x13 : Int32) (x14 : Int32) (x15 : Int32) : Option (Int32 × MS) := some ((1 : Int32), τ)
noncomputable def k_X7_call_b399 (x1 : Int32) (x2 : Int32) (x3 : Int32) (x4 : Int32) (K : MS → Int32 → Int32 → Int32 → Option (Int32 × MS)) (τ : MS) (x5 : Int32) (x6 : Int32) (x7 : Int32) (x8 : Int32) (x9 : Int32) (x10 : Int32) (x11 : Int32) (x12 : Int32) (x13 : Int32) (x14 : Int32) (x15 : Int32) : Option (Int32 × MS) := zi ((x11 + x10) < 0) (k_X7_call_b417 x1 x2 x3 x4 τ x5 x6 x7 x8 x9 x10 x11 x12 x13 x14 x15) (zi ((x11 + x10) ≤ x4) (k_X7_call_b487 x1 x2 x3 x4 K τ x5 x6 x7 x8 x9 x10 (x11 + x10) x12 x13 x14 x15) (k_X7_call_b417 x1 x2 x3 x4 τ x5 x6 x7 x8 x9 x10 x11 x12 x13 x14 x15))
noncomputable def k_X7_call_b373 (x1 : Int32) (x2 : Int32) (x3 : Int32) (x4 : Int32) (K : MS → Int32 → Int32 → Int32 → Option (Int32 × MS)) (τ : MS) (x5 : Int32) (x6 : Int32) (x7 : Int32) (x8 : Int32) (x9 : Int32) (x10 : Int32) (x11 : Int32) (x12 : Int32) (x13 : Int32) (x14 : Int32) : Option (Int32 × MS) := zi (x8 = (13 : Int32)) (k_X7_call_b399 x1 x2 x3 x4 K τ x5 x6 x7 x8 x9 x10 x11 x12 x13 x14 (0 : Int32)) (zi (x8 = (14 : Int32)) (zb (k_X7_take τ) (fun r_94 t_95 => zi ((lg_cmp r_94 (0 : Int64)) = 0) (k_X7_call_b399 x1 x2 x3 x4 K t_95 x5 x6 x7 x8 x9 x10 x11 x12 x13 x14 (0 : Int32)) (k_X7_call_b429 x1 x2 x3 x4 K t_95 x5 x6 x7 x8 x9 x10 x11 x12 x13 x14 (0 : Int32)))) (k_X7_call_b429 x1 x2 x3 x4 K τ x5 x6 x7 x8 x9 x10 x11 x12 x13 x14 (0 : Int32)))
noncomputable def k_X7_call_b371 (x1 : Int32) (x2 : Int32) (x3 : Int32) (x4 : Int32) (τ : MS) (x5 : Int32) (x6 : Int32) (x7 : Int32) (x8 : Int32) (x9 : Int32) (x10 : Int32) (x11 : Int32) (x12 : Int32) (x13 : Int32) (x14 : Int32) : Option (Int32 × MS) := some ((3 : Int32), τ)
noncomputable def k_X7_call_b339 (x1 : Int32) (x2 : Int32) (x3 : Int32) (x4 : Int32) (K : MS → Int32 → Int32 → Int32 → Option (Int32 × MS)) (τ : MS) (y0 : Int32) (x5 : Int32) (x6 : Int32) (x7 : Int32) (x8 : Int32) (x9 : Int32) (x10 : Int32) (x11 : Int32) (x12 : Int32) (x13 : Int32) : Option (Int32 × MS) := zi (x8 = (13 : Int32)) (k_X7_call_b373 x1 x2 x3 x4 K τ x5 x6 x7 x8 x9 x10 x11 x12 x13 y0) (zi ((mi τ 28) < x13) (k_X7_call_b371 x1 x2 x3 x4 τ x5 x6 x7 x8 x9 x10 x11 x12 x13 y0) (zi (y0 = 0) (k_X7_call_b373 x1 x2 x3 x4 K τ x5 x6 x7 x8 x9 x10 x11 x12 x13 y0) (zi ((mi τ 28) = (16 : Int32)) (k_X7_call_b371 x1 x2 x3 x4 τ x5 x6 x7 x8 x9 x10 x11 x12 x13 y0) (k_X7_call_b373 x1 x2 x3 x4 K τ x5 x6 x7 x8 x9 x10 x11 x12 x13 y0))))
noncomputable def k_X7_call_b334 (x1 : Int32) (x2 : Int32) (x3 : Int32) (x4 : Int32) (K : MS → Int32 → Int32 → Int32 → Option (Int32 × MS)) (τ : MS) (x5 : Int32) (x6 : Int32) (x7 : Int32) (x8 : Int32) (x9 : Int32) (x10 : Int32) (x11 : Int32) (x12 : Int32) (x13 : Int32) : Option (Int32 × MS) := k_X7_call_b339 x1 x2 x3 x4 K τ (1 : Int32) x5 x6 x7 x8 x9 x10 x11 x12 x13
noncomputable def k_X7_call_b301 (x1 : Int32) (x2 : Int32) (x3 : Int32) (x4 : Int32) (K : MS → Int32 → Int32 → Int32 → Option (Int32 × MS)) (τ : MS) (y0 : Int32) (x5 : Int32) (x6 : Int32) (x7 : Int32) (x8 : Int32) (x9 : Int32) (x10 : Int32) (x11 : Int32) (x12 : Int32) : Option (Int32 × MS) := zi (x8 = 0) (k_X7_call_b334 x1 x2 x3 x4 K τ x5 x6 x7 x8 x9 x10 x11 x12 y0) (zi (x8 = (1 : Int32)) (k_X7_call_b334 x1 x2 x3 x4 K τ x5 x6 x7 x8 x9 x10 x11 x12 y0) (zi (x8 = (3 : Int32)) (k_X7_call_b334 x1 x2 x3 x4 K τ x5 x6 x7 x8 x9 x10 x11 x12 y0) (zi (x8 = (12 : Int32)) (k_X7_call_b334 x1 x2 x3 x4 K τ x5 x6 x7 x8 x9 x10 x11 x12 y0) (zi (x8 = (17 : Int32)) (k_X7_call_b334 x1 x2 x3 x4 K τ x5 x6 x7 x8 x9 x10 x11 x12 y0) (k_X7_call_b339 x1 x2 x3 x4 K τ (0 : Int32) x5 x6 x7 x8 x9 x10 x11 x12 y0)))))
noncomputable def k_X7_call_b281 (x1 : Int32) (x2 : Int32) (x3 : Int32) (x4 : Int32) (K : MS → Int32 → Int32 → Int32 → Option (Int32 × MS)) (τ : MS) (x5 : Int32) (x6 : Int32) (x7 : Int32) (x8 : Int32) (x9 : Int32) (x10 : Int32) (x11 : Int32) (x12 : Int32) : Option (Int32 × MS) := k_X7_call_b301 x1 x2 x3 x4 K τ (1 : Int32) x5 x6 x7 x8 x9 x10 x11 x12
noncomputable def k_X7_call_b248 (x1 : Int32) (x2 : Int32) (x3 : Int32) (x4 : Int32) (K : MS → Int32 → Int32 → Int32 → Option (Int32 × MS)) (τ : MS) (x5 : Int32) (x6 : Int32) (x7 : Int32) (x8 : Int32) (x9 : Int32) (x10 : Int32) (x11 : Int32) (x12 : Int32) : Option (Int32 × MS) := zi (x8 = (2 : Int32)) (k_X7_call_b281 x1 x2 x3 x4 K τ x5 x6 x7 x8 x9 x10 x11 x12) (zi (x8 = (4 : Int32)) (k_X7_call_b281 x1 x2 x3 x4 K τ x5 x6 x7 x8 x9 x10 x11 x12) (zi (x8 = (12 : Int32)) (k_X7_call_b281 x1 x2 x3 x4 K τ x5 x6 x7 x8 x9 x10 x11 x12) (zi (x8 = (14 : Int32)) (k_X7_call_b281 x1 x2 x3 x4 K τ x5 x6 x7 x8 x9 x10 x11 x12) (zi (x8 = (15 : Int32)) (k_X7_call_b281 x1 x2 x3 x4 K τ x5 x6 x7 x8 x9 x10 x11 x12) (zb (k_X7_in τ x8 (5 : Int32) (11 : Int32)) (fun r_112 t_113 => zi (r_112 = 0) (k_X7_call_b301 x1 x2 x3 x4 K t_113 (0 : Int32) x5 x6 x7 x8 x9 x10 x11 x12) (k_X7_call_b301 x1 x2 x3 x4 K t_113 (2 : Int32) x5 x6 x7 x8 x9 x10 x11 x12)))))))
noncomputable def k_X7_call_b228 (x1 : Int32) (x2 : Int32) (x3 : Int32) (x4 : Int32) (K : MS → Int32 → Int32 → Int32 → Option (Int32 × MS)) (τ : MS) (y0 : Int32) (x5 : Int32) (x6 : Int32) (x7 : Int32) (x8 : Int32) (x9 : Int32) (x10 : Int32) (x11 : Int32) : Option (Int32 × MS) := zi (y0 = 0) (k_X7_call_b248 x1 x2 x3 x4 K τ x5 x6 x7 x8 x9 x10 x11 y0) (zb (k_X7_in τ x10 (0 : Int32) (7 : Int32)) (fun r_117 t_118 => zi (r_117 = 0) (some ((2 : Int32), t_118)) (k_X7_call_b248 x1 x2 x3 x4 K t_118 x5 x6 x7 x8 x9 x10 x11 y0)))
noncomputable def k_X7_call_b223 (x1 : Int32) (x2 : Int32) (x3 : Int32) (x4 : Int32) (K : MS → Int32 → Int32 → Int32 → Option (Int32 × MS)) (τ : MS) (x5 : Int32) (x6 : Int32) (x7 : Int32) (x8 : Int32) (x9 : Int32) (x10 : Int32) (x11 : Int32) : Option (Int32 × MS) := k_X7_call_b228 x1 x2 x3 x4 K τ (1 : Int32) x5 x6 x7 x8 x9 x10 x11
noncomputable def k_X7_call_b203 (x1 : Int32) (x2 : Int32) (x3 : Int32) (x4 : Int32) (K : MS → Int32 → Int32 → Int32 → Option (Int32 × MS)) (τ : MS) (y0 : Int32) (y1 : Int32) (x5 : Int32) (x6 : Int32) (x7 : Int32) (x8 : Int32) (x9 : Int32) (x10 : Int32) : Option (Int32 × MS) := zb (k_X7_in τ x8 (1 : Int32) (4 : Int32)) (fun r_121 t_122 => zi (r_121 = 0) (zi (x8 = (16 : Int32)) (k_X7_call_b223 x1 x2 x3 x4 K t_122 x5 x6 x7 x8 x9 x10 (y1 + y0)) (k_X7_call_b228 x1 x2 x3 x4 K t_122 (0 : Int32) x5 x6 x7 x8 x9 x10 (y1 + y0))) (k_X7_call_b223 x1 x2 x3 x4 K t_122 x5 x6 x7 x8 x9 x10 (y1 + y0)))
noncomputable def k_X7_call_b189 (x1 : Int32) (x2 : Int32) (x3 : Int32) (x4 : Int32) (K : MS → Int32 → Int32 → Int32 → Option (Int32 × MS)) (τ : MS) (y0 : Int32) (x5 : Int32) (x6 : Int32) (x7 : Int32) (x8 : Int32) (x9 : Int32) : Option (Int32 × MS) := zi (x9 = 0) (k_X7_call_b203 x1 x2 x3 x4 K τ (1 : Int32) x7 x5 x6 x7 x8 x9 y0) (k_X7_call_b203 x1 x2 x3 x4 K τ (2 : Int32) x7 x5 x6 x7 x8 x9 y0)
noncomputable def k_X7_call_b168 (x1 : Int32) (x2 : Int32) (x3 : Int32) (x4 : Int32) (K : MS → Int32 → Int32 → Int32 → Option (Int32 × MS)) (τ : MS) (x5 : Int32) (x6 : Int32) (x7 : Int32) (x8 : Int32) (x9 : Int32) : Option (Int32 × MS) := zi (x9 = 0) (k_X7_call_b189 x1 x2 x3 x4 K τ (0 : Int32) x5 x6 x7 x8 x9) (zg (vp_in ((x6 + x7) + (1 : Int32)) 21600) (k_X7_call_b189 x1 x2 x3 x4 K τ (mr τ 7 ((x6 + x7) + (1 : Int32)).toNatClampNeg) x5 x6 x7 x8 x9))
noncomputable def k_X7_call_b166 (x1 : Int32) (x2 : Int32) (x3 : Int32) (x4 : Int32) (τ : MS) (x5 : Int32) (x6 : Int32) (x7 : Int32) (x8 : Int32) (x9 : Int32) : Option (Int32 × MS) := some ((1 : Int32), τ)
noncomputable def k_X7_call_b139 (x1 : Int32) (x2 : Int32) (x3 : Int32) (x4 : Int32) (K : MS → Int32 → Int32 → Int32 → Option (Int32 × MS)) (τ : MS) (y0 : Int32) (x5 : Int32) (x6 : Int32) (x7 : Int32) (x8 : Int32) : Option (Int32 × MS) := zb (k_X7_in τ x8 (0 : Int32) (18 : Int32)) (fun r_129 t_130 => zi (r_129 = 0) (k_X7_call_b166 x1 x2 x3 x4 t_130 x5 x6 x7 x8 y0) (zi (y0 = 0) (k_X7_call_b168 x1 x2 x3 x4 K t_130 x5 x6 x7 x8 y0) (zi ((x7 + (1 : Int32)) < x4) (k_X7_call_b168 x1 x2 x3 x4 K t_130 x5 x6 x7 x8 y0) (k_X7_call_b166 x1 x2 x3 x4 t_130 x5 x6 x7 x8 y0))))
noncomputable def k_X7_call_b134 (x1 : Int32) (x2 : Int32) (x3 : Int32) (x4 : Int32) (K : MS → Int32 → Int32 → Int32 → Option (Int32 × MS)) (τ : MS) (x5 : Int32) (x6 : Int32) (x7 : Int32) (x8 : Int32) : Option (Int32 × MS) := k_X7_call_b139 x1 x2 x3 x4 K τ (1 : Int32) x5 x6 x7 x8
noncomputable def k_X7_call_s53 (x1 : Int32) (x2 : Int32) (x3 : Int32) (x4 : Int32) (K : MS → Int32 → Int32 → Int32 → Option (Int32 × MS)) (τ : MS) (x5 : Int32) (x6 : Int32) (x7 : Int32) : Option (Int32 × MS) := zi (x7 = x4) (some ((0 : Int32), τ)) (zi ((mi τ 29) = (mi τ 1)) (some ((7 : Int32), τ)) (zg (vp_in (x6 + x7) 21600) (zb (k_X7_in (mI τ 29 ((mi τ 29) + (1 : Int32))) (mr (mI τ 29 ((mi τ 29) + (1 : Int32))) 7 (x6 + x7).toNatClampNeg) (0 : Int32) (4 : Int32)) (fun r_138 t_139 => zi (r_138 = 0) (zi ((mr (mI τ 29 ((mi τ 29) + (1 : Int32))) 7 (x6 + x7).toNatClampNeg) = (13 : Int32)) (k_X7_call_b134 x1 x2 x3 x4 K t_139 x5 x6 x7 (mr (mI τ 29 ((mi τ 29) + (1 : Int32))) 7 (x6 + x7).toNatClampNeg)) (zi ((mr (mI τ 29 ((mi τ 29) + (1 : Int32))) 7 (x6 + x7).toNatClampNeg) = (14 : Int32)) (k_X7_call_b134 x1 x2 x3 x4 K t_139 x5 x6 x7 (mr (mI τ 29 ((mi τ 29) + (1 : Int32))) 7 (x6 + x7).toNatClampNeg)) (zi ((mr (mI τ 29 ((mi τ 29) + (1 : Int32))) 7 (x6 + x7).toNatClampNeg) = (16 : Int32)) (k_X7_call_b134 x1 x2 x3 x4 K t_139 x5 x6 x7 (mr (mI τ 29 ((mi τ 29) + (1 : Int32))) 7 (x6 + x7).toNatClampNeg)) (zi ((mr (mI τ 29 ((mi τ 29) + (1 : Int32))) 7 (x6 + x7).toNatClampNeg) = (18 : Int32)) (k_X7_call_b134 x1 x2 x3 x4 K t_139 x5 x6 x7 (mr (mI τ 29 ((mi τ 29) + (1 : Int32))) 7 (x6 + x7).toNatClampNeg)) (k_X7_call_b139 x1 x2 x3 x4 K t_139 (0 : Int32) x5 x6 x7 (mr (mI τ 29 ((mi τ 29) + (1 : Int32))) 7 (x6 + x7).toNatClampNeg)))))) (k_X7_call_b134 x1 x2 x3 x4 K t_139 x5 x6 x7 (mr (mI τ 29 ((mi τ 29) + (1 : Int32))) 7 (x6 + x7).toNatClampNeg))))))
noncomputable def k_X7_call_l53 (x1 : Int32) (x2 : Int32) (x3 : Int32) (x4 : Int32) : Nat → MS → Int32 → Int32 → Int32 → Option (Int32 × MS)
  | 0 => fun _ _ _ _ => none
  | n + 1 => fun τ x5 x6 x7 => k_X7_call_s53 x1 x2 x3 x4 (k_X7_call_l53 x1 x2 x3 x4 n) τ x5 x6 x7
theorem k_X7_call_l53_s (x1 : Int32) (x2 : Int32) (x3 : Int32) (x4 : Int32) (n : Nat) (τ : MS) (x5 : Int32) (x6 : Int32) (x7 : Int32) : k_X7_call_l53 x1 x2 x3 x4 (n + 1) τ x5 x6 x7 = k_X7_call_s53 x1 x2 x3 x4 (k_X7_call_l53 x1 x2 x3 x4 n) τ x5 x6 x7 := rfl
theorem k_X7_call_l53_z (x1 : Int32) (x2 : Int32) (x3 : Int32) (x4 : Int32) (τ : MS) (x5 : Int32) (x6 : Int32) (x7 : Int32) : k_X7_call_l53 x1 x2 x3 x4 0 τ x5 x6 x7 = none := rfl
noncomputable def k_X7_call (τ : MS) (x1 : Int32) (x2 : Int32) (x3 : Int32) (x4 : Int32) : Option (Int32 × MS) := zb (k_X7_at (mI (mI (mI (mI τ 26 ((mi τ 26) + (1 : Int32))) 28 (0 : Int32)) 29 (0 : Int32)) 30 (0 : Int32)) x1 x2) (fun r_146 t_147 => zg (vp_in r_146 160) (zb (k_X7_place t_147 x2 (mr t_147 21 r_146.toNatClampNeg)) (fun r_150 t_151 => k_X7_call_l53 x1 x2 x3 x4 FU t_151 r_146 (((120 : Int32) * r_150) + x3) (0 : Int32))))
set_option maxHeartbeats 4000000 in
set_option maxRecDepth 100000 in
theorem kc_X7_call (l : Launch) (D : va_G) (cy : Nat → ClassId) (A : Nat → Prop) (ad : Nat → Nat) (τ τ' : MS) (x1 : Int32) (x2 : Int32) (x3 : Int32) (x4 : Int32) (r : Int32) (hf : k_X7_call τ x1 x2 x3 x4 = some (r, τ')) : Met l yX7_call (wz yX7_call cX7_call 16 (some .int)) ({ frames := 2, cells := 0, slots := 0, locals := 48 } : Room) (va_Pc [.ref (ad 0), .int x1, .int x2, .int x3, .int x4] (MWs D cy A ad τ)) (va_Qi (fun (r' : Int32) (u : MS) => r' = r ∧ u = τ') (MWp D cy A ad) A) 0 0 A := by
  refine Met.ofW (cc := cX7_call) (maxL := 16) (ret := (some .int)) (by decide) rfl ?_
  intro p e s m args below meth c s₁ B hml hv
  obtain ⟨rfl, hw, hK⟩ := hv
  have hx := B.exec
  have hb := B.bytes
  have hr := B.returns
  have hts := atoms_spec (ws := (wz yX7_call cX7_call 16 (some .int))) B.pre
  have hown : s.vm.findClass RX7 = some m.cls := findClass_of_methodNamed B.named
  have hlocks := B.notSynchronized
  have S : CallFix p m c cX7_call 16 s ([.ref (ad 0), .int x1, .int x2, .int x3, .int x4] : List Value).toArray (wz yX7_call cX7_call 16 (some .int)) RX7 := ⟨hx, hb, hml, hown, hts⟩
  have h7 : ∀ w ∈ wsX70, w ∈ (wz yX7_call cX7_call 16 (some .int)) := fun w h => wz_in (inlX7 w h)
  have hS : va_S A s.heap s.heap [] := va_S.rf
  have hl := lv_entry ([.ref (ad 0), .int x1, .int x2, .int x3, .int x4]) (n := 16) (Nat.le_of_ble_eq_true rfl)
  rw [lg_entry_eq]
  generalize (lg_sl ([.ref (ad 0), .int x1, .int x2, .int x3, .int x4]) ++ List.replicate (16 - (lg_sl ([.ref (ad 0), .int x1, .int x2, .int x3, .int x4])).length) Slot.unset).toArray = ls at hl ⊢
  have hl : lv_has ls 16 [(0, .ref (ad 0)), (1, .int x1), (2, .int x2), (3, .int x3), (4, .int x4)] := hl
  have B487 : ∀ (K : MS → Int32 → Int32 → Int32 → Option (Int32 × MS)) (_hKK : ∀ (τ : MS) (x5 : Int32) (x6 : Int32) (x7 : Int32) (H : Heap) (locs : List Loc) (ls : Array Slot) (hf : K τ x5 x6 x7 = some (r, τ')) (hw : zw D A ad (mG cy ad τ) H) (hS : va_S A s.heap H locs) (hl : lv_has ls 16 [(0, .ref (ad 0)), (1, .int x1), (2, .int x2), (3, .int x3), (4, .int x4), (5, .int x5), (6, .int x6), (7, .int x7)]), W p l e (headSpec (wz yX7_call cX7_call 16 (some .int)) ({ frames := 2, cells := 0, slots := 0, locals := 48 } : Room)).room s m ([.ref (ad 0), .int x1, .int x2, .int x3, .int x4] : List Value).toArray below meth c H locs 0 0 (MQ below (va_Qi (fun (r' : Int32) (u : MS) => r' = r ∧ u = τ') (MWp D cy A ad) A) ([.ref (ad 0), .int x1, .int x2, .int x3, .int x4] : List Value).toArray s 0 0 A) (F0 m 53 ls [])) (τ : MS) (x5 : Int32) (x6 : Int32) (x7 : Int32) (x8 : Int32) (x9 : Int32) (x10 : Int32) (x11 : Int32) (x12 : Int32) (x13 : Int32) (x14 : Int32) (x15 : Int32) (H : Heap) (locs : List Loc) (ls : Array Slot) (hf : k_X7_call_b487 x1 x2 x3 x4 K τ x5 x6 x7 x8 x9 x10 x11 x12 x13 x14 x15 = some (r, τ')) (hw : zw D A ad (mG cy ad τ) H) (hS : va_S A s.heap H locs) (hl : lv_has ls 16 [(0, .ref (ad 0)), (1, .int x1), (2, .int x2), (3, .int x3), (4, .int x4), (5, .int x5), (6, .int x6), (7, .int x7), (8, .int x8), (9, .int x9), (10, .int x10), (11, .int x11), (12, .int x12), (13, .int x13), (14, .int x14), (15, .int x15)]), W p l e (headSpec (wz yX7_call cX7_call 16 (some .int)) ({ frames := 2, cells := 0, slots := 0, locals := 48 } : Room)).room s m ([.ref (ad 0), .int x1, .int x2, .int x3, .int x4] : List Value).toArray below meth c H locs 0 0 (MQ below (va_Qi (fun (r' : Int32) (u : MS) => r' = r ∧ u = τ') (MWp D cy A ad) A) ([.ref (ad 0), .int x1, .int x2, .int x3, .int x4] : List Value).toArray s 0 0 A) (F0 m 487 ls []) := by
    intro K hKK τ x5 x6 x7 x8 x9 x10 x11 x12 x13 x14 x15 H locs ls hf hw hS hl
    rw [k_X7_call_b487] at hf
    refine lv_iload hx hb dX7_call_487 (lv_at hl 15 rfl) ?_
    refine lv_if_le (tgt := 495) hx hb dX7_call_489 (by decide) (fun c_77 => ?_) (fun c_77 => ?_)
    · have hf := (zi_t c_77).symm.trans hf
      refine lv_iload hx hb dX7_call_495 (lv_at hl 11 rfl) ?_
      refine lv_istore (lv' := [(7, .int x11), (0, .ref (ad 0)), (1, .int x1), (2, .int x2), (3, .int x3), (4, .int x4), (5, .int x5), (6, .int x6), (8, .int x8), (9, .int x9), (10, .int x10), (11, .int x11), (12, .int x12), (13, .int x13), (14, .int x14), (15, .int x15)]) hx hb dX7_call_497 hl (by decide) rfl (fun ls hl => ?_)
      refine lv_goto (tgt := 53) hx hb dX7_call_499 (by decide) ?_
      exact hKK _ _ _ _ _ _ _ hf hw hS (lv_sub hl [1, 2, 3, 4, 5, 6, 7, 0] rfl)
    · have hf := (zi_f c_77).symm.trans hf
      refine lv_iload hx hb dX7_call_492 (lv_at hl 15 rfl) ?_
      exact mw_reti S hr hf hw hS hlocks dX7_call_494
  have B429 : ∀ (K : MS → Int32 → Int32 → Int32 → Option (Int32 × MS)) (_hKK : ∀ (τ : MS) (x5 : Int32) (x6 : Int32) (x7 : Int32) (H : Heap) (locs : List Loc) (ls : Array Slot) (hf : K τ x5 x6 x7 = some (r, τ')) (hw : zw D A ad (mG cy ad τ) H) (hS : va_S A s.heap H locs) (hl : lv_has ls 16 [(0, .ref (ad 0)), (1, .int x1), (2, .int x2), (3, .int x3), (4, .int x4), (5, .int x5), (6, .int x6), (7, .int x7)]), W p l e (headSpec (wz yX7_call cX7_call 16 (some .int)) ({ frames := 2, cells := 0, slots := 0, locals := 48 } : Room)).room s m ([.ref (ad 0), .int x1, .int x2, .int x3, .int x4] : List Value).toArray below meth c H locs 0 0 (MQ below (va_Qi (fun (r' : Int32) (u : MS) => r' = r ∧ u = τ') (MWp D cy A ad) A) ([.ref (ad 0), .int x1, .int x2, .int x3, .int x4] : List Value).toArray s 0 0 A) (F0 m 53 ls [])) (τ : MS) (x5 : Int32) (x6 : Int32) (x7 : Int32) (x8 : Int32) (x9 : Int32) (x10 : Int32) (x11 : Int32) (x12 : Int32) (x13 : Int32) (x14 : Int32) (x15 : Int32) (H : Heap) (locs : List Loc) (ls : Array Slot) (hf : k_X7_call_b429 x1 x2 x3 x4 K τ x5 x6 x7 x8 x9 x10 x11 x12 x13 x14 x15 = some (r, τ')) (hw : zw D A ad (mG cy ad τ) H) (hS : va_S A s.heap H locs) (hl : lv_has ls 16 [(0, .ref (ad 0)), (1, .int x1), (2, .int x2), (3, .int x3), (4, .int x4), (5, .int x5), (6, .int x6), (7, .int x7), (8, .int x8), (9, .int x9), (10, .int x10), (11, .int x11), (12, .int x12), (13, .int x13), (14, .int x14), (15, .int x15)]), W p l e (headSpec (wz yX7_call cX7_call 16 (some .int)) ({ frames := 2, cells := 0, slots := 0, locals := 48 } : Room)).room s m ([.ref (ad 0), .int x1, .int x2, .int x3, .int x4] : List Value).toArray below meth c H locs 0 0 (MQ below (va_Qi (fun (r' : Int32) (u : MS) => r' = r ∧ u = τ') (MWp D cy A ad) A) ([.ref (ad 0), .int x1, .int x2, .int x3, .int x4] : List Value).toArray s 0 0 A) (F0 m 429 ls []) := by
    intro K hKK τ x5 x6 x7 x8 x9 x10 x11 x12 x13 x14 x15 H locs ls hf hw hS hl
    rw [k_X7_call_b429] at hf
    refine lv_iload hx hb dX7_call_429 (lv_at hl 8 rfl) ?_
    refine lv_iconst (v := (5 : Int32)) hx hb dX7_call_431 (by decide) ?_
    refine lv_icmp_ge (tgt := 449) hx hb dX7_call_432 (by decide) (fun c_78 => ?_) (fun c_78 => ?_)
    · have hf := (zi_t c_78).symm.trans hf
      refine lv_iload hx hb dX7_call_449 (lv_at hl 8 rfl) ?_
      refine lv_bipush (v := (12 : Int32)) hx hb dX7_call_451 (by decide) ?_
      refine lv_icmp_ge (tgt := 467) hx hb dX7_call_453 (by decide) (fun c_79 => ?_) (fun c_79 => ?_)
      · have hf := (zi_t c_79).symm.trans hf
        refine lv_iload hx hb dX7_call_467 (lv_at hl 8 rfl) ?_
        refine lv_bipush (v := (14 : Int32)) hx hb dX7_call_469 (by decide) ?_
        refine lv_icmp_eq (tgt := 487) hx hb dX7_call_471 (by decide) (fun c_80 => ?_) (fun c_80 => ?_)
        · have hf := (zi_t c_80).symm.trans hf
          exact B487 K hKK _ _ _ _ _ _ _ _ _ _ _ _ _ _ _ hf hw hS (lv_sub hl [0, 1, 2, 3, 4, 5, 6, 7, 8, 9, 10, 11, 12, 13, 14, 15] rfl)
        · have hf := (zi_f c_80).symm.trans hf
          refine lv_aload_n hx hb dX7_call_474 rfl (lv_at hl 0 rfl) ?_
          refine lv_iload hx hb dX7_call_475 (lv_at hl 8 rfl) ?_
          refine lv_iload hx hb dX7_call_477 (lv_at hl 10 rfl) ?_
          refine lv_iload_n hx hb dX7_call_479 rfl (lv_at hl 1 rfl) ?_
          refine lv_iload hx hb dX7_call_480 (lv_at hl 5 rfl) ?_
          obtain ⟨r_81, t_82, e_83, hf⟩ := zb_inv hf
          refine mw_ci (As := [.int x8, .int x10, .int x1, .int x5]) (rest := []) (n := 4) S (kc_X7_other l D cy A ad _ _ _ _ _ _ _ e_83) (wz_V (zin14 _ (List.mem_of_getElem? (i := 19) rfl)) (zin14 _ (List.mem_of_getElem? (i := 16) rfl)) (zin14 _ (List.mem_of_getElem? (i := 17) rfl)) (zin14 _ (List.mem_of_getElem? (i := 18) rfl)) (zin1 _ (List.mem_of_getElem? (i := 5) rfl))) rfl ⟨rfl, rfl⟩ (by decide +kernel) ⟨Nat.le_of_ble_eq_true rfl, Nat.le_of_ble_eq_true rfl⟩ rfl hl.1 rfl (Nat.le_of_ble_eq_true rfl) hK hw hS dX7_call_482 ⟨Nat.zero_le _, Nat.zero_le _⟩ (fun H locs hw hS => ?_)
          refine lv_istore (lv' := [(15, .int r_81), (0, .ref (ad 0)), (1, .int x1), (2, .int x2), (3, .int x3), (4, .int x4), (5, .int x5), (6, .int x6), (7, .int x7), (8, .int x8), (9, .int x9), (10, .int x10), (11, .int x11), (12, .int x12), (13, .int x13), (14, .int x14)]) hx hb dX7_call_485 hl (by decide) rfl (fun ls hl => ?_)
          exact B487 K hKK _ _ _ _ _ _ _ _ _ _ _ _ _ _ _ hf hw hS (lv_sub hl [1, 2, 3, 4, 5, 6, 7, 8, 9, 10, 11, 12, 13, 14, 15, 0] rfl)
      · have hf := (zi_f c_79).symm.trans hf
        refine lv_aload_n hx hb dX7_call_456 rfl (lv_at hl 0 rfl) ?_
        refine lv_iload hx hb dX7_call_457 (lv_at hl 8 rfl) ?_
        obtain ⟨r_84, t_85, e_86, hf⟩ := zb_inv hf
        refine mw_ci (As := [.int x8]) (rest := []) (n := 1) S (kc_X7_reckon l D cy A ad _ _ _ _ e_86) (wz_V (zin14 _ (List.mem_of_getElem? (i := 15) rfl)) (zin14 _ (List.mem_of_getElem? (i := 12) rfl)) (zin14 _ (List.mem_of_getElem? (i := 13) rfl)) (zin14 _ (List.mem_of_getElem? (i := 14) rfl)) (zin1 _ (List.mem_of_getElem? (i := 5) rfl))) rfl ⟨rfl, rfl⟩ (by decide +kernel) ⟨Nat.le_of_ble_eq_true rfl, Nat.le_of_ble_eq_true rfl⟩ rfl hl.1 rfl (Nat.le_of_ble_eq_true rfl) hK hw hS dX7_call_459 ⟨Nat.zero_le _, Nat.zero_le _⟩ (fun H locs hw hS => ?_)
        refine lv_istore (lv' := [(15, .int r_84), (0, .ref (ad 0)), (1, .int x1), (2, .int x2), (3, .int x3), (4, .int x4), (5, .int x5), (6, .int x6), (7, .int x7), (8, .int x8), (9, .int x9), (10, .int x10), (11, .int x11), (12, .int x12), (13, .int x13), (14, .int x14)]) hx hb dX7_call_462 hl (by decide) rfl (fun ls hl => ?_)
        refine lv_goto (tgt := 487) hx hb dX7_call_464 (by decide) ?_
        exact B487 K hKK _ _ _ _ _ _ _ _ _ _ _ _ _ _ _ hf hw hS (lv_sub hl [1, 2, 3, 4, 5, 6, 7, 8, 9, 10, 11, 12, 13, 14, 15, 0] rfl)
    · have hf := (zi_f c_78).symm.trans hf
      refine lv_aload_n hx hb dX7_call_435 rfl (lv_at hl 0 rfl) ?_
      refine lv_iload hx hb dX7_call_436 (lv_at hl 8 rfl) ?_
      refine lv_iload hx hb dX7_call_438 (lv_at hl 10 rfl) ?_
      refine lv_iload_n hx hb dX7_call_440 rfl (lv_at hl 1 rfl) ?_
      refine lv_iload hx hb dX7_call_441 (lv_at hl 5 rfl) ?_
      obtain ⟨⟨⟩, t_88, e_89, hf⟩ := zb_inv hf
      refine mw_cv (As := [.int x8, .int x10, .int x1, .int x5]) (rest := []) (n := 4) S (kc_X7_move l D cy A ad _ _ _ _ _ _ e_89) (wz_V (zin14 _ (List.mem_of_getElem? (i := 7) rfl)) (zin14 _ (List.mem_of_getElem? (i := 4) rfl)) (zin14 _ (List.mem_of_getElem? (i := 5) rfl)) (zin14 _ (List.mem_of_getElem? (i := 6) rfl)) (zin1 _ (List.mem_of_getElem? (i := 5) rfl))) rfl ⟨rfl, rfl⟩ (by decide +kernel) ⟨Nat.le_of_ble_eq_true rfl, Nat.le_of_ble_eq_true rfl⟩ rfl hl.1 rfl (Nat.le_of_ble_eq_true rfl) hK hw hS dX7_call_443 ⟨Nat.zero_le _, Nat.zero_le _⟩ (fun H locs hw hS => ?_)
      refine lv_goto (tgt := 487) hx hb dX7_call_446 (by decide) ?_
      exact B487 K hKK _ _ _ _ _ _ _ _ _ _ _ _ _ _ _ hf hw hS (lv_sub hl [0, 1, 2, 3, 4, 5, 6, 7, 8, 9, 10, 11, 12, 13, 14, 15] rfl)
  have B417 : ∀ (τ : MS) (x5 : Int32) (x6 : Int32) (x7 : Int32) (x8 : Int32) (x9 : Int32) (x10 : Int32) (x11 : Int32) (x12 : Int32) (x13 : Int32) (x14 : Int32) (x15 : Int32) (H : Heap) (locs : List Loc) (ls : Array Slot) (hf : k_X7_call_b417 x1 x2 x3 x4 τ x5 x6 x7 x8 x9 x10 x11 x12 x13 x14 x15 = some (r, τ')) (hw : zw D A ad (mG cy ad τ) H) (hS : va_S A s.heap H locs) (hl : lv_has ls 16 [(0, .ref (ad 0)), (1, .int x1), (2, .int x2), (3, .int x3), (4, .int x4), (5, .int x5), (6, .int x6), (7, .int x7), (8, .int x8), (9, .int x9), (10, .int x10), (11, .int x11), (12, .int x12), (13, .int x13), (14, .int x14), (15, .int x15)]), W p l e (headSpec (wz yX7_call cX7_call 16 (some .int)) ({ frames := 2, cells := 0, slots := 0, locals := 48 } : Room)).room s m ([.ref (ad 0), .int x1, .int x2, .int x3, .int x4] : List Value).toArray below meth c H locs 0 0 (MQ below (va_Qi (fun (r' : Int32) (u : MS) => r' = r ∧ u = τ') (MWp D cy A ad) A) ([.ref (ad 0), .int x1, .int x2, .int x3, .int x4] : List Value).toArray s 0 0 A) (F0 m 417 ls []) := by
    intro τ x5 x6 x7 x8 x9 x10 x11 x12 x13 x14 x15 H locs ls hf hw hS hl
    rw [k_X7_call_b417] at hf
    refine lv_iconst (v := (1 : Int32)) hx hb dX7_call_417 (by decide) ?_
    exact mw_reti S hr hf hw hS hlocks dX7_call_418
  have B399 : ∀ (K : MS → Int32 → Int32 → Int32 → Option (Int32 × MS)) (_hKK : ∀ (τ : MS) (x5 : Int32) (x6 : Int32) (x7 : Int32) (H : Heap) (locs : List Loc) (ls : Array Slot) (hf : K τ x5 x6 x7 = some (r, τ')) (hw : zw D A ad (mG cy ad τ) H) (hS : va_S A s.heap H locs) (hl : lv_has ls 16 [(0, .ref (ad 0)), (1, .int x1), (2, .int x2), (3, .int x3), (4, .int x4), (5, .int x5), (6, .int x6), (7, .int x7)]), W p l e (headSpec (wz yX7_call cX7_call 16 (some .int)) ({ frames := 2, cells := 0, slots := 0, locals := 48 } : Room)).room s m ([.ref (ad 0), .int x1, .int x2, .int x3, .int x4] : List Value).toArray below meth c H locs 0 0 (MQ below (va_Qi (fun (r' : Int32) (u : MS) => r' = r ∧ u = τ') (MWp D cy A ad) A) ([.ref (ad 0), .int x1, .int x2, .int x3, .int x4] : List Value).toArray s 0 0 A) (F0 m 53 ls [])) (τ : MS) (x5 : Int32) (x6 : Int32) (x7 : Int32) (x8 : Int32) (x9 : Int32) (x10 : Int32) (x11 : Int32) (x12 : Int32) (x13 : Int32) (x14 : Int32) (x15 : Int32) (H : Heap) (locs : List Loc) (ls : Array Slot) (hf : k_X7_call_b399 x1 x2 x3 x4 K τ x5 x6 x7 x8 x9 x10 x11 x12 x13 x14 x15 = some (r, τ')) (hw : zw D A ad (mG cy ad τ) H) (hS : va_S A s.heap H locs) (hl : lv_has ls 16 [(0, .ref (ad 0)), (1, .int x1), (2, .int x2), (3, .int x3), (4, .int x4), (5, .int x5), (6, .int x6), (7, .int x7), (8, .int x8), (9, .int x9), (10, .int x10), (11, .int x11), (12, .int x12), (13, .int x13), (14, .int x14), (15, .int x15)]), W p l e (headSpec (wz yX7_call cX7_call 16 (some .int)) ({ frames := 2, cells := 0, slots := 0, locals := 48 } : Room)).room s m ([.ref (ad 0), .int x1, .int x2, .int x3, .int x4] : List Value).toArray below meth c H locs 0 0 (MQ below (va_Qi (fun (r' : Int32) (u : MS) => r' = r ∧ u = τ') (MWp D cy A ad) A) ([.ref (ad 0), .int x1, .int x2, .int x3, .int x4] : List Value).toArray s 0 0 A) (F0 m 399 ls []) := by
    intro K hKK τ x5 x6 x7 x8 x9 x10 x11 x12 x13 x14 x15 H locs ls hf hw hS hl
    rw [k_X7_call_b399] at hf
    refine lv_iload hx hb dX7_call_399 (lv_at hl 11 rfl) ?_
    refine lv_iload hx hb dX7_call_401 (lv_at hl 10 rfl) ?_
    refine lv_iadd hx hb dX7_call_403 ?_
    refine lv_if_lt (tgt := 417) hx hb dX7_call_404 (by decide) (fun c_90 => ?_) (fun c_90 => ?_)
    · have hf := (zi_t c_90).symm.trans hf
      exact B417 _ _ _ _ _ _ _ _ _ _ _ _ _ _ _ hf hw hS (lv_sub hl [0, 1, 2, 3, 4, 5, 6, 7, 8, 9, 10, 11, 12, 13, 14, 15] rfl)
    · have hf := (zi_f c_90).symm.trans hf
      refine lv_iload hx hb dX7_call_407 (lv_at hl 11 rfl) ?_
      refine lv_iload hx hb dX7_call_409 (lv_at hl 10 rfl) ?_
      refine lv_iadd hx hb dX7_call_411 ?_
      refine lv_iload hx hb dX7_call_412 (lv_at hl 4 rfl) ?_
      refine lv_icmp_le (tgt := 419) hx hb dX7_call_414 (by decide) (fun c_91 => ?_) (fun c_91 => ?_)
      · have hf := (zi_t c_91).symm.trans hf
        refine lv_iload hx hb dX7_call_419 (lv_at hl 11 rfl) ?_
        refine lv_iload hx hb dX7_call_421 (lv_at hl 10 rfl) ?_
        refine lv_iadd hx hb dX7_call_423 ?_
        refine lv_istore (lv' := [(11, .int (x11 + x10)), (0, .ref (ad 0)), (1, .int x1), (2, .int x2), (3, .int x3), (4, .int x4), (5, .int x5), (6, .int x6), (7, .int x7), (8, .int x8), (9, .int x9), (10, .int x10), (12, .int x12), (13, .int x13), (14, .int x14), (15, .int x15)]) hx hb dX7_call_424 hl (by decide) rfl (fun ls hl => ?_)
        refine lv_goto (tgt := 487) hx hb dX7_call_426 (by decide) ?_
        exact B487 K hKK _ _ _ _ _ _ _ _ _ _ _ _ _ _ _ hf hw hS (lv_sub hl [1, 2, 3, 4, 5, 6, 7, 8, 9, 10, 11, 0, 12, 13, 14, 15] rfl)
      · have hf := (zi_f c_91).symm.trans hf
        exact B417 _ _ _ _ _ _ _ _ _ _ _ _ _ _ _ hf hw hS (lv_sub hl [0, 1, 2, 3, 4, 5, 6, 7, 8, 9, 10, 11, 12, 13, 14, 15] rfl)
  have B373 : ∀ (K : MS → Int32 → Int32 → Int32 → Option (Int32 × MS)) (_hKK : ∀ (τ : MS) (x5 : Int32) (x6 : Int32) (x7 : Int32) (H : Heap) (locs : List Loc) (ls : Array Slot) (hf : K τ x5 x6 x7 = some (r, τ')) (hw : zw D A ad (mG cy ad τ) H) (hS : va_S A s.heap H locs) (hl : lv_has ls 16 [(0, .ref (ad 0)), (1, .int x1), (2, .int x2), (3, .int x3), (4, .int x4), (5, .int x5), (6, .int x6), (7, .int x7)]), W p l e (headSpec (wz yX7_call cX7_call 16 (some .int)) ({ frames := 2, cells := 0, slots := 0, locals := 48 } : Room)).room s m ([.ref (ad 0), .int x1, .int x2, .int x3, .int x4] : List Value).toArray below meth c H locs 0 0 (MQ below (va_Qi (fun (r' : Int32) (u : MS) => r' = r ∧ u = τ') (MWp D cy A ad) A) ([.ref (ad 0), .int x1, .int x2, .int x3, .int x4] : List Value).toArray s 0 0 A) (F0 m 53 ls [])) (τ : MS) (x5 : Int32) (x6 : Int32) (x7 : Int32) (x8 : Int32) (x9 : Int32) (x10 : Int32) (x11 : Int32) (x12 : Int32) (x13 : Int32) (x14 : Int32) (H : Heap) (locs : List Loc) (ls : Array Slot) (hf : k_X7_call_b373 x1 x2 x3 x4 K τ x5 x6 x7 x8 x9 x10 x11 x12 x13 x14 = some (r, τ')) (hw : zw D A ad (mG cy ad τ) H) (hS : va_S A s.heap H locs) (hl : lv_has ls 16 [(0, .ref (ad 0)), (1, .int x1), (2, .int x2), (3, .int x3), (4, .int x4), (5, .int x5), (6, .int x6), (7, .int x7), (8, .int x8), (9, .int x9), (10, .int x10), (11, .int x11), (12, .int x12), (13, .int x13), (14, .int x14)]), W p l e (headSpec (wz yX7_call cX7_call 16 (some .int)) ({ frames := 2, cells := 0, slots := 0, locals := 48 } : Room)).room s m ([.ref (ad 0), .int x1, .int x2, .int x3, .int x4] : List Value).toArray below meth c H locs 0 0 (MQ below (va_Qi (fun (r' : Int32) (u : MS) => r' = r ∧ u = τ') (MWp D cy A ad) A) ([.ref (ad 0), .int x1, .int x2, .int x3, .int x4] : List Value).toArray s 0 0 A) (F0 m 373 ls []) := by
    intro K hKK τ x5 x6 x7 x8 x9 x10 x11 x12 x13 x14 H locs ls hf hw hS hl
    rw [k_X7_call_b373] at hf
    refine lv_iconst (v := (0 : Int32)) hx hb dX7_call_373 (by decide) ?_
    refine lv_istore (lv' := [(15, .int (0 : Int32)), (0, .ref (ad 0)), (1, .int x1), (2, .int x2), (3, .int x3), (4, .int x4), (5, .int x5), (6, .int x6), (7, .int x7), (8, .int x8), (9, .int x9), (10, .int x10), (11, .int x11), (12, .int x12), (13, .int x13), (14, .int x14)]) hx hb dX7_call_374 hl (by decide) rfl (fun ls hl => ?_)
    refine lv_iload hx hb dX7_call_376 (lv_at hl 9 rfl) ?_
    refine lv_bipush (v := (13 : Int32)) hx hb dX7_call_378 (by decide) ?_
    refine lv_icmp_eq (tgt := 399) hx hb dX7_call_380 (by decide) (fun c_92 => ?_) (fun c_92 => ?_)
    · have hf := (zi_t c_92).symm.trans hf
      exact B399 K hKK _ _ _ _ _ _ _ _ _ _ _ _ _ _ _ hf hw hS (lv_sub hl [1, 2, 3, 4, 5, 6, 7, 8, 9, 10, 11, 12, 13, 14, 15, 0] rfl)
    · have hf := (zi_f c_92).symm.trans hf
      refine lv_iload hx hb dX7_call_383 (lv_at hl 9 rfl) ?_
      refine lv_bipush (v := (14 : Int32)) hx hb dX7_call_385 (by decide) ?_
      refine lv_icmp_ne (tgt := 429) hx hb dX7_call_387 (by decide) (fun c_93 => ?_) (fun c_93 => ?_)
      · have hf := (zi_f c_93).symm.trans hf
        exact B429 K hKK _ _ _ _ _ _ _ _ _ _ _ _ _ _ _ hf hw hS (lv_sub hl [1, 2, 3, 4, 5, 6, 7, 8, 9, 10, 11, 12, 13, 14, 15, 0] rfl)
      · have hf := (zi_t c_93).symm.trans hf
        refine lv_aload_n hx hb dX7_call_390 rfl (lv_at hl 1 rfl) ?_
        obtain ⟨r_94, t_95, e_96, hf⟩ := zb_inv hf
        refine mw_cl (As := []) (rest := []) (n := 0) S (kc_X7_take l D cy A ad _ _ _ e_96) (wz_V (zin14 _ (List.mem_of_getElem? (i := 3) rfl)) (zin14 _ (List.mem_of_getElem? (i := 0) rfl)) (zin14 _ (List.mem_of_getElem? (i := 1) rfl)) (zin14 _ (List.mem_of_getElem? (i := 2) rfl)) (zin1 _ (List.mem_of_getElem? (i := 5) rfl))) rfl ⟨rfl, rfl⟩ (by decide +kernel) ⟨Nat.le_of_ble_eq_true rfl, Nat.le_of_ble_eq_true rfl⟩ rfl hl.1 rfl (Nat.le_of_ble_eq_true rfl) hK hw hS dX7_call_391 ⟨Nat.zero_le _, Nat.zero_le _⟩ (fun H locs hw hS => ?_)
        refine lv_lconst (v := (0 : Int64)) hx hb dX7_call_394 (by decide) ?_
        refine W.lcmp hx hb dX7_call_395 ?_
        refine lv_if_ne (tgt := 429) hx hb dX7_call_396 (by decide) (fun c_97 => ?_) (fun c_97 => ?_)
        · have hf := (zi_f c_97).symm.trans hf
          exact B429 K hKK _ _ _ _ _ _ _ _ _ _ _ _ _ _ _ hf hw hS (lv_sub hl [1, 2, 3, 4, 5, 6, 7, 8, 9, 10, 11, 12, 13, 14, 15, 0] rfl)
        · have hf := (zi_t c_97).symm.trans hf
          exact B399 K hKK _ _ _ _ _ _ _ _ _ _ _ _ _ _ _ hf hw hS (lv_sub hl [1, 2, 3, 4, 5, 6, 7, 8, 9, 10, 11, 12, 13, 14, 15, 0] rfl)
  have B371 : ∀ (τ : MS) (x5 : Int32) (x6 : Int32) (x7 : Int32) (x8 : Int32) (x9 : Int32) (x10 : Int32) (x11 : Int32) (x12 : Int32) (x13 : Int32) (x14 : Int32) (H : Heap) (locs : List Loc) (ls : Array Slot) (hf : k_X7_call_b371 x1 x2 x3 x4 τ x5 x6 x7 x8 x9 x10 x11 x12 x13 x14 = some (r, τ')) (hw : zw D A ad (mG cy ad τ) H) (hS : va_S A s.heap H locs) (hl : lv_has ls 16 [(0, .ref (ad 0)), (1, .int x1), (2, .int x2), (3, .int x3), (4, .int x4), (5, .int x5), (6, .int x6), (7, .int x7), (8, .int x8), (9, .int x9), (10, .int x10), (11, .int x11), (12, .int x12), (13, .int x13), (14, .int x14)]), W p l e (headSpec (wz yX7_call cX7_call 16 (some .int)) ({ frames := 2, cells := 0, slots := 0, locals := 48 } : Room)).room s m ([.ref (ad 0), .int x1, .int x2, .int x3, .int x4] : List Value).toArray below meth c H locs 0 0 (MQ below (va_Qi (fun (r' : Int32) (u : MS) => r' = r ∧ u = τ') (MWp D cy A ad) A) ([.ref (ad 0), .int x1, .int x2, .int x3, .int x4] : List Value).toArray s 0 0 A) (F0 m 371 ls []) := by
    intro τ x5 x6 x7 x8 x9 x10 x11 x12 x13 x14 H locs ls hf hw hS hl
    rw [k_X7_call_b371] at hf
    refine lv_iconst (v := (3 : Int32)) hx hb dX7_call_371 (by decide) ?_
    exact mw_reti S hr hf hw hS hlocks dX7_call_372
  have B339 : ∀ (K : MS → Int32 → Int32 → Int32 → Option (Int32 × MS)) (_hKK : ∀ (τ : MS) (x5 : Int32) (x6 : Int32) (x7 : Int32) (H : Heap) (locs : List Loc) (ls : Array Slot) (hf : K τ x5 x6 x7 = some (r, τ')) (hw : zw D A ad (mG cy ad τ) H) (hS : va_S A s.heap H locs) (hl : lv_has ls 16 [(0, .ref (ad 0)), (1, .int x1), (2, .int x2), (3, .int x3), (4, .int x4), (5, .int x5), (6, .int x6), (7, .int x7)]), W p l e (headSpec (wz yX7_call cX7_call 16 (some .int)) ({ frames := 2, cells := 0, slots := 0, locals := 48 } : Room)).room s m ([.ref (ad 0), .int x1, .int x2, .int x3, .int x4] : List Value).toArray below meth c H locs 0 0 (MQ below (va_Qi (fun (r' : Int32) (u : MS) => r' = r ∧ u = τ') (MWp D cy A ad) A) ([.ref (ad 0), .int x1, .int x2, .int x3, .int x4] : List Value).toArray s 0 0 A) (F0 m 53 ls [])) (τ : MS) (y0 : Int32) (x5 : Int32) (x6 : Int32) (x7 : Int32) (x8 : Int32) (x9 : Int32) (x10 : Int32) (x11 : Int32) (x12 : Int32) (x13 : Int32) (H : Heap) (locs : List Loc) (ls : Array Slot) (hf : k_X7_call_b339 x1 x2 x3 x4 K τ y0 x5 x6 x7 x8 x9 x10 x11 x12 x13 = some (r, τ')) (hw : zw D A ad (mG cy ad τ) H) (hS : va_S A s.heap H locs) (hl : lv_has ls 16 [(0, .ref (ad 0)), (1, .int x1), (2, .int x2), (3, .int x3), (4, .int x4), (5, .int x5), (6, .int x6), (7, .int x7), (8, .int x8), (9, .int x9), (10, .int x10), (11, .int x11), (12, .int x12), (13, .int x13)]), W p l e (headSpec (wz yX7_call cX7_call 16 (some .int)) ({ frames := 2, cells := 0, slots := 0, locals := 48 } : Room)).room s m ([.ref (ad 0), .int x1, .int x2, .int x3, .int x4] : List Value).toArray below meth c H locs 0 0 (MQ below (va_Qi (fun (r' : Int32) (u : MS) => r' = r ∧ u = τ') (MWp D cy A ad) A) ([.ref (ad 0), .int x1, .int x2, .int x3, .int x4] : List Value).toArray s 0 0 A) (F0 m 339 ls [.int y0]) := by
    intro K hKK τ y0 x5 x6 x7 x8 x9 x10 x11 x12 x13 H locs ls hf hw hS hl
    rw [k_X7_call_b339] at hf
    refine lv_istore (lv' := [(14, .int y0), (0, .ref (ad 0)), (1, .int x1), (2, .int x2), (3, .int x3), (4, .int x4), (5, .int x5), (6, .int x6), (7, .int x7), (8, .int x8), (9, .int x9), (10, .int x10), (11, .int x11), (12, .int x12), (13, .int x13)]) hx hb dX7_call_339 hl (by decide) rfl (fun ls hl => ?_)
    refine lv_iload hx hb dX7_call_341 (lv_at hl 9 rfl) ?_
    refine lv_bipush (v := (13 : Int32)) hx hb dX7_call_343 (by decide) ?_
    refine lv_icmp_eq (tgt := 373) hx hb dX7_call_345 (by decide) (fun c_98 => ?_) (fun c_98 => ?_)
    · have hf := (zi_t c_98).symm.trans hf
      exact B373 K hKK _ _ _ _ _ _ _ _ _ _ _ _ _ _ hf hw hS (lv_sub hl [1, 2, 3, 4, 5, 6, 7, 8, 9, 10, 11, 12, 13, 14, 0] rfl)
    · have hf := (zi_f c_98).symm.trans hf
      refine lv_aload_n hx hb dX7_call_348 rfl (lv_at hl 1 rfl) ?_
      refine mr_get S h7 hK hw 28 (by decide) (wz_in (zin13 _ (List.mem_of_getElem? (i := 21) rfl))) rfl rfl dX7_call_349 ?_
      refine lv_iload hx hb dX7_call_352 (lv_at hl 14 rfl) ?_
      refine lv_icmp_lt (tgt := 371) hx hb dX7_call_354 (by decide) (fun c_99 => ?_) (fun c_99 => ?_)
      · have hf := (zi_t c_99).symm.trans hf
        exact B371 _ _ _ _ _ _ _ _ _ _ _ _ _ _ hf hw hS (lv_sub hl [1, 2, 3, 4, 5, 6, 7, 8, 9, 10, 11, 12, 13, 14, 0] rfl)
      · have hf := (zi_f c_99).symm.trans hf
        refine lv_iload hx hb dX7_call_357 (lv_at hl 0 rfl) ?_
        refine lv_if_eq (tgt := 373) hx hb dX7_call_359 (by decide) (fun c_100 => ?_) (fun c_100 => ?_)
        · have hf := (zi_t c_100).symm.trans hf
          exact B373 K hKK _ _ _ _ _ _ _ _ _ _ _ _ _ _ hf hw hS (lv_sub hl [1, 2, 3, 4, 5, 6, 7, 8, 9, 10, 11, 12, 13, 14, 0] rfl)
        · have hf := (zi_f c_100).symm.trans hf
          refine lv_aload_n hx hb dX7_call_362 rfl (lv_at hl 1 rfl) ?_
          refine mr_get S h7 hK hw 28 (by decide) (wz_in (zin13 _ (List.mem_of_getElem? (i := 21) rfl))) rfl rfl dX7_call_363 ?_
          refine lv_bipush (v := (16 : Int32)) hx hb dX7_call_366 (by decide) ?_
          refine lv_icmp_ne (tgt := 373) hx hb dX7_call_368 (by decide) (fun c_101 => ?_) (fun c_101 => ?_)
          · have hf := (zi_f c_101).symm.trans hf
            exact B373 K hKK _ _ _ _ _ _ _ _ _ _ _ _ _ _ hf hw hS (lv_sub hl [1, 2, 3, 4, 5, 6, 7, 8, 9, 10, 11, 12, 13, 14, 0] rfl)
          · have hf := (zi_t c_101).symm.trans hf
            exact B371 _ _ _ _ _ _ _ _ _ _ _ _ _ _ hf hw hS (lv_sub hl [1, 2, 3, 4, 5, 6, 7, 8, 9, 10, 11, 12, 13, 14, 0] rfl)
  have B334 : ∀ (K : MS → Int32 → Int32 → Int32 → Option (Int32 × MS)) (_hKK : ∀ (τ : MS) (x5 : Int32) (x6 : Int32) (x7 : Int32) (H : Heap) (locs : List Loc) (ls : Array Slot) (hf : K τ x5 x6 x7 = some (r, τ')) (hw : zw D A ad (mG cy ad τ) H) (hS : va_S A s.heap H locs) (hl : lv_has ls 16 [(0, .ref (ad 0)), (1, .int x1), (2, .int x2), (3, .int x3), (4, .int x4), (5, .int x5), (6, .int x6), (7, .int x7)]), W p l e (headSpec (wz yX7_call cX7_call 16 (some .int)) ({ frames := 2, cells := 0, slots := 0, locals := 48 } : Room)).room s m ([.ref (ad 0), .int x1, .int x2, .int x3, .int x4] : List Value).toArray below meth c H locs 0 0 (MQ below (va_Qi (fun (r' : Int32) (u : MS) => r' = r ∧ u = τ') (MWp D cy A ad) A) ([.ref (ad 0), .int x1, .int x2, .int x3, .int x4] : List Value).toArray s 0 0 A) (F0 m 53 ls [])) (τ : MS) (x5 : Int32) (x6 : Int32) (x7 : Int32) (x8 : Int32) (x9 : Int32) (x10 : Int32) (x11 : Int32) (x12 : Int32) (x13 : Int32) (H : Heap) (locs : List Loc) (ls : Array Slot) (hf : k_X7_call_b334 x1 x2 x3 x4 K τ x5 x6 x7 x8 x9 x10 x11 x12 x13 = some (r, τ')) (hw : zw D A ad (mG cy ad τ) H) (hS : va_S A s.heap H locs) (hl : lv_has ls 16 [(0, .ref (ad 0)), (1, .int x1), (2, .int x2), (3, .int x3), (4, .int x4), (5, .int x5), (6, .int x6), (7, .int x7), (8, .int x8), (9, .int x9), (10, .int x10), (11, .int x11), (12, .int x12), (13, .int x13)]), W p l e (headSpec (wz yX7_call cX7_call 16 (some .int)) ({ frames := 2, cells := 0, slots := 0, locals := 48 } : Room)).room s m ([.ref (ad 0), .int x1, .int x2, .int x3, .int x4] : List Value).toArray below meth c H locs 0 0 (MQ below (va_Qi (fun (r' : Int32) (u : MS) => r' = r ∧ u = τ') (MWp D cy A ad) A) ([.ref (ad 0), .int x1, .int x2, .int x3, .int x4] : List Value).toArray s 0 0 A) (F0 m 334 ls []) := by
    intro K hKK τ x5 x6 x7 x8 x9 x10 x11 x12 x13 H locs ls hf hw hS hl
    rw [k_X7_call_b334] at hf
    refine lv_iconst (v := (1 : Int32)) hx hb dX7_call_334 (by decide) ?_
    refine lv_goto (tgt := 339) hx hb dX7_call_335 (by decide) ?_
    exact B339 K hKK _ _ _ _ _ _ _ _ _ _ _ _ _ _ hf hw hS (lv_sub hl [0, 1, 2, 3, 4, 5, 6, 7, 8, 9, 10, 11, 12, 13] rfl)
  have B301 : ∀ (K : MS → Int32 → Int32 → Int32 → Option (Int32 × MS)) (_hKK : ∀ (τ : MS) (x5 : Int32) (x6 : Int32) (x7 : Int32) (H : Heap) (locs : List Loc) (ls : Array Slot) (hf : K τ x5 x6 x7 = some (r, τ')) (hw : zw D A ad (mG cy ad τ) H) (hS : va_S A s.heap H locs) (hl : lv_has ls 16 [(0, .ref (ad 0)), (1, .int x1), (2, .int x2), (3, .int x3), (4, .int x4), (5, .int x5), (6, .int x6), (7, .int x7)]), W p l e (headSpec (wz yX7_call cX7_call 16 (some .int)) ({ frames := 2, cells := 0, slots := 0, locals := 48 } : Room)).room s m ([.ref (ad 0), .int x1, .int x2, .int x3, .int x4] : List Value).toArray below meth c H locs 0 0 (MQ below (va_Qi (fun (r' : Int32) (u : MS) => r' = r ∧ u = τ') (MWp D cy A ad) A) ([.ref (ad 0), .int x1, .int x2, .int x3, .int x4] : List Value).toArray s 0 0 A) (F0 m 53 ls [])) (τ : MS) (y0 : Int32) (x5 : Int32) (x6 : Int32) (x7 : Int32) (x8 : Int32) (x9 : Int32) (x10 : Int32) (x11 : Int32) (x12 : Int32) (H : Heap) (locs : List Loc) (ls : Array Slot) (hf : k_X7_call_b301 x1 x2 x3 x4 K τ y0 x5 x6 x7 x8 x9 x10 x11 x12 = some (r, τ')) (hw : zw D A ad (mG cy ad τ) H) (hS : va_S A s.heap H locs) (hl : lv_has ls 16 [(0, .ref (ad 0)), (1, .int x1), (2, .int x2), (3, .int x3), (4, .int x4), (5, .int x5), (6, .int x6), (7, .int x7), (8, .int x8), (9, .int x9), (10, .int x10), (11, .int x11), (12, .int x12)]), W p l e (headSpec (wz yX7_call cX7_call 16 (some .int)) ({ frames := 2, cells := 0, slots := 0, locals := 48 } : Room)).room s m ([.ref (ad 0), .int x1, .int x2, .int x3, .int x4] : List Value).toArray below meth c H locs 0 0 (MQ below (va_Qi (fun (r' : Int32) (u : MS) => r' = r ∧ u = τ') (MWp D cy A ad) A) ([.ref (ad 0), .int x1, .int x2, .int x3, .int x4] : List Value).toArray s 0 0 A) (F0 m 301 ls [.int y0]) := by
    intro K hKK τ y0 x5 x6 x7 x8 x9 x10 x11 x12 H locs ls hf hw hS hl
    rw [k_X7_call_b301] at hf
    refine lv_istore (lv' := [(13, .int y0), (0, .ref (ad 0)), (1, .int x1), (2, .int x2), (3, .int x3), (4, .int x4), (5, .int x5), (6, .int x6), (7, .int x7), (8, .int x8), (9, .int x9), (10, .int x10), (11, .int x11), (12, .int x12)]) hx hb dX7_call_301 hl (by decide) rfl (fun ls hl => ?_)
    refine lv_iload hx hb dX7_call_303 (lv_at hl 9 rfl) ?_
    refine lv_if_eq (tgt := 334) hx hb dX7_call_305 (by decide) (fun c_102 => ?_) (fun c_102 => ?_)
    · have hf := (zi_t c_102).symm.trans hf
      exact B334 K hKK _ _ _ _ _ _ _ _ _ _ _ _ _ hf hw hS (lv_sub hl [1, 2, 3, 4, 5, 6, 7, 8, 9, 10, 11, 12, 13, 0] rfl)
    · have hf := (zi_f c_102).symm.trans hf
      refine lv_iload hx hb dX7_call_308 (lv_at hl 9 rfl) ?_
      refine lv_iconst (v := (1 : Int32)) hx hb dX7_call_310 (by decide) ?_
      refine lv_icmp_eq (tgt := 334) hx hb dX7_call_311 (by decide) (fun c_103 => ?_) (fun c_103 => ?_)
      · have hf := (zi_t c_103).symm.trans hf
        exact B334 K hKK _ _ _ _ _ _ _ _ _ _ _ _ _ hf hw hS (lv_sub hl [1, 2, 3, 4, 5, 6, 7, 8, 9, 10, 11, 12, 13, 0] rfl)
      · have hf := (zi_f c_103).symm.trans hf
        refine lv_iload hx hb dX7_call_314 (lv_at hl 9 rfl) ?_
        refine lv_iconst (v := (3 : Int32)) hx hb dX7_call_316 (by decide) ?_
        refine lv_icmp_eq (tgt := 334) hx hb dX7_call_317 (by decide) (fun c_104 => ?_) (fun c_104 => ?_)
        · have hf := (zi_t c_104).symm.trans hf
          exact B334 K hKK _ _ _ _ _ _ _ _ _ _ _ _ _ hf hw hS (lv_sub hl [1, 2, 3, 4, 5, 6, 7, 8, 9, 10, 11, 12, 13, 0] rfl)
        · have hf := (zi_f c_104).symm.trans hf
          refine lv_iload hx hb dX7_call_320 (lv_at hl 9 rfl) ?_
          refine lv_bipush (v := (12 : Int32)) hx hb dX7_call_322 (by decide) ?_
          refine lv_icmp_eq (tgt := 334) hx hb dX7_call_324 (by decide) (fun c_105 => ?_) (fun c_105 => ?_)
          · have hf := (zi_t c_105).symm.trans hf
            exact B334 K hKK _ _ _ _ _ _ _ _ _ _ _ _ _ hf hw hS (lv_sub hl [1, 2, 3, 4, 5, 6, 7, 8, 9, 10, 11, 12, 13, 0] rfl)
          · have hf := (zi_f c_105).symm.trans hf
            refine lv_iload hx hb dX7_call_327 (lv_at hl 9 rfl) ?_
            refine lv_bipush (v := (17 : Int32)) hx hb dX7_call_329 (by decide) ?_
            refine lv_icmp_ne (tgt := 338) hx hb dX7_call_331 (by decide) (fun c_106 => ?_) (fun c_106 => ?_)
            · have hf := (zi_f c_106).symm.trans hf
              refine lv_iconst (v := (0 : Int32)) hx hb dX7_call_338 (by decide) ?_
              exact B339 K hKK _ _ _ _ _ _ _ _ _ _ _ _ _ _ hf hw hS (lv_sub hl [1, 2, 3, 4, 5, 6, 7, 8, 9, 10, 11, 12, 13, 0] rfl)
            · have hf := (zi_t c_106).symm.trans hf
              exact B334 K hKK _ _ _ _ _ _ _ _ _ _ _ _ _ hf hw hS (lv_sub hl [1, 2, 3, 4, 5, 6, 7, 8, 9, 10, 11, 12, 13, 0] rfl)
  have B281 : ∀ (K : MS → Int32 → Int32 → Int32 → Option (Int32 × MS)) (_hKK : ∀ (τ : MS) (x5 : Int32) (x6 : Int32) (x7 : Int32) (H : Heap) (locs : List Loc) (ls : Array Slot) (hf : K τ x5 x6 x7 = some (r, τ')) (hw : zw D A ad (mG cy ad τ) H) (hS : va_S A s.heap H locs) (hl : lv_has ls 16 [(0, .ref (ad 0)), (1, .int x1), (2, .int x2), (3, .int x3), (4, .int x4), (5, .int x5), (6, .int x6), (7, .int x7)]), W p l e (headSpec (wz yX7_call cX7_call 16 (some .int)) ({ frames := 2, cells := 0, slots := 0, locals := 48 } : Room)).room s m ([.ref (ad 0), .int x1, .int x2, .int x3, .int x4] : List Value).toArray below meth c H locs 0 0 (MQ below (va_Qi (fun (r' : Int32) (u : MS) => r' = r ∧ u = τ') (MWp D cy A ad) A) ([.ref (ad 0), .int x1, .int x2, .int x3, .int x4] : List Value).toArray s 0 0 A) (F0 m 53 ls [])) (τ : MS) (x5 : Int32) (x6 : Int32) (x7 : Int32) (x8 : Int32) (x9 : Int32) (x10 : Int32) (x11 : Int32) (x12 : Int32) (H : Heap) (locs : List Loc) (ls : Array Slot) (hf : k_X7_call_b281 x1 x2 x3 x4 K τ x5 x6 x7 x8 x9 x10 x11 x12 = some (r, τ')) (hw : zw D A ad (mG cy ad τ) H) (hS : va_S A s.heap H locs) (hl : lv_has ls 16 [(0, .ref (ad 0)), (1, .int x1), (2, .int x2), (3, .int x3), (4, .int x4), (5, .int x5), (6, .int x6), (7, .int x7), (8, .int x8), (9, .int x9), (10, .int x10), (11, .int x11), (12, .int x12)]), W p l e (headSpec (wz yX7_call cX7_call 16 (some .int)) ({ frames := 2, cells := 0, slots := 0, locals := 48 } : Room)).room s m ([.ref (ad 0), .int x1, .int x2, .int x3, .int x4] : List Value).toArray below meth c H locs 0 0 (MQ below (va_Qi (fun (r' : Int32) (u : MS) => r' = r ∧ u = τ') (MWp D cy A ad) A) ([.ref (ad 0), .int x1, .int x2, .int x3, .int x4] : List Value).toArray s 0 0 A) (F0 m 281 ls []) := by
    intro K hKK τ x5 x6 x7 x8 x9 x10 x11 x12 H locs ls hf hw hS hl
    rw [k_X7_call_b281] at hf
    refine lv_iconst (v := (1 : Int32)) hx hb dX7_call_281 (by decide) ?_
    refine lv_goto (tgt := 301) hx hb dX7_call_282 (by decide) ?_
    exact B301 K hKK _ _ _ _ _ _ _ _ _ _ _ _ _ hf hw hS (lv_sub hl [0, 1, 2, 3, 4, 5, 6, 7, 8, 9, 10, 11, 12] rfl)
  have B248 : ∀ (K : MS → Int32 → Int32 → Int32 → Option (Int32 × MS)) (_hKK : ∀ (τ : MS) (x5 : Int32) (x6 : Int32) (x7 : Int32) (H : Heap) (locs : List Loc) (ls : Array Slot) (hf : K τ x5 x6 x7 = some (r, τ')) (hw : zw D A ad (mG cy ad τ) H) (hS : va_S A s.heap H locs) (hl : lv_has ls 16 [(0, .ref (ad 0)), (1, .int x1), (2, .int x2), (3, .int x3), (4, .int x4), (5, .int x5), (6, .int x6), (7, .int x7)]), W p l e (headSpec (wz yX7_call cX7_call 16 (some .int)) ({ frames := 2, cells := 0, slots := 0, locals := 48 } : Room)).room s m ([.ref (ad 0), .int x1, .int x2, .int x3, .int x4] : List Value).toArray below meth c H locs 0 0 (MQ below (va_Qi (fun (r' : Int32) (u : MS) => r' = r ∧ u = τ') (MWp D cy A ad) A) ([.ref (ad 0), .int x1, .int x2, .int x3, .int x4] : List Value).toArray s 0 0 A) (F0 m 53 ls [])) (τ : MS) (x5 : Int32) (x6 : Int32) (x7 : Int32) (x8 : Int32) (x9 : Int32) (x10 : Int32) (x11 : Int32) (x12 : Int32) (H : Heap) (locs : List Loc) (ls : Array Slot) (hf : k_X7_call_b248 x1 x2 x3 x4 K τ x5 x6 x7 x8 x9 x10 x11 x12 = some (r, τ')) (hw : zw D A ad (mG cy ad τ) H) (hS : va_S A s.heap H locs) (hl : lv_has ls 16 [(0, .ref (ad 0)), (1, .int x1), (2, .int x2), (3, .int x3), (4, .int x4), (5, .int x5), (6, .int x6), (7, .int x7), (8, .int x8), (9, .int x9), (10, .int x10), (11, .int x11), (12, .int x12)]), W p l e (headSpec (wz yX7_call cX7_call 16 (some .int)) ({ frames := 2, cells := 0, slots := 0, locals := 48 } : Room)).room s m ([.ref (ad 0), .int x1, .int x2, .int x3, .int x4] : List Value).toArray below meth c H locs 0 0 (MQ below (va_Qi (fun (r' : Int32) (u : MS) => r' = r ∧ u = τ') (MWp D cy A ad) A) ([.ref (ad 0), .int x1, .int x2, .int x3, .int x4] : List Value).toArray s 0 0 A) (F0 m 248 ls []) := by
    intro K hKK τ x5 x6 x7 x8 x9 x10 x11 x12 H locs ls hf hw hS hl
    rw [k_X7_call_b248] at hf
    refine lv_iload hx hb dX7_call_248 (lv_at hl 8 rfl) ?_
    refine lv_iconst (v := (2 : Int32)) hx hb dX7_call_250 (by decide) ?_
    refine lv_icmp_eq (tgt := 281) hx hb dX7_call_251 (by decide) (fun c_107 => ?_) (fun c_107 => ?_)
    · have hf := (zi_t c_107).symm.trans hf
      exact B281 K hKK _ _ _ _ _ _ _ _ _ _ _ _ hf hw hS (lv_sub hl [0, 1, 2, 3, 4, 5, 6, 7, 8, 9, 10, 11, 12] rfl)
    · have hf := (zi_f c_107).symm.trans hf
      refine lv_iload hx hb dX7_call_254 (lv_at hl 8 rfl) ?_
      refine lv_iconst (v := (4 : Int32)) hx hb dX7_call_256 (by decide) ?_
      refine lv_icmp_eq (tgt := 281) hx hb dX7_call_257 (by decide) (fun c_108 => ?_) (fun c_108 => ?_)
      · have hf := (zi_t c_108).symm.trans hf
        exact B281 K hKK _ _ _ _ _ _ _ _ _ _ _ _ hf hw hS (lv_sub hl [0, 1, 2, 3, 4, 5, 6, 7, 8, 9, 10, 11, 12] rfl)
      · have hf := (zi_f c_108).symm.trans hf
        refine lv_iload hx hb dX7_call_260 (lv_at hl 8 rfl) ?_
        refine lv_bipush (v := (12 : Int32)) hx hb dX7_call_262 (by decide) ?_
        refine lv_icmp_eq (tgt := 281) hx hb dX7_call_264 (by decide) (fun c_109 => ?_) (fun c_109 => ?_)
        · have hf := (zi_t c_109).symm.trans hf
          exact B281 K hKK _ _ _ _ _ _ _ _ _ _ _ _ hf hw hS (lv_sub hl [0, 1, 2, 3, 4, 5, 6, 7, 8, 9, 10, 11, 12] rfl)
        · have hf := (zi_f c_109).symm.trans hf
          refine lv_iload hx hb dX7_call_267 (lv_at hl 8 rfl) ?_
          refine lv_bipush (v := (14 : Int32)) hx hb dX7_call_269 (by decide) ?_
          refine lv_icmp_eq (tgt := 281) hx hb dX7_call_271 (by decide) (fun c_110 => ?_) (fun c_110 => ?_)
          · have hf := (zi_t c_110).symm.trans hf
            exact B281 K hKK _ _ _ _ _ _ _ _ _ _ _ _ hf hw hS (lv_sub hl [0, 1, 2, 3, 4, 5, 6, 7, 8, 9, 10, 11, 12] rfl)
          · have hf := (zi_f c_110).symm.trans hf
            refine lv_iload hx hb dX7_call_274 (lv_at hl 8 rfl) ?_
            refine lv_bipush (v := (15 : Int32)) hx hb dX7_call_276 (by decide) ?_
            refine lv_icmp_ne (tgt := 285) hx hb dX7_call_278 (by decide) (fun c_111 => ?_) (fun c_111 => ?_)
            · have hf := (zi_f c_111).symm.trans hf
              refine lv_iload hx hb dX7_call_285 (lv_at hl 8 rfl) ?_
              refine lv_iconst (v := (5 : Int32)) hx hb dX7_call_287 (by decide) ?_
              refine lv_bipush (v := (11 : Int32)) hx hb dX7_call_288 (by decide) ?_
              obtain ⟨r_112, t_113, e_114, hf⟩ := zb_inv hf
              refine mw_si (As := [.int x8, .int (5 : Int32), .int (11 : Int32)]) (rest := []) (n := 3) S (kc_X7_in l D cy A ad _ _ _ _ _ _ e_114) (wz_S (zin5 _ (List.mem_of_getElem? (i := 12) rfl)) (zin5 _ (List.mem_of_getElem? (i := 10) rfl)) (zin5 _ (List.mem_of_getElem? (i := 11) rfl)) (zin1 _ (List.mem_of_getElem? (i := 5) rfl))) rfl ⟨rfl, rfl⟩ (by decide +kernel) ⟨Nat.le_of_ble_eq_true rfl, Nat.le_of_ble_eq_true rfl⟩ rfl hl.1 rfl (Nat.le_of_ble_eq_true rfl) hK hw hS dX7_call_290 ⟨Nat.zero_le _, Nat.zero_le _⟩ (fun H locs hw hS => ?_)
              refine lv_if_eq (tgt := 300) hx hb dX7_call_293 (by decide) (fun c_115 => ?_) (fun c_115 => ?_)
              · have hf := (zi_t c_115).symm.trans hf
                refine lv_iconst (v := (0 : Int32)) hx hb dX7_call_300 (by decide) ?_
                exact B301 K hKK _ _ _ _ _ _ _ _ _ _ _ _ _ hf hw hS (lv_sub hl [0, 1, 2, 3, 4, 5, 6, 7, 8, 9, 10, 11, 12] rfl)
              · have hf := (zi_f c_115).symm.trans hf
                refine lv_iconst (v := (2 : Int32)) hx hb dX7_call_296 (by decide) ?_
                refine lv_goto (tgt := 301) hx hb dX7_call_297 (by decide) ?_
                exact B301 K hKK _ _ _ _ _ _ _ _ _ _ _ _ _ hf hw hS (lv_sub hl [0, 1, 2, 3, 4, 5, 6, 7, 8, 9, 10, 11, 12] rfl)
            · have hf := (zi_t c_111).symm.trans hf
              exact B281 K hKK _ _ _ _ _ _ _ _ _ _ _ _ hf hw hS (lv_sub hl [0, 1, 2, 3, 4, 5, 6, 7, 8, 9, 10, 11, 12] rfl)
  have B228 : ∀ (K : MS → Int32 → Int32 → Int32 → Option (Int32 × MS)) (_hKK : ∀ (τ : MS) (x5 : Int32) (x6 : Int32) (x7 : Int32) (H : Heap) (locs : List Loc) (ls : Array Slot) (hf : K τ x5 x6 x7 = some (r, τ')) (hw : zw D A ad (mG cy ad τ) H) (hS : va_S A s.heap H locs) (hl : lv_has ls 16 [(0, .ref (ad 0)), (1, .int x1), (2, .int x2), (3, .int x3), (4, .int x4), (5, .int x5), (6, .int x6), (7, .int x7)]), W p l e (headSpec (wz yX7_call cX7_call 16 (some .int)) ({ frames := 2, cells := 0, slots := 0, locals := 48 } : Room)).room s m ([.ref (ad 0), .int x1, .int x2, .int x3, .int x4] : List Value).toArray below meth c H locs 0 0 (MQ below (va_Qi (fun (r' : Int32) (u : MS) => r' = r ∧ u = τ') (MWp D cy A ad) A) ([.ref (ad 0), .int x1, .int x2, .int x3, .int x4] : List Value).toArray s 0 0 A) (F0 m 53 ls [])) (τ : MS) (y0 : Int32) (x5 : Int32) (x6 : Int32) (x7 : Int32) (x8 : Int32) (x9 : Int32) (x10 : Int32) (x11 : Int32) (H : Heap) (locs : List Loc) (ls : Array Slot) (hf : k_X7_call_b228 x1 x2 x3 x4 K τ y0 x5 x6 x7 x8 x9 x10 x11 = some (r, τ')) (hw : zw D A ad (mG cy ad τ) H) (hS : va_S A s.heap H locs) (hl : lv_has ls 16 [(0, .ref (ad 0)), (1, .int x1), (2, .int x2), (3, .int x3), (4, .int x4), (5, .int x5), (6, .int x6), (7, .int x7), (8, .int x8), (9, .int x9), (10, .int x10), (11, .int x11)]), W p l e (headSpec (wz yX7_call cX7_call 16 (some .int)) ({ frames := 2, cells := 0, slots := 0, locals := 48 } : Room)).room s m ([.ref (ad 0), .int x1, .int x2, .int x3, .int x4] : List Value).toArray below meth c H locs 0 0 (MQ below (va_Qi (fun (r' : Int32) (u : MS) => r' = r ∧ u = τ') (MWp D cy A ad) A) ([.ref (ad 0), .int x1, .int x2, .int x3, .int x4] : List Value).toArray s 0 0 A) (F0 m 228 ls [.int y0]) := by
    intro K hKK τ y0 x5 x6 x7 x8 x9 x10 x11 H locs ls hf hw hS hl
    rw [k_X7_call_b228] at hf
    refine lv_istore (lv' := [(12, .int y0), (0, .ref (ad 0)), (1, .int x1), (2, .int x2), (3, .int x3), (4, .int x4), (5, .int x5), (6, .int x6), (7, .int x7), (8, .int x8), (9, .int x9), (10, .int x10), (11, .int x11)]) hx hb dX7_call_228 hl (by decide) rfl (fun ls hl => ?_)
    refine lv_iload hx hb dX7_call_230 (lv_at hl 0 rfl) ?_
    refine lv_if_eq (tgt := 248) hx hb dX7_call_232 (by decide) (fun c_116 => ?_) (fun c_116 => ?_)
    · have hf := (zi_t c_116).symm.trans hf
      exact B248 K hKK _ _ _ _ _ _ _ _ _ _ _ _ hf hw hS (lv_sub hl [1, 2, 3, 4, 5, 6, 7, 8, 9, 10, 11, 12, 0] rfl)
    · have hf := (zi_f c_116).symm.trans hf
      refine lv_iload hx hb dX7_call_235 (lv_at hl 11 rfl) ?_
      refine lv_iconst (v := (0 : Int32)) hx hb dX7_call_237 (by decide) ?_
      refine lv_bipush (v := (7 : Int32)) hx hb dX7_call_238 (by decide) ?_
      obtain ⟨r_117, t_118, e_119, hf⟩ := zb_inv hf
      refine mw_si (As := [.int x10, .int (0 : Int32), .int (7 : Int32)]) (rest := []) (n := 3) S (kc_X7_in l D cy A ad _ _ _ _ _ _ e_119) (wz_S (zin5 _ (List.mem_of_getElem? (i := 12) rfl)) (zin5 _ (List.mem_of_getElem? (i := 10) rfl)) (zin5 _ (List.mem_of_getElem? (i := 11) rfl)) (zin1 _ (List.mem_of_getElem? (i := 5) rfl))) rfl ⟨rfl, rfl⟩ (by decide +kernel) ⟨Nat.le_of_ble_eq_true rfl, Nat.le_of_ble_eq_true rfl⟩ rfl hl.1 rfl (Nat.le_of_ble_eq_true rfl) hK hw hS dX7_call_240 ⟨Nat.zero_le _, Nat.zero_le _⟩ (fun H locs hw hS => ?_)
      refine lv_if_ne (tgt := 248) hx hb dX7_call_243 (by decide) (fun c_120 => ?_) (fun c_120 => ?_)
      · have hf := (zi_f c_120).symm.trans hf
        exact B248 K hKK _ _ _ _ _ _ _ _ _ _ _ _ hf hw hS (lv_sub hl [1, 2, 3, 4, 5, 6, 7, 8, 9, 10, 11, 12, 0] rfl)
      · have hf := (zi_t c_120).symm.trans hf
        refine lv_iconst (v := (2 : Int32)) hx hb dX7_call_246 (by decide) ?_
        exact mw_reti S hr hf hw hS hlocks dX7_call_247
  have B223 : ∀ (K : MS → Int32 → Int32 → Int32 → Option (Int32 × MS)) (_hKK : ∀ (τ : MS) (x5 : Int32) (x6 : Int32) (x7 : Int32) (H : Heap) (locs : List Loc) (ls : Array Slot) (hf : K τ x5 x6 x7 = some (r, τ')) (hw : zw D A ad (mG cy ad τ) H) (hS : va_S A s.heap H locs) (hl : lv_has ls 16 [(0, .ref (ad 0)), (1, .int x1), (2, .int x2), (3, .int x3), (4, .int x4), (5, .int x5), (6, .int x6), (7, .int x7)]), W p l e (headSpec (wz yX7_call cX7_call 16 (some .int)) ({ frames := 2, cells := 0, slots := 0, locals := 48 } : Room)).room s m ([.ref (ad 0), .int x1, .int x2, .int x3, .int x4] : List Value).toArray below meth c H locs 0 0 (MQ below (va_Qi (fun (r' : Int32) (u : MS) => r' = r ∧ u = τ') (MWp D cy A ad) A) ([.ref (ad 0), .int x1, .int x2, .int x3, .int x4] : List Value).toArray s 0 0 A) (F0 m 53 ls [])) (τ : MS) (x5 : Int32) (x6 : Int32) (x7 : Int32) (x8 : Int32) (x9 : Int32) (x10 : Int32) (x11 : Int32) (H : Heap) (locs : List Loc) (ls : Array Slot) (hf : k_X7_call_b223 x1 x2 x3 x4 K τ x5 x6 x7 x8 x9 x10 x11 = some (r, τ')) (hw : zw D A ad (mG cy ad τ) H) (hS : va_S A s.heap H locs) (hl : lv_has ls 16 [(0, .ref (ad 0)), (1, .int x1), (2, .int x2), (3, .int x3), (4, .int x4), (5, .int x5), (6, .int x6), (7, .int x7), (8, .int x8), (9, .int x9), (10, .int x10), (11, .int x11)]), W p l e (headSpec (wz yX7_call cX7_call 16 (some .int)) ({ frames := 2, cells := 0, slots := 0, locals := 48 } : Room)).room s m ([.ref (ad 0), .int x1, .int x2, .int x3, .int x4] : List Value).toArray below meth c H locs 0 0 (MQ below (va_Qi (fun (r' : Int32) (u : MS) => r' = r ∧ u = τ') (MWp D cy A ad) A) ([.ref (ad 0), .int x1, .int x2, .int x3, .int x4] : List Value).toArray s 0 0 A) (F0 m 223 ls []) := by
    intro K hKK τ x5 x6 x7 x8 x9 x10 x11 H locs ls hf hw hS hl
    rw [k_X7_call_b223] at hf
    refine lv_iconst (v := (1 : Int32)) hx hb dX7_call_223 (by decide) ?_
    refine lv_goto (tgt := 228) hx hb dX7_call_224 (by decide) ?_
    exact B228 K hKK _ _ _ _ _ _ _ _ _ _ _ _ hf hw hS (lv_sub hl [0, 1, 2, 3, 4, 5, 6, 7, 8, 9, 10, 11] rfl)
  have B203 : ∀ (K : MS → Int32 → Int32 → Int32 → Option (Int32 × MS)) (_hKK : ∀ (τ : MS) (x5 : Int32) (x6 : Int32) (x7 : Int32) (H : Heap) (locs : List Loc) (ls : Array Slot) (hf : K τ x5 x6 x7 = some (r, τ')) (hw : zw D A ad (mG cy ad τ) H) (hS : va_S A s.heap H locs) (hl : lv_has ls 16 [(0, .ref (ad 0)), (1, .int x1), (2, .int x2), (3, .int x3), (4, .int x4), (5, .int x5), (6, .int x6), (7, .int x7)]), W p l e (headSpec (wz yX7_call cX7_call 16 (some .int)) ({ frames := 2, cells := 0, slots := 0, locals := 48 } : Room)).room s m ([.ref (ad 0), .int x1, .int x2, .int x3, .int x4] : List Value).toArray below meth c H locs 0 0 (MQ below (va_Qi (fun (r' : Int32) (u : MS) => r' = r ∧ u = τ') (MWp D cy A ad) A) ([.ref (ad 0), .int x1, .int x2, .int x3, .int x4] : List Value).toArray s 0 0 A) (F0 m 53 ls [])) (τ : MS) (y0 : Int32) (y1 : Int32) (x5 : Int32) (x6 : Int32) (x7 : Int32) (x8 : Int32) (x9 : Int32) (x10 : Int32) (H : Heap) (locs : List Loc) (ls : Array Slot) (hf : k_X7_call_b203 x1 x2 x3 x4 K τ y0 y1 x5 x6 x7 x8 x9 x10 = some (r, τ')) (hw : zw D A ad (mG cy ad τ) H) (hS : va_S A s.heap H locs) (hl : lv_has ls 16 [(0, .ref (ad 0)), (1, .int x1), (2, .int x2), (3, .int x3), (4, .int x4), (5, .int x5), (6, .int x6), (7, .int x7), (8, .int x8), (9, .int x9), (10, .int x10)]), W p l e (headSpec (wz yX7_call cX7_call 16 (some .int)) ({ frames := 2, cells := 0, slots := 0, locals := 48 } : Room)).room s m ([.ref (ad 0), .int x1, .int x2, .int x3, .int x4] : List Value).toArray below meth c H locs 0 0 (MQ below (va_Qi (fun (r' : Int32) (u : MS) => r' = r ∧ u = τ') (MWp D cy A ad) A) ([.ref (ad 0), .int x1, .int x2, .int x3, .int x4] : List Value).toArray s 0 0 A) (F0 m 203 ls [.int y0, .int y1]) := by
    intro K hKK τ y0 y1 x5 x6 x7 x8 x9 x10 H locs ls hf hw hS hl
    rw [k_X7_call_b203] at hf
    refine lv_iadd hx hb dX7_call_203 ?_
    refine lv_istore (lv' := [(11, .int (y1 + y0)), (0, .ref (ad 0)), (1, .int x1), (2, .int x2), (3, .int x3), (4, .int x4), (5, .int x5), (6, .int x6), (7, .int x7), (8, .int x8), (9, .int x9), (10, .int x10)]) hx hb dX7_call_204 hl (by decide) rfl (fun ls hl => ?_)
    refine lv_iload hx hb dX7_call_206 (lv_at hl 9 rfl) ?_
    refine lv_iconst (v := (1 : Int32)) hx hb dX7_call_208 (by decide) ?_
    refine lv_iconst (v := (4 : Int32)) hx hb dX7_call_209 (by decide) ?_
    obtain ⟨r_121, t_122, e_123, hf⟩ := zb_inv hf
    refine mw_si (As := [.int x8, .int (1 : Int32), .int (4 : Int32)]) (rest := []) (n := 3) S (kc_X7_in l D cy A ad _ _ _ _ _ _ e_123) (wz_S (zin5 _ (List.mem_of_getElem? (i := 12) rfl)) (zin5 _ (List.mem_of_getElem? (i := 10) rfl)) (zin5 _ (List.mem_of_getElem? (i := 11) rfl)) (zin1 _ (List.mem_of_getElem? (i := 5) rfl))) rfl ⟨rfl, rfl⟩ (by decide +kernel) ⟨Nat.le_of_ble_eq_true rfl, Nat.le_of_ble_eq_true rfl⟩ rfl hl.1 rfl (Nat.le_of_ble_eq_true rfl) hK hw hS dX7_call_210 ⟨Nat.zero_le _, Nat.zero_le _⟩ (fun H locs hw hS => ?_)
    refine lv_if_ne (tgt := 223) hx hb dX7_call_213 (by decide) (fun c_124 => ?_) (fun c_124 => ?_)
    · have hf := (zi_f c_124).symm.trans hf
      exact B223 K hKK _ _ _ _ _ _ _ _ _ _ _ hf hw hS (lv_sub hl [1, 2, 3, 4, 5, 6, 7, 8, 9, 10, 11, 0] rfl)
    · have hf := (zi_t c_124).symm.trans hf
      refine lv_iload hx hb dX7_call_216 (lv_at hl 9 rfl) ?_
      refine lv_bipush (v := (16 : Int32)) hx hb dX7_call_218 (by decide) ?_
      refine lv_icmp_ne (tgt := 227) hx hb dX7_call_220 (by decide) (fun c_125 => ?_) (fun c_125 => ?_)
      · have hf := (zi_f c_125).symm.trans hf
        refine lv_iconst (v := (0 : Int32)) hx hb dX7_call_227 (by decide) ?_
        exact B228 K hKK _ _ _ _ _ _ _ _ _ _ _ _ hf hw hS (lv_sub hl [1, 2, 3, 4, 5, 6, 7, 8, 9, 10, 11, 0] rfl)
      · have hf := (zi_t c_125).symm.trans hf
        exact B223 K hKK _ _ _ _ _ _ _ _ _ _ _ hf hw hS (lv_sub hl [1, 2, 3, 4, 5, 6, 7, 8, 9, 10, 11, 0] rfl)
  have B189 : ∀ (K : MS → Int32 → Int32 → Int32 → Option (Int32 × MS)) (_hKK : ∀ (τ : MS) (x5 : Int32) (x6 : Int32) (x7 : Int32) (H : Heap) (locs : List Loc) (ls : Array Slot) (hf : K τ x5 x6 x7 = some (r, τ')) (hw : zw D A ad (mG cy ad τ) H) (hS : va_S A s.heap H locs) (hl : lv_has ls 16 [(0, .ref (ad 0)), (1, .int x1), (2, .int x2), (3, .int x3), (4, .int x4), (5, .int x5), (6, .int x6), (7, .int x7)]), W p l e (headSpec (wz yX7_call cX7_call 16 (some .int)) ({ frames := 2, cells := 0, slots := 0, locals := 48 } : Room)).room s m ([.ref (ad 0), .int x1, .int x2, .int x3, .int x4] : List Value).toArray below meth c H locs 0 0 (MQ below (va_Qi (fun (r' : Int32) (u : MS) => r' = r ∧ u = τ') (MWp D cy A ad) A) ([.ref (ad 0), .int x1, .int x2, .int x3, .int x4] : List Value).toArray s 0 0 A) (F0 m 53 ls [])) (τ : MS) (y0 : Int32) (x5 : Int32) (x6 : Int32) (x7 : Int32) (x8 : Int32) (x9 : Int32) (H : Heap) (locs : List Loc) (ls : Array Slot) (hf : k_X7_call_b189 x1 x2 x3 x4 K τ y0 x5 x6 x7 x8 x9 = some (r, τ')) (hw : zw D A ad (mG cy ad τ) H) (hS : va_S A s.heap H locs) (hl : lv_has ls 16 [(0, .ref (ad 0)), (1, .int x1), (2, .int x2), (3, .int x3), (4, .int x4), (5, .int x5), (6, .int x6), (7, .int x7), (8, .int x8), (9, .int x9)]), W p l e (headSpec (wz yX7_call cX7_call 16 (some .int)) ({ frames := 2, cells := 0, slots := 0, locals := 48 } : Room)).room s m ([.ref (ad 0), .int x1, .int x2, .int x3, .int x4] : List Value).toArray below meth c H locs 0 0 (MQ below (va_Qi (fun (r' : Int32) (u : MS) => r' = r ∧ u = τ') (MWp D cy A ad) A) ([.ref (ad 0), .int x1, .int x2, .int x3, .int x4] : List Value).toArray s 0 0 A) (F0 m 189 ls [.int y0]) := by
    intro K hKK τ y0 x5 x6 x7 x8 x9 H locs ls hf hw hS hl
    rw [k_X7_call_b189] at hf
    refine lv_istore (lv' := [(10, .int y0), (0, .ref (ad 0)), (1, .int x1), (2, .int x2), (3, .int x3), (4, .int x4), (5, .int x5), (6, .int x6), (7, .int x7), (8, .int x8), (9, .int x9)]) hx hb dX7_call_189 hl (by decide) rfl (fun ls hl => ?_)
    refine lv_iload hx hb dX7_call_191 (lv_at hl 8 rfl) ?_
    refine lv_iload hx hb dX7_call_193 (lv_at hl 10 rfl) ?_
    refine lv_if_eq (tgt := 202) hx hb dX7_call_195 (by decide) (fun c_126 => ?_) (fun c_126 => ?_)
    · have hf := (zi_t c_126).symm.trans hf
      refine lv_iconst (v := (1 : Int32)) hx hb dX7_call_202 (by decide) ?_
      exact B203 K hKK _ _ _ _ _ _ _ _ _ _ _ _ hf hw hS (lv_sub hl [1, 2, 3, 4, 5, 6, 7, 8, 9, 10, 0] rfl)
    · have hf := (zi_f c_126).symm.trans hf
      refine lv_iconst (v := (2 : Int32)) hx hb dX7_call_198 (by decide) ?_
      refine lv_goto (tgt := 203) hx hb dX7_call_199 (by decide) ?_
      exact B203 K hKK _ _ _ _ _ _ _ _ _ _ _ _ hf hw hS (lv_sub hl [1, 2, 3, 4, 5, 6, 7, 8, 9, 10, 0] rfl)
  have B168 : ∀ (K : MS → Int32 → Int32 → Int32 → Option (Int32 × MS)) (_hKK : ∀ (τ : MS) (x5 : Int32) (x6 : Int32) (x7 : Int32) (H : Heap) (locs : List Loc) (ls : Array Slot) (hf : K τ x5 x6 x7 = some (r, τ')) (hw : zw D A ad (mG cy ad τ) H) (hS : va_S A s.heap H locs) (hl : lv_has ls 16 [(0, .ref (ad 0)), (1, .int x1), (2, .int x2), (3, .int x3), (4, .int x4), (5, .int x5), (6, .int x6), (7, .int x7)]), W p l e (headSpec (wz yX7_call cX7_call 16 (some .int)) ({ frames := 2, cells := 0, slots := 0, locals := 48 } : Room)).room s m ([.ref (ad 0), .int x1, .int x2, .int x3, .int x4] : List Value).toArray below meth c H locs 0 0 (MQ below (va_Qi (fun (r' : Int32) (u : MS) => r' = r ∧ u = τ') (MWp D cy A ad) A) ([.ref (ad 0), .int x1, .int x2, .int x3, .int x4] : List Value).toArray s 0 0 A) (F0 m 53 ls [])) (τ : MS) (x5 : Int32) (x6 : Int32) (x7 : Int32) (x8 : Int32) (x9 : Int32) (H : Heap) (locs : List Loc) (ls : Array Slot) (hf : k_X7_call_b168 x1 x2 x3 x4 K τ x5 x6 x7 x8 x9 = some (r, τ')) (hw : zw D A ad (mG cy ad τ) H) (hS : va_S A s.heap H locs) (hl : lv_has ls 16 [(0, .ref (ad 0)), (1, .int x1), (2, .int x2), (3, .int x3), (4, .int x4), (5, .int x5), (6, .int x6), (7, .int x7), (8, .int x8), (9, .int x9)]), W p l e (headSpec (wz yX7_call cX7_call 16 (some .int)) ({ frames := 2, cells := 0, slots := 0, locals := 48 } : Room)).room s m ([.ref (ad 0), .int x1, .int x2, .int x3, .int x4] : List Value).toArray below meth c H locs 0 0 (MQ below (va_Qi (fun (r' : Int32) (u : MS) => r' = r ∧ u = τ') (MWp D cy A ad) A) ([.ref (ad 0), .int x1, .int x2, .int x3, .int x4] : List Value).toArray s 0 0 A) (F0 m 168 ls []) := by
    intro K hKK τ x5 x6 x7 x8 x9 H locs ls hf hw hS hl
    rw [k_X7_call_b168] at hf
    refine lv_iload hx hb dX7_call_168 (lv_at hl 9 rfl) ?_
    refine lv_if_eq (tgt := 188) hx hb dX7_call_170 (by decide) (fun c_127 => ?_) (fun c_127 => ?_)
    · have hf := (zi_t c_127).symm.trans hf
      refine lv_iconst (v := (0 : Int32)) hx hb dX7_call_188 (by decide) ?_
      exact B189 K hKK _ _ _ _ _ _ _ _ _ _ hf hw hS (lv_sub hl [0, 1, 2, 3, 4, 5, 6, 7, 8, 9] rfl)
    · have hf := (zi_f c_127).symm.trans hf
      refine lv_aload_n hx hb dX7_call_173 rfl (lv_at hl 0 rfl) ?_
      refine mr_get S h7 hK hw 7 (by decide) (wz_in (zin3 _ (List.mem_of_getElem? (i := 13) rfl))) rfl rfl dX7_call_174 ?_
      refine lv_iload hx hb dX7_call_177 (lv_at hl 6 rfl) ?_
      refine lv_iload hx hb dX7_call_179 (lv_at hl 7 rfl) ?_
      refine lv_iadd hx hb dX7_call_181 ?_
      refine lv_iconst (v := (1 : Int32)) hx hb dX7_call_182 (by decide) ?_
      refine lv_iadd hx hb dX7_call_183 ?_
      obtain ⟨g_128, hf⟩ := zg_inv hf
      refine mr_bald S hK hw 7 rfl g_128 dX7_call_184 ?_
      refine lv_goto (tgt := 189) hx hb dX7_call_185 (by decide) ?_
      exact B189 K hKK _ _ _ _ _ _ _ _ _ _ hf hw hS (lv_sub hl [0, 1, 2, 3, 4, 5, 6, 7, 8, 9] rfl)
  have B166 : ∀ (τ : MS) (x5 : Int32) (x6 : Int32) (x7 : Int32) (x8 : Int32) (x9 : Int32) (H : Heap) (locs : List Loc) (ls : Array Slot) (hf : k_X7_call_b166 x1 x2 x3 x4 τ x5 x6 x7 x8 x9 = some (r, τ')) (hw : zw D A ad (mG cy ad τ) H) (hS : va_S A s.heap H locs) (hl : lv_has ls 16 [(0, .ref (ad 0)), (1, .int x1), (2, .int x2), (3, .int x3), (4, .int x4), (5, .int x5), (6, .int x6), (7, .int x7), (8, .int x8), (9, .int x9)]), W p l e (headSpec (wz yX7_call cX7_call 16 (some .int)) ({ frames := 2, cells := 0, slots := 0, locals := 48 } : Room)).room s m ([.ref (ad 0), .int x1, .int x2, .int x3, .int x4] : List Value).toArray below meth c H locs 0 0 (MQ below (va_Qi (fun (r' : Int32) (u : MS) => r' = r ∧ u = τ') (MWp D cy A ad) A) ([.ref (ad 0), .int x1, .int x2, .int x3, .int x4] : List Value).toArray s 0 0 A) (F0 m 166 ls []) := by
    intro τ x5 x6 x7 x8 x9 H locs ls hf hw hS hl
    rw [k_X7_call_b166] at hf
    refine lv_iconst (v := (1 : Int32)) hx hb dX7_call_166 (by decide) ?_
    exact mw_reti S hr hf hw hS hlocks dX7_call_167
  have B139 : ∀ (K : MS → Int32 → Int32 → Int32 → Option (Int32 × MS)) (_hKK : ∀ (τ : MS) (x5 : Int32) (x6 : Int32) (x7 : Int32) (H : Heap) (locs : List Loc) (ls : Array Slot) (hf : K τ x5 x6 x7 = some (r, τ')) (hw : zw D A ad (mG cy ad τ) H) (hS : va_S A s.heap H locs) (hl : lv_has ls 16 [(0, .ref (ad 0)), (1, .int x1), (2, .int x2), (3, .int x3), (4, .int x4), (5, .int x5), (6, .int x6), (7, .int x7)]), W p l e (headSpec (wz yX7_call cX7_call 16 (some .int)) ({ frames := 2, cells := 0, slots := 0, locals := 48 } : Room)).room s m ([.ref (ad 0), .int x1, .int x2, .int x3, .int x4] : List Value).toArray below meth c H locs 0 0 (MQ below (va_Qi (fun (r' : Int32) (u : MS) => r' = r ∧ u = τ') (MWp D cy A ad) A) ([.ref (ad 0), .int x1, .int x2, .int x3, .int x4] : List Value).toArray s 0 0 A) (F0 m 53 ls [])) (τ : MS) (y0 : Int32) (x5 : Int32) (x6 : Int32) (x7 : Int32) (x8 : Int32) (H : Heap) (locs : List Loc) (ls : Array Slot) (hf : k_X7_call_b139 x1 x2 x3 x4 K τ y0 x5 x6 x7 x8 = some (r, τ')) (hw : zw D A ad (mG cy ad τ) H) (hS : va_S A s.heap H locs) (hl : lv_has ls 16 [(0, .ref (ad 0)), (1, .int x1), (2, .int x2), (3, .int x3), (4, .int x4), (5, .int x5), (6, .int x6), (7, .int x7), (8, .int x8)]), W p l e (headSpec (wz yX7_call cX7_call 16 (some .int)) ({ frames := 2, cells := 0, slots := 0, locals := 48 } : Room)).room s m ([.ref (ad 0), .int x1, .int x2, .int x3, .int x4] : List Value).toArray below meth c H locs 0 0 (MQ below (va_Qi (fun (r' : Int32) (u : MS) => r' = r ∧ u = τ') (MWp D cy A ad) A) ([.ref (ad 0), .int x1, .int x2, .int x3, .int x4] : List Value).toArray s 0 0 A) (F0 m 139 ls [.int y0]) := by
    intro K hKK τ y0 x5 x6 x7 x8 H locs ls hf hw hS hl
    rw [k_X7_call_b139] at hf
    refine lv_istore (lv' := [(9, .int y0), (0, .ref (ad 0)), (1, .int x1), (2, .int x2), (3, .int x3), (4, .int x4), (5, .int x5), (6, .int x6), (7, .int x7), (8, .int x8)]) hx hb dX7_call_139 hl (by decide) rfl (fun ls hl => ?_)
    refine lv_iload hx hb dX7_call_141 (lv_at hl 9 rfl) ?_
    refine lv_iconst (v := (0 : Int32)) hx hb dX7_call_143 (by decide) ?_
    refine lv_bipush (v := (18 : Int32)) hx hb dX7_call_144 (by decide) ?_
    obtain ⟨r_129, t_130, e_131, hf⟩ := zb_inv hf
    refine mw_si (As := [.int x8, .int (0 : Int32), .int (18 : Int32)]) (rest := []) (n := 3) S (kc_X7_in l D cy A ad _ _ _ _ _ _ e_131) (wz_S (zin5 _ (List.mem_of_getElem? (i := 12) rfl)) (zin5 _ (List.mem_of_getElem? (i := 10) rfl)) (zin5 _ (List.mem_of_getElem? (i := 11) rfl)) (zin1 _ (List.mem_of_getElem? (i := 5) rfl))) rfl ⟨rfl, rfl⟩ (by decide +kernel) ⟨Nat.le_of_ble_eq_true rfl, Nat.le_of_ble_eq_true rfl⟩ rfl hl.1 rfl (Nat.le_of_ble_eq_true rfl) hK hw hS dX7_call_146 ⟨Nat.zero_le _, Nat.zero_le _⟩ (fun H locs hw hS => ?_)
    refine lv_if_eq (tgt := 166) hx hb dX7_call_149 (by decide) (fun c_132 => ?_) (fun c_132 => ?_)
    · have hf := (zi_t c_132).symm.trans hf
      exact B166 _ _ _ _ _ _ _ _ _ hf hw hS (lv_sub hl [1, 2, 3, 4, 5, 6, 7, 8, 9, 0] rfl)
    · have hf := (zi_f c_132).symm.trans hf
      refine lv_iload hx hb dX7_call_152 (lv_at hl 0 rfl) ?_
      refine lv_if_eq (tgt := 168) hx hb dX7_call_154 (by decide) (fun c_133 => ?_) (fun c_133 => ?_)
      · have hf := (zi_t c_133).symm.trans hf
        exact B168 K hKK _ _ _ _ _ _ _ _ _ hf hw hS (lv_sub hl [1, 2, 3, 4, 5, 6, 7, 8, 9, 0] rfl)
      · have hf := (zi_f c_133).symm.trans hf
        refine lv_iload hx hb dX7_call_157 (lv_at hl 8 rfl) ?_
        refine lv_iconst (v := (1 : Int32)) hx hb dX7_call_159 (by decide) ?_
        refine lv_iadd hx hb dX7_call_160 ?_
        refine lv_iload hx hb dX7_call_161 (lv_at hl 5 rfl) ?_
        refine lv_icmp_lt (tgt := 168) hx hb dX7_call_163 (by decide) (fun c_134 => ?_) (fun c_134 => ?_)
        · have hf := (zi_t c_134).symm.trans hf
          exact B168 K hKK _ _ _ _ _ _ _ _ _ hf hw hS (lv_sub hl [1, 2, 3, 4, 5, 6, 7, 8, 9, 0] rfl)
        · have hf := (zi_f c_134).symm.trans hf
          exact B166 _ _ _ _ _ _ _ _ _ hf hw hS (lv_sub hl [1, 2, 3, 4, 5, 6, 7, 8, 9, 0] rfl)
  have B134 : ∀ (K : MS → Int32 → Int32 → Int32 → Option (Int32 × MS)) (_hKK : ∀ (τ : MS) (x5 : Int32) (x6 : Int32) (x7 : Int32) (H : Heap) (locs : List Loc) (ls : Array Slot) (hf : K τ x5 x6 x7 = some (r, τ')) (hw : zw D A ad (mG cy ad τ) H) (hS : va_S A s.heap H locs) (hl : lv_has ls 16 [(0, .ref (ad 0)), (1, .int x1), (2, .int x2), (3, .int x3), (4, .int x4), (5, .int x5), (6, .int x6), (7, .int x7)]), W p l e (headSpec (wz yX7_call cX7_call 16 (some .int)) ({ frames := 2, cells := 0, slots := 0, locals := 48 } : Room)).room s m ([.ref (ad 0), .int x1, .int x2, .int x3, .int x4] : List Value).toArray below meth c H locs 0 0 (MQ below (va_Qi (fun (r' : Int32) (u : MS) => r' = r ∧ u = τ') (MWp D cy A ad) A) ([.ref (ad 0), .int x1, .int x2, .int x3, .int x4] : List Value).toArray s 0 0 A) (F0 m 53 ls [])) (τ : MS) (x5 : Int32) (x6 : Int32) (x7 : Int32) (x8 : Int32) (H : Heap) (locs : List Loc) (ls : Array Slot) (hf : k_X7_call_b134 x1 x2 x3 x4 K τ x5 x6 x7 x8 = some (r, τ')) (hw : zw D A ad (mG cy ad τ) H) (hS : va_S A s.heap H locs) (hl : lv_has ls 16 [(0, .ref (ad 0)), (1, .int x1), (2, .int x2), (3, .int x3), (4, .int x4), (5, .int x5), (6, .int x6), (7, .int x7), (8, .int x8)]), W p l e (headSpec (wz yX7_call cX7_call 16 (some .int)) ({ frames := 2, cells := 0, slots := 0, locals := 48 } : Room)).room s m ([.ref (ad 0), .int x1, .int x2, .int x3, .int x4] : List Value).toArray below meth c H locs 0 0 (MQ below (va_Qi (fun (r' : Int32) (u : MS) => r' = r ∧ u = τ') (MWp D cy A ad) A) ([.ref (ad 0), .int x1, .int x2, .int x3, .int x4] : List Value).toArray s 0 0 A) (F0 m 134 ls []) := by
    intro K hKK τ x5 x6 x7 x8 H locs ls hf hw hS hl
    rw [k_X7_call_b134] at hf
    refine lv_iconst (v := (1 : Int32)) hx hb dX7_call_134 (by decide) ?_
    refine lv_goto (tgt := 139) hx hb dX7_call_135 (by decide) ?_
    exact B139 K hKK _ _ _ _ _ _ _ _ _ hf hw hS (lv_sub hl [0, 1, 2, 3, 4, 5, 6, 7, 8] rfl)
  have S53 : ∀ (K : MS → Int32 → Int32 → Int32 → Option (Int32 × MS)) (_hKK : ∀ (τ : MS) (x5 : Int32) (x6 : Int32) (x7 : Int32) (H : Heap) (locs : List Loc) (ls : Array Slot) (hf : K τ x5 x6 x7 = some (r, τ')) (hw : zw D A ad (mG cy ad τ) H) (hS : va_S A s.heap H locs) (hl : lv_has ls 16 [(0, .ref (ad 0)), (1, .int x1), (2, .int x2), (3, .int x3), (4, .int x4), (5, .int x5), (6, .int x6), (7, .int x7)]), W p l e (headSpec (wz yX7_call cX7_call 16 (some .int)) ({ frames := 2, cells := 0, slots := 0, locals := 48 } : Room)).room s m ([.ref (ad 0), .int x1, .int x2, .int x3, .int x4] : List Value).toArray below meth c H locs 0 0 (MQ below (va_Qi (fun (r' : Int32) (u : MS) => r' = r ∧ u = τ') (MWp D cy A ad) A) ([.ref (ad 0), .int x1, .int x2, .int x3, .int x4] : List Value).toArray s 0 0 A) (F0 m 53 ls [])) (τ : MS) (x5 : Int32) (x6 : Int32) (x7 : Int32) (H : Heap) (locs : List Loc) (ls : Array Slot) (hf : k_X7_call_s53 x1 x2 x3 x4 K τ x5 x6 x7 = some (r, τ')) (hw : zw D A ad (mG cy ad τ) H) (hS : va_S A s.heap H locs) (hl : lv_has ls 16 [(0, .ref (ad 0)), (1, .int x1), (2, .int x2), (3, .int x3), (4, .int x4), (5, .int x5), (6, .int x6), (7, .int x7)]), W p l e (headSpec (wz yX7_call cX7_call 16 (some .int)) ({ frames := 2, cells := 0, slots := 0, locals := 48 } : Room)).room s m ([.ref (ad 0), .int x1, .int x2, .int x3, .int x4] : List Value).toArray below meth c H locs 0 0 (MQ below (va_Qi (fun (r' : Int32) (u : MS) => r' = r ∧ u = τ') (MWp D cy A ad) A) ([.ref (ad 0), .int x1, .int x2, .int x3, .int x4] : List Value).toArray s 0 0 A) (F0 m 53 ls []) := by
    intro K hKK τ x5 x6 x7 H locs ls hf hw hS hl
    rw [k_X7_call_s53] at hf
    refine lv_iload hx hb dX7_call_53 (lv_at hl 7 rfl) ?_
    refine lv_iload hx hb dX7_call_55 (lv_at hl 4 rfl) ?_
    refine lv_icmp_eq (tgt := 502) hx hb dX7_call_57 (by decide) (fun c_135 => ?_) (fun c_135 => ?_)
    · have hf := (zi_t c_135).symm.trans hf
      refine lv_iconst (v := (0 : Int32)) hx hb dX7_call_502 (by decide) ?_
      exact mw_reti S hr hf hw hS hlocks dX7_call_503
    · have hf := (zi_f c_135).symm.trans hf
      refine lv_aload_n hx hb dX7_call_60 rfl (lv_at hl 0 rfl) ?_
      refine mr_get S h7 hK hw 29 (by decide) (wz_in (zin13 _ (List.mem_of_getElem? (i := 22) rfl))) rfl rfl dX7_call_61 ?_
      refine lv_aload_n hx hb dX7_call_64 rfl (lv_at hl 0 rfl) ?_
      refine mr_get S h7 hK hw 1 (by decide) (wz_in (zin4 _ (List.mem_of_getElem? (i := 13) rfl))) rfl rfl dX7_call_65 ?_
      refine lv_icmp_ne (tgt := 74) hx hb dX7_call_68 (by decide) (fun c_136 => ?_) (fun c_136 => ?_)
      · have hf := (zi_f c_136).symm.trans hf
        refine lv_aload_n hx hb dX7_call_74 rfl (lv_at hl 0 rfl) ?_
        refine lv_dup hx hb dX7_call_75 rfl ?_
        refine mr_get S h7 hK hw 29 (by decide) (wz_in (zin13 _ (List.mem_of_getElem? (i := 22) rfl))) rfl rfl dX7_call_76 ?_
        refine lv_iconst (v := (1 : Int32)) hx hb dX7_call_79 (by decide) ?_
        refine lv_iadd hx hb dX7_call_80 ?_
        refine mr_put S h7 hK hw hS 29 (by decide) (wz_in (zin13 _ (List.mem_of_getElem? (i := 22) rfl))) rfl rfl rfl (mput_29 _ _ _ _) dX7_call_81 (fun H locs hw hS => ?_)
        refine lv_aload_n hx hb dX7_call_84 rfl (lv_at hl 0 rfl) ?_
        refine mr_get S h7 hK hw 7 (by decide) (wz_in (zin3 _ (List.mem_of_getElem? (i := 13) rfl))) rfl rfl dX7_call_85 ?_
        refine lv_iload hx hb dX7_call_88 (lv_at hl 6 rfl) ?_
        refine lv_iload hx hb dX7_call_90 (lv_at hl 7 rfl) ?_
        refine lv_iadd hx hb dX7_call_92 ?_
        obtain ⟨g_137, hf⟩ := zg_inv hf
        refine mr_bald S hK hw 7 rfl g_137 dX7_call_93 ?_
        refine lv_istore (lv' := [(8, .int (mr (mI τ 29 ((mi τ 29) + (1 : Int32))) 7 (x6 + x7).toNatClampNeg)), (0, .ref (ad 0)), (1, .int x1), (2, .int x2), (3, .int x3), (4, .int x4), (5, .int x5), (6, .int x6), (7, .int x7)]) hx hb dX7_call_94 hl (by decide) rfl (fun ls hl => ?_)
        refine lv_iload hx hb dX7_call_96 (lv_at hl 0 rfl) ?_
        refine lv_iconst (v := (0 : Int32)) hx hb dX7_call_98 (by decide) ?_
        refine lv_iconst (v := (4 : Int32)) hx hb dX7_call_99 (by decide) ?_
        obtain ⟨r_138, t_139, e_140, hf⟩ := zb_inv hf
        refine mw_si (As := [.int (mr (mI τ 29 ((mi τ 29) + (1 : Int32))) 7 (x6 + x7).toNatClampNeg), .int (0 : Int32), .int (4 : Int32)]) (rest := []) (n := 3) S (kc_X7_in l D cy A ad _ _ _ _ _ _ e_140) (wz_S (zin5 _ (List.mem_of_getElem? (i := 12) rfl)) (zin5 _ (List.mem_of_getElem? (i := 10) rfl)) (zin5 _ (List.mem_of_getElem? (i := 11) rfl)) (zin1 _ (List.mem_of_getElem? (i := 5) rfl))) rfl ⟨rfl, rfl⟩ (by decide +kernel) ⟨Nat.le_of_ble_eq_true rfl, Nat.le_of_ble_eq_true rfl⟩ rfl hl.1 rfl (Nat.le_of_ble_eq_true rfl) hK hw hS dX7_call_100 ⟨Nat.zero_le _, Nat.zero_le _⟩ (fun H locs hw hS => ?_)
        refine lv_if_ne (tgt := 134) hx hb dX7_call_103 (by decide) (fun c_141 => ?_) (fun c_141 => ?_)
        · have hf := (zi_f c_141).symm.trans hf
          exact B134 K hKK _ _ _ _ _ _ _ _ hf hw hS (lv_sub hl [1, 2, 3, 4, 5, 6, 7, 8, 0] rfl)
        · have hf := (zi_t c_141).symm.trans hf
          refine lv_iload hx hb dX7_call_106 (lv_at hl 0 rfl) ?_
          refine lv_bipush (v := (13 : Int32)) hx hb dX7_call_108 (by decide) ?_
          refine lv_icmp_eq (tgt := 134) hx hb dX7_call_110 (by decide) (fun c_142 => ?_) (fun c_142 => ?_)
          · have hf := (zi_t c_142).symm.trans hf
            exact B134 K hKK _ _ _ _ _ _ _ _ hf hw hS (lv_sub hl [1, 2, 3, 4, 5, 6, 7, 8, 0] rfl)
          · have hf := (zi_f c_142).symm.trans hf
            refine lv_iload hx hb dX7_call_113 (lv_at hl 0 rfl) ?_
            refine lv_bipush (v := (14 : Int32)) hx hb dX7_call_115 (by decide) ?_
            refine lv_icmp_eq (tgt := 134) hx hb dX7_call_117 (by decide) (fun c_143 => ?_) (fun c_143 => ?_)
            · have hf := (zi_t c_143).symm.trans hf
              exact B134 K hKK _ _ _ _ _ _ _ _ hf hw hS (lv_sub hl [1, 2, 3, 4, 5, 6, 7, 8, 0] rfl)
            · have hf := (zi_f c_143).symm.trans hf
              refine lv_iload hx hb dX7_call_120 (lv_at hl 0 rfl) ?_
              refine lv_bipush (v := (16 : Int32)) hx hb dX7_call_122 (by decide) ?_
              refine lv_icmp_eq (tgt := 134) hx hb dX7_call_124 (by decide) (fun c_144 => ?_) (fun c_144 => ?_)
              · have hf := (zi_t c_144).symm.trans hf
                exact B134 K hKK _ _ _ _ _ _ _ _ hf hw hS (lv_sub hl [1, 2, 3, 4, 5, 6, 7, 8, 0] rfl)
              · have hf := (zi_f c_144).symm.trans hf
                refine lv_iload hx hb dX7_call_127 (lv_at hl 0 rfl) ?_
                refine lv_bipush (v := (18 : Int32)) hx hb dX7_call_129 (by decide) ?_
                refine lv_icmp_ne (tgt := 138) hx hb dX7_call_131 (by decide) (fun c_145 => ?_) (fun c_145 => ?_)
                · have hf := (zi_f c_145).symm.trans hf
                  refine lv_iconst (v := (0 : Int32)) hx hb dX7_call_138 (by decide) ?_
                  exact B139 K hKK _ _ _ _ _ _ _ _ _ hf hw hS (lv_sub hl [1, 2, 3, 4, 5, 6, 7, 8, 0] rfl)
                · have hf := (zi_t c_145).symm.trans hf
                  exact B134 K hKK _ _ _ _ _ _ _ _ hf hw hS (lv_sub hl [1, 2, 3, 4, 5, 6, 7, 8, 0] rfl)
      · have hf := (zi_t c_136).symm.trans hf
        refine lv_bipush (v := (7 : Int32)) hx hb dX7_call_71 (by decide) ?_
        exact mw_reti S hr hf hw hS hlocks dX7_call_73
  have L53 : ∀ (n : Nat) (τ : MS) (x5 : Int32) (x6 : Int32) (x7 : Int32) (H : Heap) (locs : List Loc) (ls : Array Slot) (hf : k_X7_call_l53 x1 x2 x3 x4 n τ x5 x6 x7 = some (r, τ')) (hw : zw D A ad (mG cy ad τ) H) (hS : va_S A s.heap H locs) (hl : lv_has ls 16 [(0, .ref (ad 0)), (1, .int x1), (2, .int x2), (3, .int x3), (4, .int x4), (5, .int x5), (6, .int x6), (7, .int x7)]), W p l e (headSpec (wz yX7_call cX7_call 16 (some .int)) ({ frames := 2, cells := 0, slots := 0, locals := 48 } : Room)).room s m ([.ref (ad 0), .int x1, .int x2, .int x3, .int x4] : List Value).toArray below meth c H locs 0 0 (MQ below (va_Qi (fun (r' : Int32) (u : MS) => r' = r ∧ u = τ') (MWp D cy A ad) A) ([.ref (ad 0), .int x1, .int x2, .int x3, .int x4] : List Value).toArray s 0 0 A) (F0 m 53 ls []) := by
    intro n
    induction n with
    | zero =>
      intro τ x5 x6 x7 H locs ls hf hw hS hl
      rw [k_X7_call_l53_z] at hf
      cases hf
    | succ n ih =>
      intro τ x5 x6 x7 H locs ls hf hw hS hl
      rw [k_X7_call_l53_s] at hf
      exact S53 (k_X7_call_l53 x1 x2 x3 x4 n) ih τ x5 x6 x7 H locs ls hf hw hS hl
  rw [k_X7_call] at hf
  refine lv_aload_n hx hb dX7_call_0 rfl (lv_at hl 0 rfl) ?_
  refine lv_dup hx hb dX7_call_1 rfl ?_
  refine mr_get S h7 hK hw 26 (by decide) (wz_in (zin13 _ (List.mem_of_getElem? (i := 20) rfl))) rfl rfl dX7_call_2 ?_
  refine lv_iconst (v := (1 : Int32)) hx hb dX7_call_5 (by decide) ?_
  refine lv_iadd hx hb dX7_call_6 ?_
  refine mr_put S h7 hK hw hS 26 (by decide) (wz_in (zin13 _ (List.mem_of_getElem? (i := 20) rfl))) rfl rfl rfl (mput_26 _ _ _ _) dX7_call_7 (fun H locs hw hS => ?_)
  refine lv_aload_n hx hb dX7_call_10 rfl (lv_at hl 0 rfl) ?_
  refine lv_iconst (v := (0 : Int32)) hx hb dX7_call_11 (by decide) ?_
  refine mr_put S h7 hK hw hS 28 (by decide) (wz_in (zin13 _ (List.mem_of_getElem? (i := 21) rfl))) rfl rfl rfl (mput_28 _ _ _ _) dX7_call_12 (fun H locs hw hS => ?_)
  refine lv_aload_n hx hb dX7_call_15 rfl (lv_at hl 0 rfl) ?_
  refine lv_iconst (v := (0 : Int32)) hx hb dX7_call_16 (by decide) ?_
  refine mr_put S h7 hK hw hS 29 (by decide) (wz_in (zin13 _ (List.mem_of_getElem? (i := 22) rfl))) rfl rfl rfl (mput_29 _ _ _ _) dX7_call_17 (fun H locs hw hS => ?_)
  refine lv_aload_n hx hb dX7_call_20 rfl (lv_at hl 0 rfl) ?_
  refine lv_iconst (v := (0 : Int32)) hx hb dX7_call_21 (by decide) ?_
  refine mr_put S h7 hK hw hS 30 (by decide) (wz_in (zin13 _ (List.mem_of_getElem? (i := 23) rfl))) rfl rfl rfl (mput_30 _ _ _ _) dX7_call_22 (fun H locs hw hS => ?_)
  refine lv_iload_n hx hb dX7_call_25 rfl (lv_at hl 1 rfl) ?_
  refine lv_iload_n hx hb dX7_call_26 rfl (lv_at hl 2 rfl) ?_
  obtain ⟨r_146, t_147, e_148, hf⟩ := zb_inv hf
  refine mw_si (As := [.int x1, .int x2]) (rest := []) (n := 2) S (kc_X7_at l D cy A ad _ _ _ _ _ e_148) (wz_S (zin10 _ (List.mem_of_getElem? (i := 18) rfl)) (zin10 _ (List.mem_of_getElem? (i := 16) rfl)) (zin10 _ (List.mem_of_getElem? (i := 17) rfl)) (zin1 _ (List.mem_of_getElem? (i := 5) rfl))) rfl ⟨rfl, rfl⟩ (by decide +kernel) ⟨Nat.le_of_ble_eq_true rfl, Nat.le_of_ble_eq_true rfl⟩ rfl hl.1 rfl (Nat.le_of_ble_eq_true rfl) hK hw hS dX7_call_27 ⟨Nat.zero_le _, Nat.zero_le _⟩ (fun H locs hw hS => ?_)
  refine lv_istore (lv' := [(5, .int r_146), (0, .ref (ad 0)), (1, .int x1), (2, .int x2), (3, .int x3), (4, .int x4)]) hx hb dX7_call_30 hl (by decide) rfl (fun ls hl => ?_)
  refine lv_bipush (v := (120 : Int32)) hx hb dX7_call_32 (by decide) ?_
  refine lv_iload_n hx hb dX7_call_34 rfl (lv_at hl 3 rfl) ?_
  refine lv_aload_n hx hb dX7_call_35 rfl (lv_at hl 1 rfl) ?_
  refine mr_get S h7 hK hw 21 (by decide) (wz_in (zin4 _ (List.mem_of_getElem? (i := 4) rfl))) rfl rfl dX7_call_36 ?_
  refine lv_iload hx hb dX7_call_39 (lv_at hl 0 rfl) ?_
  obtain ⟨g_149, hf⟩ := zg_inv hf
  refine mr_iald S hK hw 21 rfl g_149 dX7_call_41 ?_
  obtain ⟨r_150, t_151, e_152, hf⟩ := zb_inv hf
  refine mw_si (As := [.int x2, .int (mr t_147 21 r_146.toNatClampNeg)]) (rest := [.int (120 : Int32)]) (n := 2) S (kc_X7_place l D cy A ad _ _ _ _ _ e_152) (wz_S (zin9 _ (List.mem_of_getElem? (i := 0) rfl)) (zin8 _ (List.mem_of_getElem? (i := 22) rfl)) (zin8 _ (List.mem_of_getElem? (i := 23) rfl)) (zin1 _ (List.mem_of_getElem? (i := 5) rfl))) rfl ⟨rfl, rfl⟩ (by decide +kernel) ⟨Nat.le_of_ble_eq_true rfl, Nat.le_of_ble_eq_true rfl⟩ rfl hl.1 rfl (Nat.le_of_ble_eq_true rfl) hK hw hS dX7_call_42 ⟨Nat.zero_le _, Nat.zero_le _⟩ (fun H locs hw hS => ?_)
  refine lv_imul hx hb dX7_call_45 ?_
  refine lv_iload_n hx hb dX7_call_46 rfl (lv_at hl 4 rfl) ?_
  refine lv_iadd hx hb dX7_call_47 ?_
  refine lv_istore (lv' := [(6, .int (((120 : Int32) * r_150) + x3)), (5, .int r_146), (0, .ref (ad 0)), (1, .int x1), (2, .int x2), (3, .int x3), (4, .int x4)]) hx hb dX7_call_48 hl (by decide) rfl (fun ls hl => ?_)
  refine lv_iconst (v := (0 : Int32)) hx hb dX7_call_50 (by decide) ?_
  refine lv_istore (lv' := [(7, .int (0 : Int32)), (6, .int (((120 : Int32) * r_150) + x3)), (5, .int r_146), (0, .ref (ad 0)), (1, .int x1), (2, .int x2), (3, .int x3), (4, .int x4)]) hx hb dX7_call_51 hl (by decide) rfl (fun ls hl => ?_)
  exact L53 FU _ _ _ _ _ _ _ hf hw hS (lv_sub hl [3, 4, 5, 6, 7, 2, 1, 0] rfl)
