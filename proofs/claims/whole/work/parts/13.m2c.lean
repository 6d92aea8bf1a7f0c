def f_X2_image (N : Nat) (y : St) (x1 : Int32) : Option (Int32 × St) := (f_X2_imageWithin N 25 y x1 24).bind (fun q1 => some (q1.1, q1.2))
set_option maxHeartbeats 4000000 in
set_option maxRecDepth 100000 in
theorem c_X2_image (l : Launch) (D : va_G) (cI cZ : ClassId) (a2 : Nat → Nat) (N : Nat) (y : St) (x1 : Int32) : MI l yX2_image wsX2_image ({ frames := 127, cells := 0, slots := 0, locals := 5022 } : Room) D cI cZ (wX2 a2 cI cZ) [.ref (a2 0), .int x1] y (f_X2_image N y x1) := by
  refine MI.of (cc := cX2_image) (maxL := 2) (ret := (some .int)) (own := RX2) (by decide) rfl rfl (Nat.le_of_ble_eq_true rfl) ?_
  intro r u1 h p e s m args below meth c A C0 H locs ls hP hD hS hl
  obtain ⟨hx, hb, hml, hr, hown, hts, hlocks, hA, hK, hN⟩ := id C0
  have hl : lv_has ls 2 [(0, .ref (a2 0)), (1, .int x1)] := hl
  unfold f_X2_image at h
  refine lv_aload_n hx hb dX2_image_0 rfl (lv_at hl 0 rfl) ?_
  refine lv_iload_n hx hb dX2_image_1 rfl (lv_at hl 1 rfl) ?_
  refine lv_bipush (v := 24) hx hb dX2_image_2 rfl ?_
  obtain ⟨q1, hq1, h⟩ := ob h
  refine mc_i (ws' := wX2 a2 cI cZ q1.2) (wr := ([] : va_W)) [0, 1, 2, 3, 4, 5, 6, 7, 8, 9, 10] [] [0, 1, 2, 3, 4, 5, 6, 7, 8, 9, 10] (va_runV (As := [.int x1, .int 24]) (rest := []) ⟨hx, hb, hml, hown, hts⟩ (c_X2_imageWithin l D cI cZ a2 N 25 y x1 24 q1.1 q1.2 hq1 H.size) (cwV 2 hts gX2_image_X2_imageWithin rfl rfl rfl (by decide +kernel) ⟨Nat.le_of_ble_eq_true rfl, Nat.le_of_ble_eq_true rfl⟩) (pV [0, 1, 2, 3, 4, 5, 6, 7, 8, 9, 10] hP hD hK hN rfl rfl rfl rfl) rfl rfl hl.1 rfl (lv_room (Nat.le_of_ble_eq_true rfl)) dX2_image_4 ⟨Nat.le_of_ble_eq_true rfl, Nat.le_of_ble_eq_true rfl⟩) hP hD hS hA rfl rfl rfl (by decide) rfl rfl (fun H locs hP hD hS => ?_)
  obtain ⟨rfl, rfl⟩ := so h
  exact ret_i C0 hP hD hS dX2_image_7
