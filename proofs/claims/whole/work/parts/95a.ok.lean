set_option maxRecDepth 100000 in
set_option maxHeartbeats 4000000 in
theorem okX0_init : mAllOk (mMt0 0) tbX0_init := by
  rw [mtX0_init]
  unfold tbX0_init
  refine mA ⟨by decide +kernel, rfl, rfl⟩ ?_
  refine mA ⟨by decide +kernel, rfl, q0, q1, q2⟩ ?_
  refine mA ⟨by decide +kernel, rfl, rfl⟩ ?_
  refine mA ⟨by decide +kernel, rfl, by decide +kernel⟩ ?_
  refine mA ⟨by decide +kernel, rfl, RX0, TX0, 2, rfl, by decide +kernel, mIn_wsX00, Or.inl q3, rfl, Or.inl rfl⟩ ?_
  refine mA ⟨by decide +kernel, rfl, rfl⟩ ?_
  refine mA ⟨by decide +kernel, rfl, by decide +kernel⟩ ?_
  refine mA ⟨by decide +kernel, rfl, rfl⟩ ?_
  refine mA ⟨by decide +kernel, rfl, q4, q5, q6, q7⟩ ?_
  refine mA ⟨by decide +kernel, rfl, q8⟩ ?_
  refine mA ⟨by decide +kernel, rfl, RX0, TX0, 2, rfl, by decide +kernel, mIn_wsX00, Or.inl q9, Or.inr ⟨_, rfl⟩, Or.inr ⟨rfl, by decide +kernel, rfl, q9⟩⟩ ?_
  refine mA ⟨by decide +kernel, rfl, rfl⟩ ?_
  exact trivial
set_option maxRecDepth 100000 in
set_option maxHeartbeats 4000000 in
theorem okX0_restart : mAllOk (mMt0 1) tbX0_restart := by
  rw [mtX0_restart]
  unfold tbX0_restart
  refine mA ⟨by decide +kernel, rfl, rfl⟩ ?_
  refine mA ⟨by decide +kernel, rfl, by decide +kernel⟩ ?_
  refine mA ⟨by decide +kernel, rfl, RX0, TX0, 2, rfl, by decide +kernel, mIn_wsX00, Or.inl q3, rfl, Or.inl rfl⟩ ?_
  refine mA ⟨by decide +kernel, rfl, rfl⟩ ?_
  exact trivial
set_option maxRecDepth 100000 in
set_option maxHeartbeats 4000000 in
theorem okX0_byteLength : mAllOk (mMt0 2) tbX0_byteLength := by
  rw [mtX0_byteLength]
  unfold tbX0_byteLength
  refine mA ⟨by decide +kernel, rfl, rfl⟩ ?_
  refine mA ⟨by decide +kernel, rfl, RX0, TX0, 2, rfl, by decide +kernel, mIn_wsX00, Or.inl q3⟩ ?_
  refine mA ⟨by decide +kernel, rfl, by decide +kernel⟩ ?_
  refine mA ⟨by decide +kernel, rfl⟩ ?_
  refine mA ⟨by decide +kernel, rfl, rfl⟩ ?_
  exact trivial
set_option maxRecDepth 100000 in
set_option maxHeartbeats 4000000 in
theorem okX0_put : mAllOk (mMt0 3) tbX0_put := by
  rw [mtX0_put]
  unfold tbX0_put
  refine mA ⟨by decide +kernel, rfl, rfl⟩ ?_
  refine mA ⟨by decide +kernel, rfl, RX0, TX0, 2, rfl, by decide +kernel, mIn_wsX00, Or.inl q3⟩ ?_
  refine mA ⟨by decide +kernel, rfl, rfl⟩ ?_
  refine mA ⟨by decide +kernel, rfl, rfl⟩ ?_
  refine mA ⟨by decide +kernel, rfl⟩ ?_
  refine mA ⟨by decide +kernel, rfl, RX0, TX0, 2, rfl, by decide +kernel, mIn_wsX00, Or.inl q3⟩ ?_
  refine mA ⟨by decide +kernel, rfl, rfl⟩ ?_
  refine mA ⟨by decide +kernel, rfl⟩ ?_
  refine mA ⟨by decide +kernel, rfl, RX0, TX0, 2, rfl, by decide +kernel, mIn_wsX00, Or.inl q3, rfl, Or.inl rfl⟩ ?_
  refine mA ⟨by decide +kernel, rfl, by decide +kernel⟩ ?_
  refine mA ⟨by decide +kernel, rfl, rfl⟩ ?_
  refine mA ⟨by decide +kernel, rfl, rfl⟩ ?_
  refine mA ⟨by decide +kernel, rfl, rfl⟩ ?_
  refine mA ⟨by decide +kernel, rfl, by decide +kernel⟩ ?_
  refine mA ⟨by decide +kernel, rfl, rfl⟩ ?_
  refine mA ⟨by decide +kernel, rfl, RX0, TX0, 2, rfl, by decide +kernel, mIn_wsX00, Or.inl q9⟩ ?_
  refine mA ⟨by decide +kernel, rfl⟩ ?_
  refine mA ⟨by decide +kernel, rfl, by decide +kernel⟩ ?_
  refine mA ⟨by decide +kernel, rfl, rfl⟩ ?_
  refine mA ⟨by decide +kernel, rfl, rfl⟩ ?_
  refine mA ⟨by decide +kernel, rfl, rfl⟩ ?_
  refine mA ⟨by decide +kernel, rfl⟩ ?_
  refine mA ⟨by decide +kernel, rfl, rfl⟩ ?_
  refine mA ⟨by decide +kernel, rfl, rfl⟩ ?_
  refine mA ⟨by decide +kernel, rfl, by decide +kernel⟩ ?_
  refine mA ⟨by decide +kernel, rfl⟩ ?_
  refine mA ⟨by decide +kernel, rfl, rfl⟩ ?_
  refine mA ⟨by decide +kernel, rfl⟩ ?_
  refine mA ⟨by decide +kernel, rfl⟩ ?_
  refine mA ⟨by decide +kernel, rfl⟩ ?_
  refine mA ⟨by decide +kernel, rfl, by decide +kernel⟩ ?_
  refine mA ⟨by decide +kernel, rfl⟩ ?_
  refine mA ⟨by decide +kernel, rfl, rfl, ⟨TX0, 2, rfl⟩, q10, cV4⟩ ?_
  refine mA ⟨by decide +kernel, rfl, rfl, by decide +kernel⟩ ?_
  refine mA ⟨by decide +kernel, rfl, by decide +kernel⟩ ?_
  refine mA ⟨by decide +kernel, rfl, rfl⟩ ?_
  exact trivial
set_option maxRecDepth 100000 in
set_option maxHeartbeats 4000000 in
theorem okX0_putBit : mAllOk (mMt0 4) tbX0_putBit := by
  rw [mtX0_putBit]
  unfold tbX0_putBit
  refine mA ⟨by decide +kernel, rfl, rfl⟩ ?_
  refine mA ⟨by decide +kernel, rfl, by decide +kernel⟩ ?_
  refine mA ⟨by decide +kernel, rfl⟩ ?_
  refine mA ⟨by decide +kernel, rfl, rfl⟩ ?_
  refine mA ⟨by decide +kernel, rfl, rfl⟩ ?_
  refine mA ⟨by decide +kernel, rfl, by decide +kernel⟩ ?_
  refine mA ⟨by decide +kernel, rfl, rfl⟩ ?_
  refine mA ⟨by decide +kernel, rfl, rfl⟩ ?_
  refine mA ⟨by decide +kernel, rfl, RX0, TX0, 2, rfl, by decide +kernel, mIn_wsX00, Or.inl q9⟩ ?_
  refine mA ⟨by decide +kernel, rfl⟩ ?_
  refine mA ⟨by decide +kernel, rfl, by decide +kernel⟩ ?_
  refine mA ⟨by decide +kernel, rfl, rfl⟩ ?_
  refine mA ⟨by decide +kernel, rfl, rfl⟩ ?_
  refine mA ⟨by decide +kernel, rfl, by decide +kernel⟩ ?_
  refine mA ⟨by decide +kernel, rfl⟩ ?_
  refine mA ⟨by decide +kernel, rfl, by decide +kernel⟩ ?_
  refine mA ⟨by decide +kernel, rfl, rfl⟩ ?_
  refine mA ⟨by decide +kernel, rfl, RX0, TX0, 2, rfl, by decide +kernel, mIn_wsX00, Or.inl q9⟩ ?_
  refine mA ⟨by decide +kernel, rfl, rfl⟩ ?_
  refine mA ⟨by decide +kernel, rfl, by decide +kernel⟩ ?_
  refine mA ⟨by decide +kernel, rfl⟩ ?_
  refine mA ⟨by decide +kernel, rfl, rfl⟩ ?_
  refine mA ⟨by decide +kernel, rfl, RX0, TX0, 2, rfl, by decide +kernel, mIn_wsX00, Or.inl q9⟩ ?_
  refine mA ⟨by decide +kernel, rfl, rfl⟩ ?_
  refine mA ⟨by decide +kernel, rfl⟩ ?_
  refine mA ⟨by decide +kernel, rfl⟩ ?_
  refine mA ⟨by decide +kernel, rfl, rfl⟩ ?_
  refine mA ⟨by decide +kernel, rfl, by decide +kernel⟩ ?_
  refine mA ⟨by decide +kernel, rfl, rfl⟩ ?_
  refine mA ⟨by decide +kernel, rfl, by decide +kernel⟩ ?_
  refine mA ⟨by decide +kernel, rfl⟩ ?_
  refine mA ⟨by decide +kernel, rfl⟩ ?_
  refine mA ⟨by decide +kernel, rfl⟩ ?_
  refine mA ⟨by decide +kernel, rfl⟩ ?_
  refine mA ⟨by decide +kernel, rfl⟩ ?_
  refine mA ⟨by decide +kernel, rfl, rfl⟩ ?_
  exact trivial
set_option maxRecDepth 100000 in
set_option maxHeartbeats 4000000 in
theorem okX0_finish : mAllOk (mMt0 5) tbX0_finish := by
  rw [mtX0_finish]
  unfold tbX0_finish
  refine mA ⟨by decide +kernel, rfl, rfl⟩ ?_
  refine mA ⟨by decide +kernel, rfl, by decide +kernel⟩ ?_
  refine mA ⟨by decide +kernel, rfl, by decide +kernel⟩ ?_
  refine mA ⟨by decide +kernel, rfl, rfl⟩ ?_
  refine mA ⟨by decide +kernel, rfl, RX0, TX0, 2, rfl, by decide +kernel, mIn_wsX00, Or.inl q3⟩ ?_
  refine mA ⟨by decide +kernel, rfl, by decide +kernel⟩ ?_
  refine mA ⟨by decide +kernel, rfl⟩ ?_
  refine mA ⟨by decide +kernel, rfl⟩ ?_
  refine mA ⟨by decide +kernel, rfl, by decide +kernel⟩ ?_
  refine mA ⟨by decide +kernel, rfl⟩ ?_
  refine mA ⟨by decide +kernel, rfl, rfl, ⟨TX0, 2, rfl⟩, q15, cV3⟩ ?_
  refine mA ⟨by decide +kernel, rfl, rfl⟩ ?_
  refine mA ⟨by decide +kernel, rfl, rfl⟩ ?_
  refine mA ⟨by decide +kernel, rfl, RX0, TX0, 2, rfl, by decide +kernel, mIn_wsX00, Or.inl q9⟩ ?_
  refine mA ⟨by decide +kernel, rfl, rfl⟩ ?_
  refine mA ⟨by decide +kernel, rfl, rfl, ⟨TX0, 2, rfl⟩, q19, cV2⟩ ?_
  refine mA ⟨by decide +kernel, rfl, rfl, by decide +kernel, cS86⟩ ?_
  refine mA ⟨by decide +kernel, rfl⟩ ?_
  refine mA ⟨by decide +kernel, rfl, by decide +kernel⟩ ?_
  refine mA ⟨by decide +kernel, rfl, rfl, ⟨TX0, 2, rfl⟩, q15, cV3⟩ ?_
  refine mA ⟨by decide +kernel, rfl, rfl⟩ ?_
  exact trivial
set_option maxRecDepth 100000 in
set_option maxHeartbeats 4000000 in
theorem okX1_fiveTo : mAllOk (mMt0 6) tbX1_fiveTo := by
  rw [mtX1_fiveTo]
  unfold tbX1_fiveTo
  refine mA ⟨by decide +kernel, rfl, rfl⟩ ?_
  refine mA ⟨by decide +kernel, rfl, by decide +kernel⟩ ?_
  refine mA ⟨by decide +kernel, rfl, rfl⟩ ?_
  refine mA ⟨by decide +kernel, rfl, rfl, q26⟩ ?_
  refine mA ⟨by decide +kernel, rfl⟩ ?_
  refine mA ⟨by decide +kernel, rfl, by decide +kernel⟩ ?_
  refine mA ⟨by decide +kernel, rfl, rfl, q26⟩ ?_
  refine mA ⟨by decide +kernel, rfl, rfl⟩ ?_
  refine mA ⟨by decide +kernel, rfl⟩ ?_
  refine mA ⟨by decide +kernel, rfl, by decide +kernel⟩ ?_
  refine mA ⟨by decide +kernel, rfl, by decide +kernel⟩ ?_
  refine mA ⟨by decide +kernel, rfl, rfl⟩ ?_
  exact trivial
set_option maxRecDepth 100000 in
set_option maxHeartbeats 4000000 in
theorem okX1_nearest : mAllOk (mMt0 7) tbX1_nearest := by
  rw [mtX1_nearest]
  unfold tbX1_nearest
  refine mA ⟨by decide +kernel, rfl, rfl⟩ ?_
  refine mA ⟨by decide +kernel, rfl, q27, cS6⟩ ?_
  refine mA ⟨by decide +kernel, rfl, rfl⟩ ?_
  refine mA ⟨by decide +kernel, rfl, rfl⟩ ?_
  refine mA ⟨by decide +kernel, rfl, by decide +kernel⟩ ?_
  refine mA ⟨by decide +kernel, rfl⟩ ?_
  refine mA ⟨by decide +kernel, rfl, by decide +kernel⟩ ?_
  refine mA ⟨by decide +kernel, rfl, rfl⟩ ?_
  refine mA ⟨by decide +kernel, rfl, by decide +kernel⟩ ?_
  refine mA ⟨by decide +kernel, rfl⟩ ?_
  refine mA ⟨by decide +kernel, rfl, by decide +kernel⟩ ?_
  refine mA ⟨by decide +kernel, rfl, by decide +kernel⟩ ?_
  refine mA ⟨by decide +kernel, rfl, rfl⟩ ?_
  refine mA ⟨by decide +kernel, rfl, rfl⟩ ?_
  refine mA ⟨by decide +kernel, rfl, q31, q32, q6, q33⟩ ?_
  refine mA ⟨by decide +kernel, rfl, rfl⟩ ?_
  refine mA ⟨by decide +kernel, rfl, rfl⟩ ?_
  refine mA ⟨by decide +kernel, rfl, rfl⟩ ?_
  refine mA ⟨by decide +kernel, rfl⟩ ?_
  refine mA ⟨by decide +kernel, rfl, rfl⟩ ?_
  refine mA ⟨by decide +kernel, rfl, rfl⟩ ?_
  refine mA ⟨by decide +kernel, rfl, rfl⟩ ?_
  refine mA ⟨by decide +kernel, rfl⟩ ?_
  refine mA ⟨by decide +kernel, rfl, rfl⟩ ?_
  refine mA ⟨by decide +kernel, rfl, rfl⟩ ?_
  refine mA ⟨by decide +kernel, rfl, rfl⟩ ?_
  refine mA ⟨by decide +kernel, rfl, by decide +kernel⟩ ?_
  refine mA ⟨by decide +kernel, rfl, rfl⟩ ?_
  refine mA ⟨by decide +kernel, rfl, rfl⟩ ?_
  refine mA ⟨by decide +kernel, rfl, by decide +kernel⟩ ?_
  refine mA ⟨by decide +kernel, rfl, by decide +kernel⟩ ?_
  refine mA ⟨by decide +kernel, rfl, rfl⟩ ?_
  refine mA ⟨by decide +kernel, rfl, _, rfl, q34⟩ ?_
  refine mA ⟨by decide +kernel, rfl⟩ ?_
  refine mA ⟨by decide +kernel, rfl, by decide +kernel⟩ ?_
  refine mA ⟨by decide +kernel, rfl, by decide +kernel⟩ ?_
  refine mA ⟨by decide +kernel, rfl, rfl⟩ ?_
  refine mA ⟨by decide +kernel, rfl, q35, cS144⟩ ?_
  refine mA ⟨by decide +kernel, rfl, by decide +kernel⟩ ?_
  refine mA ⟨by decide +kernel, rfl⟩ ?_
  refine mA ⟨by decide +kernel, rfl, q39, q40, q6, q41⟩ ?_
  refine mA ⟨by decide +kernel, rfl, rfl⟩ ?_
  refine mA ⟨by decide +kernel, rfl, rfl⟩ ?_
  refine mA ⟨by decide +kernel, rfl, rfl⟩ ?_
  refine mA ⟨by decide +kernel, rfl⟩ ?_
  refine mA ⟨by decide +kernel, rfl, rfl⟩ ?_
  refine mA ⟨by decide +kernel, rfl, rfl⟩ ?_
  refine mA ⟨by decide +kernel, rfl, rfl⟩ ?_
  refine mA ⟨by decide +kernel, rfl⟩ ?_
  refine mA ⟨by decide +kernel, rfl, rfl⟩ ?_
  refine mA ⟨by decide +kernel, rfl, rfl⟩ ?_
  refine mA ⟨by decide +kernel, rfl⟩ ?_
  refine mA ⟨by decide +kernel, rfl⟩ ?_
  refine mA ⟨by decide +kernel, rfl, rfl⟩ ?_
  refine mA ⟨by decide +kernel, rfl, rfl⟩ ?_
  refine mA ⟨by decide +kernel, rfl, rfl⟩ ?_
  refine mA ⟨by decide +kernel, rfl⟩ ?_
  refine mA ⟨by decide +kernel, rfl, rfl⟩ ?_
  refine mA ⟨by decide +kernel, rfl, rfl⟩ ?_
  refine mA ⟨by decide +kernel, rfl, rfl⟩ ?_
  refine mA ⟨by decide +kernel, rfl⟩ ?_
  refine mA ⟨by decide +kernel, rfl, rfl⟩ ?_
  refine mA ⟨by decide +kernel, rfl, rfl, by decide +kernel⟩ ?_
  refine mA ⟨by decide +kernel, rfl, by decide +kernel⟩ ?_
  refine mA ⟨by decide +kernel, rfl, _, rfl, q42⟩ ?_
  refine mA ⟨by decide +kernel, rfl, rfl⟩ ?_
  refine mA ⟨by decide +kernel, rfl⟩ ?_
  refine mA ⟨by decide +kernel, rfl, rfl⟩ ?_
  refine mA ⟨by decide +kernel, rfl⟩ ?_
  refine mA ⟨by decide +kernel, rfl, by decide +kernel⟩ ?_
  refine mA ⟨by decide +kernel, rfl, rfl⟩ ?_
  refine mA ⟨by decide +kernel, rfl, by decide +kernel⟩ ?_
  refine mA ⟨by decide +kernel, rfl⟩ ?_
  refine mA ⟨by decide +kernel, rfl, rfl⟩ ?_
  refine mA ⟨by decide +kernel, rfl, by decide +kernel⟩ ?_
  refine mA ⟨by decide +kernel, rfl, rfl⟩ ?_
  refine mA ⟨by decide +kernel, rfl⟩ ?_
  refine mA ⟨by decide +kernel, rfl⟩ ?_
  refine mA ⟨by decide +kernel, rfl, by decide +kernel⟩ ?_
  refine mA ⟨by decide +kernel, rfl⟩ ?_
  refine mA ⟨by decide +kernel, rfl, rfl⟩ ?_
  refine mA ⟨by decide +kernel, rfl, _, rfl, q34⟩ ?_
  refine mA ⟨by decide +kernel, rfl⟩ ?_
  refine mA ⟨by decide +kernel, rfl⟩ ?_
  refine mA ⟨by decide +kernel, rfl, rfl⟩ ?_
  refine mA ⟨by decide +kernel, rfl, rfl⟩ ?_
  refine mA ⟨by decide +kernel, rfl, by decide +kernel⟩ ?_
  refine mA ⟨by decide +kernel, rfl⟩ ?_
  refine mA ⟨by decide +kernel, rfl, by decide +kernel⟩ ?_
  refine mA ⟨by decide +kernel, rfl, rfl⟩ ?_
  refine mA ⟨by decide +kernel, rfl, _, rfl, q43⟩ ?_
  refine mA ⟨by decide +kernel, rfl⟩ ?_
  refine mA ⟨by decide +kernel, rfl, by decide +kernel⟩ ?_
  refine mA ⟨by decide +kernel, rfl, rfl⟩ ?_
  refine mA ⟨by decide +kernel, rfl, rfl⟩ ?_
  exact trivial
set_option maxRecDepth 100000 in
set_option maxHeartbeats 4000000 in
theorem okX1_scale : mAllOk (mMt0 8) tbX1_scale := by
  rw [mtX1_scale]
  unfold tbX1_scale
  refine mA ⟨by decide +kernel, rfl, rfl⟩ ?_
  refine mA ⟨by decide +kernel, rfl, by decide +kernel⟩ ?_
  refine mA ⟨by decide +kernel, rfl⟩ ?_
  refine mA ⟨by decide +kernel, rfl, by decide +kernel⟩ ?_
  refine mA ⟨by decide +kernel, rfl, by decide +kernel⟩ ?_
  refine mA ⟨by decide +kernel, rfl, rfl⟩ ?_
  refine mA ⟨by decide +kernel, rfl, rfl⟩ ?_
  refine mA ⟨by decide +kernel, rfl, _, rfl, q44⟩ ?_
  refine mA ⟨by decide +kernel, rfl⟩ ?_
  refine mA ⟨by decide +kernel, rfl, rfl⟩ ?_
  refine mA ⟨by decide +kernel, rfl, rfl⟩ ?_
  refine mA ⟨by decide +kernel, rfl, rfl⟩ ?_
  refine mA ⟨by decide +kernel, rfl, q45, cS9⟩ ?_
  refine mA ⟨by decide +kernel, rfl, rfl⟩ ?_
  refine mA ⟨by decide +kernel, rfl, rfl⟩ ?_
  refine mA ⟨by decide +kernel, rfl, by decide +kernel⟩ ?_
  refine mA ⟨by decide +kernel, rfl⟩ ?_
  refine mA ⟨by decide +kernel, rfl, by decide +kernel⟩ ?_
  refine mA ⟨by decide +kernel, rfl, rfl⟩ ?_
  refine mA ⟨by decide +kernel, rfl, _, rfl, q34⟩ ?_
  refine mA ⟨by decide +kernel, rfl⟩ ?_
  refine mA ⟨by decide +kernel, rfl, by decide +kernel⟩ ?_
  refine mA ⟨by decide +kernel, rfl, rfl⟩ ?_
  refine mA ⟨by decide +kernel, rfl, rfl⟩ ?_
  refine mA ⟨by decide +kernel, rfl, q48, cS7⟩ ?_
  refine mA ⟨by decide +kernel, rfl, rfl⟩ ?_
  refine mA ⟨by decide +kernel, rfl⟩ ?_
  refine mA ⟨by decide +kernel, rfl, by decide +kernel⟩ ?_
  refine mA ⟨by decide +kernel, rfl, _, rfl, q43⟩ ?_
  refine mA ⟨by decide +kernel, rfl, rfl⟩ ?_
  refine mA ⟨by decide +kernel, rfl, rfl⟩ ?_
  refine mA ⟨by decide +kernel, rfl, by decide +kernel⟩ ?_
  refine mA ⟨by decide +kernel, rfl⟩ ?_
  refine mA ⟨by decide +kernel, rfl, by decide +kernel⟩ ?_
  refine mA ⟨by decide +kernel, rfl, rfl⟩ ?_
  refine mA ⟨by decide +kernel, rfl⟩ ?_
  refine mA ⟨by decide +kernel, rfl, by decide +kernel⟩ ?_
  refine mA ⟨by decide +kernel, rfl, rfl⟩ ?_
  refine mA ⟨by decide +kernel, rfl, rfl⟩ ?_
  exact trivial
set_option maxRecDepth 100000 in
set_option maxHeartbeats 4000000 in
theorem okX1_nearestWhole : mAllOk (mMt0 9) tbX1_nearestWhole := by
  rw [mtX1_nearestWhole]
  unfold tbX1_nearestWhole
  refine mA ⟨by decide +kernel, rfl, rfl⟩ ?_
  refine mA ⟨by decide +kernel, rfl, by decide +kernel⟩ ?_
  refine mA ⟨by decide +kernel, rfl⟩ ?_
  refine mA ⟨by decide +kernel, rfl⟩ ?_
  refine mA ⟨by decide +kernel, rfl, rfl⟩ ?_
  refine mA ⟨by decide +kernel, rfl, by decide +kernel⟩ ?_
  refine mA ⟨by decide +kernel, rfl, rfl⟩ ?_
  refine mA ⟨by decide +kernel, rfl⟩ ?_
  refine mA ⟨by decide +kernel, rfl, rfl⟩ ?_
  refine mA ⟨by decide +kernel, rfl⟩ ?_
  refine mA ⟨by decide +kernel, rfl, by decide +kernel⟩ ?_
  refine mA ⟨by decide +kernel, rfl⟩ ?_
  refine mA ⟨by decide +kernel, rfl, rfl⟩ ?_
  refine mA ⟨by decide +kernel, rfl, rfl⟩ ?_
  refine mA ⟨by decide +kernel, rfl, by decide +kernel⟩ ?_
  refine mA ⟨by decide +kernel, rfl, _, rfl, q34⟩ ?_
  refine mA ⟨by decide +kernel, rfl, rfl⟩ ?_
  refine mA ⟨by decide +kernel, rfl, rfl⟩ ?_
  refine mA ⟨by decide +kernel, rfl, by decide +kernel⟩ ?_
  refine mA ⟨by decide +kernel, rfl, by decide +kernel⟩ ?_
  refine mA ⟨by decide +kernel, rfl, by decide +kernel⟩ ?_
  refine mA ⟨by decide +kernel, rfl, rfl⟩ ?_
  refine mA ⟨by decide +kernel, rfl, rfl⟩ ?_
  refine mA ⟨by decide +kernel, rfl, _, rfl, q51⟩ ?_
  refine mA ⟨by decide +kernel, rfl⟩ ?_
  refine mA ⟨by decide +kernel, rfl, _, rfl, q34⟩ ?_
  refine mA ⟨by decide +kernel, rfl⟩ ?_
  refine mA ⟨by decide +kernel, rfl, rfl⟩ ?_
  refine mA ⟨by decide +kernel, rfl, rfl⟩ ?_
  refine mA ⟨by decide +kernel, rfl, _, rfl, q52⟩ ?_
  refine mA ⟨by decide +kernel, rfl⟩ ?_
  refine mA ⟨by decide +kernel, rfl, rfl⟩ ?_
  refine mA ⟨by decide +kernel, rfl, q27, cS6⟩ ?_
  refine mA ⟨by decide +kernel, rfl⟩ ?_
  refine mA ⟨by decide +kernel, rfl, rfl⟩ ?_
  refine mA ⟨by decide +kernel, rfl, rfl⟩ ?_
  refine mA ⟨by decide +kernel, rfl, by decide +kernel⟩ ?_
  refine mA ⟨by decide +kernel, rfl⟩ ?_
  refine mA ⟨by decide +kernel, rfl, rfl⟩ ?_
  refine mA ⟨by decide +kernel, rfl, q27, cS6⟩ ?_
  refine mA ⟨by decide +kernel, rfl⟩ ?_
  refine mA ⟨by decide +kernel, rfl, rfl⟩ ?_
  refine mA ⟨by decide +kernel, rfl, by decide +kernel⟩ ?_
  refine mA ⟨by decide +kernel, rfl⟩ ?_
  refine mA ⟨by decide +kernel, rfl⟩ ?_
  refine mA ⟨by decide +kernel, rfl, rfl⟩ ?_
  refine mA ⟨by decide +kernel, rfl, rfl⟩ ?_
  refine mA ⟨by decide +kernel, rfl, _, rfl, q52⟩ ?_
  refine mA ⟨by decide +kernel, rfl⟩ ?_
  refine mA ⟨by decide +kernel, rfl, rfl⟩ ?_
  refine mA ⟨by decide +kernel, rfl, rfl⟩ ?_
  refine mA ⟨by decide +kernel, rfl, rfl⟩ ?_
  refine mA ⟨by decide +kernel, rfl, rfl⟩ ?_
  refine mA ⟨by decide +kernel, rfl, q53, cS10⟩ ?_
  refine mA ⟨by decide +kernel, rfl, by decide +kernel⟩ ?_
  refine mA ⟨by decide +kernel, rfl⟩ ?_
  refine mA ⟨by decide +kernel, rfl, by decide +kernel⟩ ?_
  refine mA ⟨by decide +kernel, rfl⟩ ?_
  refine mA ⟨by decide +kernel, rfl, rfl⟩ ?_
  exact trivial
set_option maxRecDepth 100000 in
set_option maxHeartbeats 4000000 in
theorem okX1_shiftedRight : mAllOk (mMt0 10) tbX1_shiftedRight := by
  rw [mtX1_shiftedRight]
  unfold tbX1_shiftedRight
  refine mA ⟨by decide +kernel, rfl, rfl⟩ ?_
  refine mA ⟨by decide +kernel, rfl, by decide +kernel⟩ ?_
  refine mA ⟨by decide +kernel, rfl, by decide +kernel⟩ ?_
  refine mA ⟨by decide +kernel, rfl, rfl⟩ ?_
  refine mA ⟨by decide +kernel, rfl, rfl⟩ ?_
  refine mA ⟨by decide +kernel, rfl, by decide +kernel⟩ ?_
  refine mA ⟨by decide +kernel, rfl⟩ ?_
  refine mA ⟨by decide +kernel, rfl⟩ ?_
  refine mA ⟨by decide +kernel, rfl, rfl⟩ ?_
  refine mA ⟨by decide +kernel, rfl, rfl⟩ ?_
  refine mA ⟨by decide +kernel, rfl, by decide +kernel⟩ ?_
  refine mA ⟨by decide +kernel, rfl, rfl⟩ ?_
  refine mA ⟨by decide +kernel, rfl⟩ ?_
  refine mA ⟨by decide +kernel, rfl⟩ ?_
  refine mA ⟨by decide +kernel, rfl, by decide +kernel⟩ ?_
  refine mA ⟨by decide +kernel, rfl⟩ ?_
  refine mA ⟨by decide +kernel, rfl, by decide +kernel⟩ ?_
  refine mA ⟨by decide +kernel, rfl, _, rfl, q56⟩ ?_
  refine mA ⟨by decide +kernel, rfl, rfl⟩ ?_
  refine mA ⟨by decide +kernel, rfl, rfl⟩ ?_
  refine mA ⟨by decide +kernel, rfl, by decide +kernel⟩ ?_
  refine mA ⟨by decide +kernel, rfl, rfl⟩ ?_
  refine mA ⟨by decide +kernel, rfl⟩ ?_
  refine mA ⟨by decide +kernel, rfl⟩ ?_
  refine mA ⟨by decide +kernel, rfl, rfl⟩ ?_
  refine mA ⟨by decide +kernel, rfl, rfl⟩ ?_
  refine mA ⟨by decide +kernel, rfl⟩ ?_
  refine mA ⟨by decide +kernel, rfl⟩ ?_
  refine mA ⟨by decide +kernel, rfl, rfl⟩ ?_
  exact trivial
set_option maxRecDepth 100000 in
set_option maxHeartbeats 4000000 in
theorem okX6_init : mAllOk (mMt0 45) tbX6_init := by
  rw [mtX6_init]
  unfold tbX6_init
  refine mA ⟨by decide +kernel, rfl, rfl⟩ ?_
  refine mA ⟨by decide +kernel, rfl, q271, q1, q2⟩ ?_
  refine mA ⟨by decide +kernel, rfl, rfl⟩ ?_
  refine mA ⟨by decide +kernel, rfl, by decide +kernel⟩ ?_
  refine mA ⟨by decide +kernel, rfl, q8⟩ ?_
  refine mA ⟨by decide +kernel, rfl, RX6, TX6, 5, rfl, by decide +kernel, mIn_wsX60, Or.inl q272, Or.inr ⟨_, rfl⟩, Or.inr ⟨rfl, by decide +kernel, rfl, q272⟩⟩ ?_
  refine mA ⟨by decide +kernel, rfl, rfl⟩ ?_
  refine mA ⟨by decide +kernel, rfl, by decide +kernel⟩ ?_
  refine mA ⟨by decide +kernel, rfl, RX6, TX6, 5, rfl, by decide +kernel, mIn_wsX60, Or.inl q273, rfl, Or.inl rfl⟩ ?_
  refine mA ⟨by decide +kernel, rfl, rfl⟩ ?_
  refine mA ⟨by decide +kernel, rfl, by decide +kernel⟩ ?_
  refine mA ⟨by decide +kernel, rfl, RX6, TX6, 5, rfl, by decide +kernel, mIn_wsX60, Or.inl q274, rfl, Or.inl rfl⟩ ?_
  refine mA ⟨by decide +kernel, rfl, rfl⟩ ?_
  refine mA ⟨by decide +kernel, rfl, by decide +kernel⟩ ?_
  refine mA ⟨by decide +kernel, rfl, RX6, TX6, 5, rfl, by decide +kernel, mIn_wsX60, Or.inl q275, rfl, Or.inl rfl⟩ ?_
  refine mA ⟨by decide +kernel, rfl, rfl⟩ ?_
  refine mA ⟨by decide +kernel, rfl, by decide +kernel⟩ ?_
  refine mA ⟨by decide +kernel, rfl, RX6, TX6, 5, rfl, by decide +kernel, mIn_wsX60, Or.inl q276, rfl, Or.inl rfl⟩ ?_
  refine mA ⟨by decide +kernel, rfl, rfl⟩ ?_
  exact trivial
set_option maxRecDepth 100000 in
set_option maxHeartbeats 4000000 in
theorem okX6_append : mAllOk (mMt0 46) tbX6_append := by
  rw [mtX6_append]
  unfold tbX6_append
  refine mA ⟨by decide +kernel, rfl, rfl⟩ ?_
  refine mA ⟨by decide +kernel, rfl, RX6, TX6, 5, rfl, by decide +kernel, mIn_wsX60, Or.inl q273⟩ ?_
  refine mA ⟨by decide +kernel, rfl, by decide +kernel⟩ ?_
  refine mA ⟨by decide +kernel, rfl, by decide +kernel⟩ ?_
  refine mA ⟨by decide +kernel, rfl, rfl⟩ ?_
  refine mA ⟨by decide +kernel, rfl, RX6, TX6, 5, rfl, by decide +kernel, mIn_wsX60, Or.inl q272⟩ ?_
  refine mA ⟨by decide +kernel, rfl, rfl⟩ ?_
  refine mA ⟨by decide +kernel, rfl, RX6, TX6, 5, rfl, by decide +kernel, mIn_wsX60, Or.inl q273⟩ ?_
  refine mA ⟨by decide +kernel, rfl, rfl⟩ ?_
  refine mA ⟨by decide +kernel, rfl⟩ ?_
  refine mA ⟨by decide +kernel, rfl, rfl⟩ ?_
  refine mA ⟨by decide +kernel, rfl⟩ ?_
  refine mA ⟨by decide +kernel, rfl, RX6, TX6, 5, rfl, by decide +kernel, mIn_wsX60, Or.inl q273⟩ ?_
  refine mA ⟨by decide +kernel, rfl, by decide +kernel⟩ ?_
  refine mA ⟨by decide +kernel, rfl⟩ ?_
  refine mA ⟨by decide +kernel, rfl, RX6, TX6, 5, rfl, by decide +kernel, mIn_wsX60, Or.inl q273, rfl, Or.inl rfl⟩ ?_
  refine mA ⟨by decide +kernel, rfl, rfl⟩ ?_
  exact trivial
set_option maxRecDepth 100000 in
set_option maxHeartbeats 4000000 in
theorem okX6_xorAt : mAllOk (mMt0 47) tbX6_xorAt := by
  rw [mtX6_xorAt]
  unfold tbX6_xorAt
  refine mA ⟨by decide +kernel, rfl, rfl⟩ ?_
  refine mA ⟨by decide +kernel, rfl, by decide +kernel⟩ ?_
  refine mA ⟨by decide +kernel, rfl, rfl⟩ ?_
  refine mA ⟨by decide +kernel, rfl, rfl⟩ ?_
  refine mA ⟨by decide +kernel, rfl, RX6, TX6, 5, rfl, by decide +kernel, mIn_wsX60, Or.inl q273⟩ ?_
  refine mA ⟨by decide +kernel, rfl, by decide +kernel⟩ ?_
  refine mA ⟨by decide +kernel, rfl, rfl⟩ ?_
  refine mA ⟨by decide +kernel, rfl, RX6, TX6, 5, rfl, by decide +kernel, mIn_wsX60, Or.inl q272⟩ ?_
  refine mA ⟨by decide +kernel, rfl, rfl⟩ ?_
  refine mA ⟨by decide +kernel, rfl⟩ ?_
  refine mA ⟨by decide +kernel, rfl⟩ ?_
  refine mA ⟨by decide +kernel, rfl, rfl⟩ ?_
  refine mA ⟨by decide +kernel, rfl⟩ ?_
  refine mA ⟨by decide +kernel, rfl⟩ ?_
  refine mA ⟨by decide +kernel, rfl, rfl⟩ ?_
  exact trivial
set_option maxRecDepth 100000 in
set_option maxHeartbeats 4000000 in
theorem okX6_rewind : mAllOk (mMt0 48) tbX6_rewind := by
  rw [mtX6_rewind]
  unfold tbX6_rewind
  refine mA ⟨by decide +kernel, rfl, rfl⟩ ?_
  refine mA ⟨by decide +kernel, rfl, by decide +kernel⟩ ?_
  refine mA ⟨by decide +kernel, rfl, RX6, TX6, 5, rfl, by decide +kernel, mIn_wsX60, Or.inl q274, rfl, Or.inl rfl⟩ ?_
  refine mA ⟨by decide +kernel, rfl, rfl⟩ ?_
  refine mA ⟨by decide +kernel, rfl, by decide +kernel⟩ ?_
  refine mA ⟨by decide +kernel, rfl, RX6, TX6, 5, rfl, by decide +kernel, mIn_wsX60, Or.inl q275, rfl, Or.inl rfl⟩ ?_
  refine mA ⟨by decide +kernel, rfl, rfl⟩ ?_
  refine mA ⟨by decide +kernel, rfl, by decide +kernel⟩ ?_
  refine mA ⟨by decide +kernel, rfl, RX6, TX6, 5, rfl, by decide +kernel, mIn_wsX60, Or.inl q276, rfl, Or.inl rfl⟩ ?_
  refine mA ⟨by decide +kernel, rfl, rfl⟩ ?_
  exact trivial
set_option maxRecDepth 100000 in
set_option maxHeartbeats 4000000 in
theorem okX6_isSound : mAllOk (mMt0 49) tbX6_isSound := by
  rw [mtX6_isSound]
  unfold tbX6_isSound
  refine mA ⟨by decide +kernel, rfl, rfl⟩ ?_
  refine mA ⟨by decide +kernel, rfl, RX6, TX6, 5, rfl, by decide +kernel, mIn_wsX60, Or.inl q275⟩ ?_
  refine mA ⟨by decide +kernel, rfl, by decide +kernel⟩ ?_
  refine mA ⟨by decide +kernel, rfl, by decide +kernel⟩ ?_
  refine mA ⟨by decide +kernel, rfl, by decide +kernel⟩ ?_
  refine mA ⟨by decide +kernel, rfl, by decide +kernel⟩ ?_
  refine mA ⟨by decide +kernel, rfl, rfl⟩ ?_
  exact trivial
set_option maxRecDepth 100000 in
set_option maxHeartbeats 4000000 in
theorem okX6_fail : mAllOk (mMt0 50) tbX6_fail := by
  rw [mtX6_fail]
  unfold tbX6_fail
  refine mA ⟨by decide +kernel, rfl, rfl⟩ ?_
  refine mA ⟨by decide +kernel, rfl, RX6, TX6, 5, rfl, by decide +kernel, mIn_wsX60, Or.inl q275⟩ ?_
  refine mA ⟨by decide +kernel, rfl, by decide +kernel⟩ ?_
  refine mA ⟨by decide +kernel, rfl, rfl⟩ ?_
  refine mA ⟨by decide +kernel, rfl, rfl⟩ ?_
  refine mA ⟨by decide +kernel, rfl, RX6, TX6, 5, rfl, by decide +kernel, mIn_wsX60, Or.inl q275, rfl, Or.inl rfl⟩ ?_
  refine mA ⟨by decide +kernel, rfl, rfl⟩ ?_
  refine mA ⟨by decide +kernel, rfl, rfl⟩ ?_
  refine mA ⟨by decide +kernel, rfl, RX6, TX6, 5, rfl, by decide +kernel, mIn_wsX60, Or.inl q276, rfl, Or.inl rfl⟩ ?_
  refine mA ⟨by decide +kernel, rfl, rfl⟩ ?_
  exact trivial
set_option maxRecDepth 100000 in
set_option maxHeartbeats 4000000 in
theorem okX6_take : mAllOk (mMt0 51) tbX6_take := by
  rw [mtX6_take]
  unfold tbX6_take
  refine mA ⟨by decide +kernel, rfl, rfl⟩ ?_
  refine mA ⟨by decide +kernel, rfl, RX6, TX6, 5, rfl, by decide +kernel, mIn_wsX60, Or.inl q275⟩ ?_
  refine mA ⟨by decide +kernel, rfl, by decide +kernel⟩ ?_
  refine mA ⟨by decide +kernel, rfl, by decide +kernel⟩ ?_
  refine mA ⟨by decide +kernel, rfl, rfl⟩ ?_
  refine mA ⟨by decide +kernel, rfl, rfl⟩ ?_
  refine mA ⟨by decide +kernel, rfl, by decide +kernel⟩ ?_
  refine mA ⟨by decide +kernel, rfl, rfl⟩ ?_
  refine mA ⟨by decide +kernel, rfl, RX6, TX6, 5, rfl, by decide +kernel, mIn_wsX60, Or.inl q273⟩ ?_
  refine mA ⟨by decide +kernel, rfl⟩ ?_
  refine mA ⟨by decide +kernel, rfl, rfl⟩ ?_
  refine mA ⟨by decide +kernel, rfl, RX6, TX6, 5, rfl, by decide +kernel, mIn_wsX60, Or.inl q274⟩ ?_
  refine mA ⟨by decide +kernel, rfl⟩ ?_
  refine mA ⟨by decide +kernel, rfl, by decide +kernel⟩ ?_
  refine mA ⟨by decide +kernel, rfl, rfl⟩ ?_
  refine mA ⟨by decide +kernel, rfl, by decide +kernel⟩ ?_
  refine mA ⟨by decide +kernel, rfl, RX6, TX6, 5, rfl, by decide +kernel, mIn_wsX60, Or.inl q275, rfl, Or.inl rfl⟩ ?_
  refine mA ⟨by decide +kernel, rfl, rfl⟩ ?_
  refine mA ⟨by decide +kernel, rfl, by decide +kernel⟩ ?_
  refine mA ⟨by decide +kernel, rfl, rfl⟩ ?_
  refine mA ⟨by decide +kernel, rfl, RX6, TX6, 5, rfl, by decide +kernel, mIn_wsX60, Or.inl q273⟩ ?_
  refine mA ⟨by decide +kernel, rfl⟩ ?_
  refine mA ⟨by decide +kernel, rfl, RX6, TX6, 5, rfl, by decide +kernel, mIn_wsX60, Or.inl q276, rfl, Or.inl rfl⟩ ?_
  refine mA ⟨by decide +kernel, rfl, by decide +kernel⟩ ?_
  refine mA ⟨by decide +kernel, rfl, rfl⟩ ?_
  refine mA ⟨by decide +kernel, rfl, by decide +kernel⟩ ?_
  refine mA ⟨by decide +kernel, rfl, rfl⟩ ?_
  refine mA ⟨by decide +kernel, rfl, by decide +kernel⟩ ?_
  refine mA ⟨by decide +kernel, rfl, rfl⟩ ?_
  refine mA ⟨by decide +kernel, rfl, rfl⟩ ?_
  refine mA ⟨by decide +kernel, rfl, rfl⟩ ?_
  refine mA ⟨by decide +kernel, rfl, by decide +kernel⟩ ?_
  refine mA ⟨by decide +kernel, rfl, rfl⟩ ?_
  refine mA ⟨by decide +kernel, rfl, RX6, TX6, 5, rfl, by decide +kernel, mIn_wsX60, Or.inl q274⟩ ?_
  refine mA ⟨by decide +kernel, rfl, by decide +kernel⟩ ?_
  refine mA ⟨by decide +kernel, rfl, rfl⟩ ?_
  refine mA ⟨by decide +kernel, rfl, RX6, TX6, 5, rfl, by decide +kernel, mIn_wsX60, Or.inl q273⟩ ?_
  refine mA ⟨by decide +kernel, rfl⟩ ?_
  refine mA ⟨by decide +kernel, rfl, by decide +kernel⟩ ?_
  refine mA ⟨by decide +kernel, rfl, rfl⟩ ?_
  refine mA ⟨by decide +kernel, rfl, RX6, TX6, 5, rfl, by decide +kernel, mIn_wsX60, Or.inl q272⟩ ?_
  refine mA ⟨by decide +kernel, rfl, rfl⟩ ?_
  refine mA ⟨by decide +kernel, rfl, RX6, TX6, 5, rfl, by decide +kernel, mIn_wsX60, Or.inl q274⟩ ?_
  refine mA ⟨by decide +kernel, rfl, by decide +kernel⟩ ?_
  refine mA ⟨by decide +kernel, rfl⟩ ?_
  refine mA ⟨by decide +kernel, rfl⟩ ?_
  refine mA ⟨by decide +kernel, rfl, by decide +kernel⟩ ?_
  refine mA ⟨by decide +kernel, rfl, rfl⟩ ?_
  refine mA ⟨by decide +kernel, rfl, RX6, TX6, 5, rfl, by decide +kernel, mIn_wsX60, Or.inl q274⟩ ?_
  refine mA ⟨by decide +kernel, rfl, by decide +kernel⟩ ?_
  refine mA ⟨by decide +kernel, rfl⟩ ?_
  refine mA ⟨by decide +kernel, rfl⟩ ?_
  refine mA ⟨by decide +kernel, rfl⟩ ?_
  refine mA ⟨by decide +kernel, rfl, by decide +kernel⟩ ?_
  refine mA ⟨by decide +kernel, rfl⟩ ?_
  refine mA ⟨by decide +kernel, rfl, rfl⟩ ?_
  refine mA ⟨by decide +kernel, rfl, rfl⟩ ?_
  refine mA ⟨by decide +kernel, rfl, by decide +kernel⟩ ?_
  refine mA ⟨by decide +kernel, rfl⟩ ?_
  refine mA ⟨by decide +kernel, rfl, rfl⟩ ?_
  refine mA ⟨by decide +kernel, rfl⟩ ?_
  refine mA ⟨by decide +kernel, rfl⟩ ?_
  refine mA ⟨by decide +kernel, rfl, rfl⟩ ?_
  refine mA ⟨by decide +kernel, rfl, rfl⟩ ?_
  refine mA ⟨by decide +kernel, rfl⟩ ?_
  refine mA ⟨by decide +kernel, rfl, RX6, TX6, 5, rfl, by decide +kernel, mIn_wsX60, Or.inl q274⟩ ?_
  refine mA ⟨by decide +kernel, rfl, by decide +kernel⟩ ?_
  refine mA ⟨by decide +kernel, rfl⟩ ?_
  refine mA ⟨by decide +kernel, rfl, RX6, TX6, 5, rfl, by decide +kernel, mIn_wsX60, Or.inl q274, rfl, Or.inl rfl⟩ ?_
  refine mA ⟨by decide +kernel, rfl, rfl, by decide +kernel⟩ ?_
  refine mA ⟨by decide +kernel, rfl, by decide +kernel⟩ ?_
  refine mA ⟨by decide +kernel, rfl, rfl⟩ ?_
  refine mA ⟨by decide +kernel, rfl, rfl⟩ ?_
  exact trivial
set_option maxRecDepth 100000 in
set_option maxHeartbeats 4000000 in
theorem okX7_init : mAllOk (mMt0 52) tbX7_init := by
  rw [mtX7_init]
  unfold tbX7_init
  refine mA ⟨by decide +kernel, rfl, rfl⟩ ?_
  refine mA ⟨by decide +kernel, rfl, q277, q1, q2⟩ ?_
  refine mA ⟨by decide +kernel, rfl, rfl⟩ ?_
  refine mA ⟨by decide +kernel, rfl, by decide +kernel⟩ ?_
  refine mA ⟨by decide +kernel, rfl, RX7, TX7, 2, rfl, by decide +kernel, mIn_wsX70, Or.inl q278, rfl, Or.inl rfl⟩ ?_
  refine mA ⟨by decide +kernel, rfl, rfl⟩ ?_
  refine mA ⟨by decide +kernel, rfl, by decide +kernel⟩ ?_
  refine mA ⟨by decide +kernel, rfl, RX7, TX7, 2, rfl, by decide +kernel, mIn_wsX70, Or.inl q279, rfl, Or.inl rfl⟩ ?_
  refine mA ⟨by decide +kernel, rfl, rfl⟩ ?_
  exact trivial
set_option maxRecDepth 100000 in
set_option maxHeartbeats 4000000 in
theorem okX7_shut : mAllOk (mMt0 53) tbX7_shut := by
  rw [mtX7_shut]
  unfold tbX7_shut
  refine mA ⟨by decide +kernel, rfl, rfl⟩ ?_
  refine mA ⟨by decide +kernel, rfl, by decide +kernel⟩ ?_
  refine mA ⟨by decide +kernel, rfl, RX7, TX7, 2, rfl, by decide +kernel, mIn_wsX70, Or.inl q278, rfl, Or.inl rfl⟩ ?_
  refine mA ⟨by decide +kernel, rfl, rfl⟩ ?_
  refine mA ⟨by decide +kernel, rfl, by decide +kernel⟩ ?_
  refine mA ⟨by decide +kernel, rfl, RX7, TX7, 2, rfl, by decide +kernel, mIn_wsX70, Or.inl q279, rfl, Or.inl rfl⟩ ?_
  refine mA ⟨by decide +kernel, rfl, rfl⟩ ?_
  exact trivial
set_option maxRecDepth 100000 in
set_option maxHeartbeats 4000000 in
theorem okX7_moveTo : mAllOk (mMt0 54) tbX7_moveTo := by
  rw [mtX7_moveTo]
  unfold tbX7_moveTo
  refine mA ⟨by decide +kernel, rfl, rfl⟩ ?_
  refine mA ⟨by decide +kernel, rfl, rfl⟩ ?_
  refine mA ⟨by decide +kernel, rfl, RX7, TX7, 2, rfl, by decide +kernel, mIn_wsX70, Or.inl q278, rfl, Or.inl rfl⟩ ?_
  refine mA ⟨by decide +kernel, rfl, rfl⟩ ?_
  refine mA ⟨by decide +kernel, rfl, rfl⟩ ?_
  refine mA ⟨by decide +kernel, rfl, RX7, TX7, 2, rfl, by decide +kernel, mIn_wsX70, Or.inl q279, rfl, Or.inl rfl⟩ ?_
  refine mA ⟨by decide +kernel, rfl, rfl⟩ ?_
  exact trivial
set_option maxRecDepth 100000 in
set_option maxHeartbeats 4000000 in
theorem okX7_isThere : mAllOk (mMt0 55) tbX7_isThere := by
  rw [mtX7_isThere]
  unfold tbX7_isThere
  refine mA ⟨by decide +kernel, rfl, rfl⟩ ?_
  refine mA ⟨by decide +kernel, rfl, RX7, TX7, 2, rfl, by decide +kernel, mIn_wsX70, Or.inl q279⟩ ?_
  refine mA ⟨by decide +kernel, rfl, by decide +kernel⟩ ?_
  refine mA ⟨by decide +kernel, rfl, by decide +kernel⟩ ?_
  refine mA ⟨by decide +kernel, rfl, by decide +kernel⟩ ?_
  refine mA ⟨by decide +kernel, rfl, by decide +kernel⟩ ?_
  refine mA ⟨by decide +kernel, rfl, rfl⟩ ?_
  exact trivial
set_option maxRecDepth 100000 in
set_option maxHeartbeats 4000000 in
theorem okX7_behind : mAllOk (mMt0 56) tbX7_behind := by
  rw [mtX7_behind]
  unfold tbX7_behind
  refine mA ⟨by decide +kernel, rfl, by decide +kernel⟩ ?_
  refine mA ⟨by decide +kernel, rfl, rfl⟩ ?_
  refine mA ⟨by decide +kernel, rfl, RX7, TX7, 2, rfl, by decide +kernel, mIn_wsX70, Or.inl q278⟩ ?_
  refine mA ⟨by decide +kernel, rfl⟩ ?_
  refine mA ⟨by decide +kernel, rfl, rfl⟩ ?_
  refine mA ⟨by decide +kernel, rfl, RX7, TX7, 2, rfl, by decide +kernel, mIn_wsX70, Or.inl q279⟩ ?_
  refine mA ⟨by decide +kernel, rfl⟩ ?_
  refine mA ⟨by decide +kernel, rfl, rfl⟩ ?_
  exact trivial
set_option maxRecDepth 100000 in
set_option maxHeartbeats 4000000 in
theorem okX7_covers : mAllOk (mMt0 57) tbX7_covers := by
  rw [mtX7_covers]
  unfold tbX7_covers
  refine mA ⟨by decide +kernel, rfl, rfl⟩ ?_
  refine mA ⟨by decide +kernel, rfl, rfl, ⟨TX7, 2, rfl⟩, q280, cV55⟩ ?_
  refine mA ⟨by decide +kernel, rfl, by decide +kernel⟩ ?_
  refine mA ⟨by decide +kernel, rfl, rfl⟩ ?_
  refine mA ⟨by decide +kernel, rfl, rfl⟩ ?_
  refine mA ⟨by decide +kernel, rfl, RX7, TX7, 2, rfl, by decide +kernel, mIn_wsX70, Or.inl q278⟩ ?_
  refine mA ⟨by decide +kernel, rfl, by decide +kernel⟩ ?_
  refine mA ⟨by decide +kernel, rfl, rfl⟩ ?_
  refine mA ⟨by decide +kernel, rfl, rfl⟩ ?_
  refine mA ⟨by decide +kernel, rfl, rfl, ⟨TX7, 2, rfl⟩, q281, cV56⟩ ?_
  refine mA ⟨by decide +kernel, rfl, by decide +kernel⟩ ?_
  refine mA ⟨by decide +kernel, rfl, by decide +kernel⟩ ?_
  refine mA ⟨by decide +kernel, rfl, by decide +kernel⟩ ?_
  refine mA ⟨by decide +kernel, rfl, by decide +kernel⟩ ?_
  refine mA ⟨by decide +kernel, rfl, rfl⟩ ?_
  exact trivial
