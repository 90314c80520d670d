set_option maxRecDepth 100000 in
set_option maxHeartbeats 4000000 in
theorem okX8_init : mAllOk (mMt0 58) tbX8_init := by
  rw [mtX8_init]
  unfold tbX8_init
  refine mA ⟨by decide +kernel, rfl, rfl⟩ ?_
  refine mA ⟨by decide +kernel, rfl, q282, q1, q2⟩ ?_
  refine mA ⟨by decide +kernel, rfl, rfl⟩ ?_
  refine mA ⟨by decide +kernel, rfl, RX5, TX5, 8, rfl, rfl, by decide +kernel, mIn_wsX50, q283, q284, q67⟩ ?_
  refine mA ⟨by decide +kernel, rfl⟩ ?_
  refine mA ⟨by decide +kernel, rfl, rfl, rfl, Or.inr (by decide +kernel), cI39⟩ ?_
  refine mA ⟨by decide +kernel, rfl, RX8, TX8, 5, rfl, by decide +kernel, mIn_wsX80, Or.inl q287, Or.inl ⟨_, rfl⟩, Or.inl rfl⟩ ?_
  refine mA ⟨by decide +kernel, rfl, rfl⟩ ?_
  refine mA ⟨by decide +kernel, rfl, RX5, TX5, 8, rfl, rfl, by decide +kernel, mIn_wsX50, q283, q284, q67⟩ ?_
  refine mA ⟨by decide +kernel, rfl⟩ ?_
  refine mA ⟨by decide +kernel, rfl, rfl, rfl, Or.inr (by decide +kernel), cI39⟩ ?_
  refine mA ⟨by decide +kernel, rfl, RX8, TX8, 5, rfl, by decide +kernel, mIn_wsX80, Or.inl q288, Or.inl ⟨_, rfl⟩, Or.inl rfl⟩ ?_
  refine mA ⟨by decide +kernel, rfl, rfl⟩ ?_
  refine mA ⟨by decide +kernel, rfl, RX4, TX4, 6, rfl, rfl, by decide +kernel, mIn_wsX40, q289, q290, q291⟩ ?_
  refine mA ⟨by decide +kernel, rfl⟩ ?_
  refine mA ⟨by decide +kernel, rfl, rfl, rfl, Or.inr (by decide +kernel), cI34⟩ ?_
  refine mA ⟨by decide +kernel, rfl, RX8, TX8, 5, rfl, by decide +kernel, mIn_wsX80, Or.inl q294, Or.inl ⟨_, rfl⟩, Or.inr ⟨rfl, by decide +kernel, rfl, q294⟩⟩ ?_
  refine mA ⟨by decide +kernel, rfl, rfl⟩ ?_
  refine mA ⟨by decide +kernel, rfl, RX6, TX6, 5, rfl, rfl, by decide +kernel, mIn_wsX60, q295, q296, q72⟩ ?_
  refine mA ⟨by decide +kernel, rfl⟩ ?_
  refine mA ⟨by decide +kernel, rfl, rfl, rfl, Or.inr (by decide +kernel), cI45⟩ ?_
  refine mA ⟨by decide +kernel, rfl, RX8, TX8, 5, rfl, by decide +kernel, mIn_wsX80, Or.inl q299, Or.inl ⟨_, rfl⟩, Or.inr ⟨rfl, by decide +kernel, rfl, q299⟩⟩ ?_
  refine mA ⟨by decide +kernel, rfl, rfl⟩ ?_
  refine mA ⟨by decide +kernel, rfl, RX2, TX2, 2, rfl, rfl, by decide +kernel, mIn_wsX20, q300, q301, q86⟩ ?_
  refine mA ⟨by decide +kernel, rfl⟩ ?_
  refine mA ⟨by decide +kernel, rfl, rfl, rfl, Or.inr (by decide +kernel), cI11⟩ ?_
  refine mA ⟨by decide +kernel, rfl, RX8, TX8, 5, rfl, by decide +kernel, mIn_wsX80, Or.inl q304, Or.inl ⟨_, rfl⟩, Or.inr ⟨rfl, by decide +kernel, rfl, q304⟩⟩ ?_
  refine mA ⟨by decide +kernel, rfl, rfl⟩ ?_
  exact trivial
set_option maxRecDepth 100000 in
set_option maxHeartbeats 4000000 in
theorem okX8_add : mAllOk (mMt0 59) tbX8_add := by
  rw [mtX8_add]
  unfold tbX8_add
  refine mA ⟨by decide +kernel, rfl, rfl⟩ ?_
  refine mA ⟨by decide +kernel, rfl, rfl, ⟨TX8, 5, rfl⟩, q305, cV81⟩ ?_
  refine mA ⟨by decide +kernel, rfl, rfl⟩ ?_
  refine mA ⟨by decide +kernel, rfl, RX8, TX8, 5, rfl, by decide +kernel, mIn_wsX80, Or.inl q287⟩ ?_
  refine mA ⟨by decide +kernel, rfl, rfl⟩ ?_
  refine mA ⟨by decide +kernel, rfl, rfl, ⟨TX5, 8, rfl⟩, q309, cV41⟩ ?_
  refine mA ⟨by decide +kernel, rfl, rfl⟩ ?_
  refine mA ⟨by decide +kernel, rfl, RX8, TX8, 5, rfl, by decide +kernel, mIn_wsX80, Or.inl q287⟩ ?_
  refine mA ⟨by decide +kernel, rfl, RX5, TX5, 8, rfl, by decide +kernel, mIn_wsX50, Or.inr (by decide +kernel)⟩ ?_
  refine mA ⟨by decide +kernel, rfl, rfl⟩ ?_
  exact trivial
set_option maxRecDepth 100000 in
set_option maxHeartbeats 4000000 in
theorem okX8_decimal : mAllOk (mMt0 60) tbX8_decimal := by
  rw [mtX8_decimal]
  unfold tbX8_decimal
  refine mA ⟨by decide +kernel, rfl, rfl⟩ ?_
  refine mA ⟨by decide +kernel, rfl, q310, cS82⟩ ?_
  refine mA ⟨by decide +kernel, rfl, rfl⟩ ?_
  refine mA ⟨by decide +kernel, rfl, rfl, ⟨TX8, 5, rfl⟩, q305, cV81⟩ ?_
  refine mA ⟨by decide +kernel, rfl, rfl⟩ ?_
  refine mA ⟨by decide +kernel, rfl, RX8, TX8, 5, rfl, by decide +kernel, mIn_wsX80, Or.inl q287⟩ ?_
  refine mA ⟨by decide +kernel, rfl, rfl⟩ ?_
  refine mA ⟨by decide +kernel, rfl⟩ ?_
  refine mA ⟨by decide +kernel, rfl, rfl⟩ ?_
  refine mA ⟨by decide +kernel, rfl, q313, cS7⟩ ?_
  refine mA ⟨by decide +kernel, rfl, rfl, ⟨TX5, 8, rfl⟩, q309, cV41⟩ ?_
  refine mA ⟨by decide +kernel, rfl, rfl⟩ ?_
  refine mA ⟨by decide +kernel, rfl, RX8, TX8, 5, rfl, by decide +kernel, mIn_wsX80, Or.inl q287⟩ ?_
  refine mA ⟨by decide +kernel, rfl, RX5, TX5, 8, rfl, by decide +kernel, mIn_wsX50, Or.inr (by decide +kernel)⟩ ?_
  refine mA ⟨by decide +kernel, rfl, rfl⟩ ?_
  exact trivial
set_option maxRecDepth 100000 in
set_option maxHeartbeats 4000000 in
theorem okX8_count : mAllOk (mMt0 61) tbX8_count := by
  rw [mtX8_count]
  unfold tbX8_count
  refine mA ⟨by decide +kernel, rfl, rfl⟩ ?_
  refine mA ⟨by decide +kernel, rfl, RX8, TX8, 5, rfl, by decide +kernel, mIn_wsX80, Or.inl q287⟩ ?_
  refine mA ⟨by decide +kernel, rfl, RX5, TX5, 8, rfl, by decide +kernel, mIn_wsX50, Or.inr (by decide +kernel)⟩ ?_
  refine mA ⟨by decide +kernel, rfl, rfl⟩ ?_
  exact trivial
set_option maxRecDepth 100000 in
set_option maxHeartbeats 4000000 in
theorem okX8_clear : mAllOk (mMt0 62) tbX8_clear := by
  rw [mtX8_clear]
  unfold tbX8_clear
  refine mA ⟨by decide +kernel, rfl, rfl⟩ ?_
  refine mA ⟨by decide +kernel, rfl, RX8, TX8, 5, rfl, by decide +kernel, mIn_wsX80, Or.inl q287⟩ ?_
  refine mA ⟨by decide +kernel, rfl, RX5, TX5, 8, rfl, by decide +kernel, mIn_wsX50, Or.inr (by decide +kernel)⟩ ?_
  refine mA ⟨by decide +kernel, rfl, rfl⟩ ?_
  refine mA ⟨by decide +kernel, rfl, rfl⟩ ?_
  refine mA ⟨by decide +kernel, rfl, RX8, TX8, 5, rfl, by decide +kernel, mIn_wsX80, Or.inl q287⟩ ?_
  refine mA ⟨by decide +kernel, rfl, rfl, ⟨TX5, 8, rfl⟩, q314, cV40⟩ ?_
  refine mA ⟨by decide +kernel, rfl, rfl⟩ ?_
  refine mA ⟨by decide +kernel, rfl, rfl⟩ ?_
  exact trivial
set_option maxRecDepth 100000 in
set_option maxHeartbeats 4000000 in
theorem okX8_value : mAllOk (mMt0 63) tbX8_value := by
  rw [mtX8_value]
  unfold tbX8_value
  refine mA ⟨by decide +kernel, rfl, rfl⟩ ?_
  refine mA ⟨by decide +kernel, rfl, rfl⟩ ?_
  refine mA ⟨by decide +kernel, rfl, RX8, TX8, 5, rfl, by decide +kernel, mIn_wsX80, Or.inl q287⟩ ?_
  refine mA ⟨by decide +kernel, rfl, RX5, TX5, 8, rfl, by decide +kernel, mIn_wsX50, Or.inr (by decide +kernel)⟩ ?_
  refine mA ⟨by decide +kernel, rfl, q315, cS83⟩ ?_
  refine mA ⟨by decide +kernel, rfl, rfl⟩ ?_
  refine mA ⟨by decide +kernel, rfl, RX8, TX8, 5, rfl, by decide +kernel, mIn_wsX80, Or.inl q287⟩ ?_
  refine mA ⟨by decide +kernel, rfl, rfl⟩ ?_
  refine mA ⟨by decide +kernel, rfl, rfl, ⟨TX5, 8, rfl⟩, q318, cV43⟩ ?_
  refine mA ⟨by decide +kernel, rfl, rfl⟩ ?_
  exact trivial
set_option maxRecDepth 100000 in
set_option maxHeartbeats 4000000 in
theorem okX8_turned : mAllOk (mMt0 64) tbX8_turned := by
  rw [mtX8_turned]
  unfold tbX8_turned
  refine mA ⟨by decide +kernel, rfl, rfl⟩ ?_
  refine mA ⟨by decide +kernel, rfl, rfl⟩ ?_
  refine mA ⟨by decide +kernel, rfl, RX8, TX8, 5, rfl, by decide +kernel, mIn_wsX80, Or.inl q287⟩ ?_
  refine mA ⟨by decide +kernel, rfl, RX5, TX5, 8, rfl, by decide +kernel, mIn_wsX50, Or.inr (by decide +kernel)⟩ ?_
  refine mA ⟨by decide +kernel, rfl, q315, cS83⟩ ?_
  refine mA ⟨by decide +kernel, rfl, rfl⟩ ?_
  refine mA ⟨by decide +kernel, rfl, RX8, TX8, 5, rfl, by decide +kernel, mIn_wsX80, Or.inl q287⟩ ?_
  refine mA ⟨by decide +kernel, rfl, rfl⟩ ?_
  refine mA ⟨by decide +kernel, rfl, rfl, ⟨TX5, 8, rfl⟩, q318, cV43⟩ ?_
  refine mA ⟨by decide +kernel, rfl, q319, cS84⟩ ?_
  refine mA ⟨by decide +kernel, rfl, rfl⟩ ?_
  exact trivial
set_option maxRecDepth 100000 in
set_option maxHeartbeats 4000000 in
theorem okX8_rank : mAllOk (mMt0 65) tbX8_rank := by
  rw [mtX8_rank]
  unfold tbX8_rank
  refine mA ⟨by decide +kernel, rfl, rfl⟩ ?_
  refine mA ⟨by decide +kernel, rfl, rfl⟩ ?_
  refine mA ⟨by decide +kernel, rfl, RX8, TX8, 5, rfl, by decide +kernel, mIn_wsX80, Or.inl q287⟩ ?_
  refine mA ⟨by decide +kernel, rfl, RX5, TX5, 8, rfl, by decide +kernel, mIn_wsX50, Or.inr (by decide +kernel)⟩ ?_
  refine mA ⟨by decide +kernel, rfl, q315, cS83⟩ ?_
  refine mA ⟨by decide +kernel, rfl, rfl⟩ ?_
  refine mA ⟨by decide +kernel, rfl, RX8, TX8, 5, rfl, by decide +kernel, mIn_wsX80, Or.inl q287⟩ ?_
  refine mA ⟨by decide +kernel, rfl, rfl⟩ ?_
  refine mA ⟨by decide +kernel, rfl, rfl, ⟨TX5, 8, rfl⟩, q318, cV43⟩ ?_
  refine mA ⟨by decide +kernel, rfl, q319, cS84⟩ ?_
  refine mA ⟨by decide +kernel, rfl, rfl⟩ ?_
  refine mA ⟨by decide +kernel, rfl, by decide +kernel⟩ ?_
  refine mA ⟨by decide +kernel, rfl, rfl⟩ ?_
  refine mA ⟨by decide +kernel, rfl, by decide +kernel⟩ ?_
  refine mA ⟨by decide +kernel, rfl, rfl⟩ ?_
  refine mA ⟨by decide +kernel, rfl, rfl⟩ ?_
  refine mA ⟨by decide +kernel, rfl, rfl⟩ ?_
  refine mA ⟨by decide +kernel, rfl, RX8, TX8, 5, rfl, by decide +kernel, mIn_wsX80, Or.inl q287⟩ ?_
  refine mA ⟨by decide +kernel, rfl, RX5, TX5, 8, rfl, by decide +kernel, mIn_wsX50, Or.inr (by decide +kernel)⟩ ?_
  refine mA ⟨by decide +kernel, rfl, by decide +kernel⟩ ?_
  refine mA ⟨by decide +kernel, rfl, rfl⟩ ?_
  refine mA ⟨by decide +kernel, rfl, RX8, TX8, 5, rfl, by decide +kernel, mIn_wsX80, Or.inl q287⟩ ?_
  refine mA ⟨by decide +kernel, rfl, rfl⟩ ?_
  refine mA ⟨by decide +kernel, rfl, rfl, ⟨TX5, 8, rfl⟩, q318, cV43⟩ ?_
  refine mA ⟨by decide +kernel, rfl, q319, cS84⟩ ?_
  refine mA ⟨by decide +kernel, rfl, rfl⟩ ?_
  refine mA ⟨by decide +kernel, rfl⟩ ?_
  refine mA ⟨by decide +kernel, rfl, by decide +kernel⟩ ?_
  refine mA ⟨by decide +kernel, rfl, rfl, by decide +kernel⟩ ?_
  refine mA ⟨by decide +kernel, rfl, rfl, by decide +kernel⟩ ?_
  refine mA ⟨by decide +kernel, rfl, by decide +kernel⟩ ?_
  refine mA ⟨by decide +kernel, rfl, rfl⟩ ?_
  refine mA ⟨by decide +kernel, rfl, rfl⟩ ?_
  exact trivial
set_option maxRecDepth 100000 in
set_option maxHeartbeats 4000000 in
theorem okX8_foretold : mAllOk (mMt0 66) tbX8_foretold := by
  rw [mtX8_foretold]
  unfold tbX8_foretold
  refine mA ⟨by decide +kernel, rfl, rfl⟩ ?_
  refine mA ⟨by decide +kernel, rfl, rfl⟩ ?_
  refine mA ⟨by decide +kernel, rfl, RX8, TX8, 5, rfl, by decide +kernel, mIn_wsX80, Or.inl q287⟩ ?_
  refine mA ⟨by decide +kernel, rfl, RX5, TX5, 8, rfl, by decide +kernel, mIn_wsX50, Or.inr (by decide +kernel)⟩ ?_
  refine mA ⟨by decide +kernel, rfl, by decide +kernel⟩ ?_
  refine mA ⟨by decide +kernel, rfl⟩ ?_
  refine mA ⟨by decide +kernel, rfl, q315, cS83⟩ ?_
  refine mA ⟨by decide +kernel, rfl, rfl⟩ ?_
  refine mA ⟨by decide +kernel, rfl, by decide +kernel⟩ ?_
  refine mA ⟨by decide +kernel, rfl, by decide +kernel⟩ ?_
  refine mA ⟨by decide +kernel, rfl, rfl⟩ ?_
  refine mA ⟨by decide +kernel, rfl, by decide +kernel⟩ ?_
  refine mA ⟨by decide +kernel, rfl, by decide +kernel⟩ ?_
  refine mA ⟨by decide +kernel, by decide +kernel, 78, 80, by decide +kernel, rfl, by decide +kernel, by decide +kernel, by decide +kernel, by decide +kernel, rfl, q320, q321, xF1, xN1, xO1⟩ ?_
  refine mA ⟨by decide +kernel, rfl⟩ ?_
  refine mA ⟨by decide +kernel, rfl, rfl⟩ ?_
  refine mA ⟨by decide +kernel, rfl, by decide +kernel⟩ ?_
  refine mA ⟨by decide +kernel, rfl, by decide +kernel⟩ ?_
  refine mA ⟨by decide +kernel, rfl, rfl⟩ ?_
  refine mA ⟨by decide +kernel, rfl, by decide +kernel⟩ ?_
  refine mA ⟨by decide +kernel, rfl, by decide +kernel⟩ ?_
  refine mA ⟨by decide +kernel, rfl, rfl⟩ ?_
  refine mA ⟨by decide +kernel, rfl, by decide +kernel⟩ ?_
  refine mA ⟨by decide +kernel, rfl, by decide +kernel⟩ ?_
  refine mA ⟨by decide +kernel, by decide +kernel, 83, 80, by decide +kernel, rfl, by decide +kernel, by decide +kernel, by decide +kernel, by decide +kernel, rfl, q320, q321, xF1, xN1, xO1⟩ ?_
  refine mA ⟨by decide +kernel, rfl⟩ ?_
  refine mA ⟨by decide +kernel, rfl, rfl⟩ ?_
  refine mA ⟨by decide +kernel, rfl, RX8, TX8, 5, rfl, by decide +kernel, mIn_wsX80, Or.inl q287⟩ ?_
  refine mA ⟨by decide +kernel, rfl, rfl⟩ ?_
  refine mA ⟨by decide +kernel, rfl, rfl⟩ ?_
  refine mA ⟨by decide +kernel, rfl, rfl⟩ ?_
  refine mA ⟨by decide +kernel, rfl, rfl, ⟨TX5, 8, rfl⟩, q322, cV44⟩ ?_
  refine mA ⟨by decide +kernel, rfl, rfl⟩ ?_
  exact trivial
set_option maxRecDepth 100000 in
set_option maxHeartbeats 4000000 in
theorem okX8_power : mAllOk (mMt0 67) tbX8_power := by
  rw [mtX8_power]
  unfold tbX8_power
  refine mA ⟨by decide +kernel, rfl, rfl⟩ ?_
  refine mA ⟨by decide +kernel, rfl, rfl⟩ ?_
  refine mA ⟨by decide +kernel, rfl, RX8, TX8, 5, rfl, by decide +kernel, mIn_wsX80, Or.inl q287⟩ ?_
  refine mA ⟨by decide +kernel, rfl, RX5, TX5, 8, rfl, by decide +kernel, mIn_wsX50, Or.inr (by decide +kernel)⟩ ?_
  refine mA ⟨by decide +kernel, rfl, q315, cS83⟩ ?_
  refine mA ⟨by decide +kernel, rfl, rfl⟩ ?_
  refine mA ⟨by decide +kernel, rfl, RX8, TX8, 5, rfl, by decide +kernel, mIn_wsX80, Or.inl q287⟩ ?_
  refine mA ⟨by decide +kernel, rfl, rfl⟩ ?_
  refine mA ⟨by decide +kernel, rfl, rfl, ⟨TX5, 8, rfl⟩, q318, cV43⟩ ?_
  refine mA ⟨by decide +kernel, rfl, rfl⟩ ?_
  refine mA ⟨by decide +kernel, rfl, by decide +kernel⟩ ?_
  refine mA ⟨by decide +kernel, rfl, rfl⟩ ?_
  refine mA ⟨by decide +kernel, rfl, rfl⟩ ?_
  refine mA ⟨by decide +kernel, rfl, by decide +kernel⟩ ?_
  refine mA ⟨by decide +kernel, rfl, by decide +kernel⟩ ?_
  refine mA ⟨by decide +kernel, rfl, rfl⟩ ?_
  refine mA ⟨by decide +kernel, rfl, rfl⟩ ?_
  refine mA ⟨by decide +kernel, rfl, q323, cS8⟩ ?_
  refine mA ⟨by decide +kernel, rfl, _, rfl, q324⟩ ?_
  refine mA ⟨by decide +kernel, rfl⟩ ?_
  refine mA ⟨by decide +kernel, rfl, by decide +kernel⟩ ?_
  refine mA ⟨by decide +kernel, rfl, rfl⟩ ?_
  refine mA ⟨by decide +kernel, rfl, rfl⟩ ?_
  refine mA ⟨by decide +kernel, rfl, rfl, by decide +kernel⟩ ?_
  refine mA ⟨by decide +kernel, rfl, by decide +kernel⟩ ?_
  refine mA ⟨by decide +kernel, rfl, by decide +kernel⟩ ?_
  refine mA ⟨by decide +kernel, rfl, rfl⟩ ?_
  exact trivial
set_option maxRecDepth 100000 in
set_option maxHeartbeats 4000000 in
theorem okX8_scaled : mAllOk (mMt0 68) tbX8_scaled := by
  rw [mtX8_scaled]
  unfold tbX8_scaled
  refine mA ⟨by decide +kernel, rfl, rfl⟩ ?_
  refine mA ⟨by decide +kernel, rfl, rfl⟩ ?_
  refine mA ⟨by decide +kernel, rfl, RX8, TX8, 5, rfl, by decide +kernel, mIn_wsX80, Or.inl q287⟩ ?_
  refine mA ⟨by decide +kernel, rfl, RX5, TX5, 8, rfl, by decide +kernel, mIn_wsX50, Or.inr (by decide +kernel)⟩ ?_
  refine mA ⟨by decide +kernel, rfl, q315, cS83⟩ ?_
  refine mA ⟨by decide +kernel, rfl, rfl⟩ ?_
  refine mA ⟨by decide +kernel, rfl, q310, cS82⟩ ?_
  refine mA ⟨by decide +kernel, rfl, rfl⟩ ?_
  refine mA ⟨by decide +kernel, rfl, RX8, TX8, 5, rfl, by decide +kernel, mIn_wsX80, Or.inl q287⟩ ?_
  refine mA ⟨by decide +kernel, rfl, rfl⟩ ?_
  refine mA ⟨by decide +kernel, rfl, rfl, ⟨TX5, 8, rfl⟩, q318, cV43⟩ ?_
  refine mA ⟨by decide +kernel, rfl, rfl⟩ ?_
  refine mA ⟨by decide +kernel, rfl, q323, cS8⟩ ?_
  refine mA ⟨by decide +kernel, rfl, rfl⟩ ?_
  refine mA ⟨by decide +kernel, rfl, rfl⟩ ?_
  refine mA ⟨by decide +kernel, rfl, _, rfl, q324⟩ ?_
  refine mA ⟨by decide +kernel, rfl⟩ ?_
  refine mA ⟨by decide +kernel, rfl, by decide +kernel⟩ ?_
  refine mA ⟨by decide +kernel, by decide +kernel, 96, 98, by decide +kernel, rfl, by decide +kernel, by decide +kernel, by decide +kernel, by decide +kernel, rfl, q325, q326, xF3, xN3, xO3⟩ ?_
  refine mA ⟨by decide +kernel, rfl⟩ ?_
  refine mA ⟨by decide +kernel, rfl, rfl⟩ ?_
  refine mA ⟨by decide +kernel, rfl, rfl⟩ ?_
  exact trivial
set_option maxRecDepth 100000 in
set_option maxHeartbeats 4000000 in
theorem okX8_pack : mAllOk (mMt0 69) tbX8_pack := by
  rw [mtX8_pack]
  unfold tbX8_pack
  refine mA ⟨by decide +kernel, rfl, rfl⟩ ?_
  refine mA ⟨by decide +kernel, rfl, by decide +kernel⟩ ?_
  refine mA ⟨by decide +kernel, rfl, by decide +kernel⟩ ?_
  refine mA ⟨by decide +kernel, rfl, rfl⟩ ?_
  refine mA ⟨by decide +kernel, rfl, by decide +kernel⟩ ?_
  refine mA ⟨by decide +kernel, rfl, by decide +kernel⟩ ?_
  refine mA ⟨by decide +kernel, by decide +kernel, 99, 80, by decide +kernel, rfl, by decide +kernel, by decide +kernel, by decide +kernel, by decide +kernel, rfl, q320, q321, xF1, xN1, xO1⟩ ?_
  refine mA ⟨by decide +kernel, rfl⟩ ?_
  refine mA ⟨by decide +kernel, rfl, rfl⟩ ?_
  refine mA ⟨by decide +kernel, rfl, RX8, TX8, 5, rfl, by decide +kernel, mIn_wsX80, Or.inl q294⟩ ?_
  refine mA ⟨by decide +kernel, rfl, rfl⟩ ?_
  refine mA ⟨by decide +kernel, rfl, RX8, TX8, 5, rfl, by decide +kernel, mIn_wsX80, Or.inl q287⟩ ?_
  refine mA ⟨by decide +kernel, rfl, RX5, TX5, 8, rfl, by decide +kernel, mIn_wsX50, Or.inr (by decide +kernel)⟩ ?_
  refine mA ⟨by decide +kernel, rfl, rfl⟩ ?_
  refine mA ⟨by decide +kernel, rfl, rfl, ⟨TX4, 6, rfl⟩, q327, cV35⟩ ?_
  refine mA ⟨by decide +kernel, rfl, by decide +kernel⟩ ?_
  refine mA ⟨by decide +kernel, rfl, rfl⟩ ?_
  refine mA ⟨by decide +kernel, rfl, rfl⟩ ?_
  refine mA ⟨by decide +kernel, rfl, rfl⟩ ?_
  refine mA ⟨by decide +kernel, rfl, RX8, TX8, 5, rfl, by decide +kernel, mIn_wsX80, Or.inl q287⟩ ?_
  refine mA ⟨by decide +kernel, rfl, RX5, TX5, 8, rfl, by decide +kernel, mIn_wsX50, Or.inr (by decide +kernel)⟩ ?_
  refine mA ⟨by decide +kernel, rfl, by decide +kernel⟩ ?_
  refine mA ⟨by decide +kernel, rfl, rfl⟩ ?_
  refine mA ⟨by decide +kernel, rfl, RX8, TX8, 5, rfl, by decide +kernel, mIn_wsX80, Or.inl q294⟩ ?_
  refine mA ⟨by decide +kernel, rfl, rfl⟩ ?_
  refine mA ⟨by decide +kernel, rfl, RX8, TX8, 5, rfl, by decide +kernel, mIn_wsX80, Or.inl q287⟩ ?_
  refine mA ⟨by decide +kernel, rfl, rfl⟩ ?_
  refine mA ⟨by decide +kernel, rfl, rfl⟩ ?_
  refine mA ⟨by decide +kernel, rfl, rfl⟩ ?_
  refine mA ⟨by decide +kernel, rfl⟩ ?_
  refine mA ⟨by decide +kernel, rfl, rfl⟩ ?_
  refine mA ⟨by decide +kernel, rfl, RX8, TX8, 5, rfl, by decide +kernel, mIn_wsX80, Or.inl q287⟩ ?_
  refine mA ⟨by decide +kernel, rfl, RX5, TX5, 8, rfl, by decide +kernel, mIn_wsX50, Or.inr (by decide +kernel)⟩ ?_
  refine mA ⟨by decide +kernel, rfl, q331, q40, q6, q41⟩ ?_
  refine mA ⟨by decide +kernel, rfl, rfl, ⟨TX4, 6, rfl⟩, q332, cV36⟩ ?_
  refine mA ⟨by decide +kernel, rfl, rfl⟩ ?_
  refine mA ⟨by decide +kernel, rfl, rfl⟩ ?_
  refine mA ⟨by decide +kernel, rfl⟩ ?_
  refine mA ⟨by decide +kernel, rfl, rfl⟩ ?_
  refine mA ⟨by decide +kernel, rfl, by decide +kernel⟩ ?_
  refine mA ⟨by decide +kernel, rfl, rfl⟩ ?_
  refine mA ⟨by decide +kernel, rfl, RX8, TX8, 5, rfl, by decide +kernel, mIn_wsX80, Or.inl q294⟩ ?_
  refine mA ⟨by decide +kernel, rfl, RX4, TX4, 6, rfl, by decide +kernel, mIn_wsX40, Or.inr (by decide +kernel)⟩ ?_
  refine mA ⟨by decide +kernel, rfl, rfl, ⟨TX0, 2, rfl⟩, q336, cV5⟩ ?_
  refine mA ⟨by decide +kernel, rfl, rfl⟩ ?_
  refine mA ⟨by decide +kernel, rfl, RX8, TX8, 5, rfl, by decide +kernel, mIn_wsX80, Or.inl q294⟩ ?_
  refine mA ⟨by decide +kernel, rfl, RX4, TX4, 6, rfl, by decide +kernel, mIn_wsX40, Or.inr (by decide +kernel)⟩ ?_
  refine mA ⟨by decide +kernel, rfl, rfl, ⟨TX0, 2, rfl⟩, q340, cV2⟩ ?_
  refine mA ⟨by decide +kernel, rfl, rfl⟩ ?_
  exact trivial
set_option maxRecDepth 100000 in
set_option maxHeartbeats 4000000 in
theorem okX8_blocks : mAllOk (mMt0 70) tbX8_blocks := by
  rw [mtX8_blocks]
  unfold tbX8_blocks
  refine mA ⟨by decide +kernel, rfl, rfl⟩ ?_
  refine mA ⟨by decide +kernel, rfl, RX8, TX8, 5, rfl, by decide +kernel, mIn_wsX80, Or.inl q294⟩ ?_
  refine mA ⟨by decide +kernel, rfl, RX4, TX4, 6, rfl, by decide +kernel, mIn_wsX40, Or.inr (by decide +kernel)⟩ ?_
  refine mA ⟨by decide +kernel, rfl, rfl⟩ ?_
  exact trivial
set_option maxRecDepth 100000 in
set_option maxHeartbeats 4000000 in
theorem okX8_way : mAllOk (mMt0 71) tbX8_way := by
  rw [mtX8_way]
  unfold tbX8_way
  refine mA ⟨by decide +kernel, rfl, rfl⟩ ?_
  refine mA ⟨by decide +kernel, rfl, rfl⟩ ?_
  refine mA ⟨by decide +kernel, rfl, RX8, TX8, 5, rfl, by decide +kernel, mIn_wsX80, Or.inl q294⟩ ?_
  refine mA ⟨by decide +kernel, rfl, RX4, TX4, 6, rfl, by decide +kernel, mIn_wsX40, Or.inr (by decide +kernel)⟩ ?_
  refine mA ⟨by decide +kernel, rfl, q315, cS83⟩ ?_
  refine mA ⟨by decide +kernel, rfl, rfl⟩ ?_
  refine mA ⟨by decide +kernel, rfl, RX8, TX8, 5, rfl, by decide +kernel, mIn_wsX80, Or.inl q294⟩ ?_
  refine mA ⟨by decide +kernel, rfl, rfl⟩ ?_
  refine mA ⟨by decide +kernel, rfl, rfl, ⟨TX4, 6, rfl⟩, q341, cV37⟩ ?_
  refine mA ⟨by decide +kernel, rfl, rfl⟩ ?_
  exact trivial
set_option maxRecDepth 100000 in
set_option maxHeartbeats 4000000 in
theorem okX8_bits : mAllOk (mMt0 72) tbX8_bits := by
  rw [mtX8_bits]
  unfold tbX8_bits
  refine mA ⟨by decide +kernel, rfl, rfl⟩ ?_
  refine mA ⟨by decide +kernel, rfl, rfl⟩ ?_
  refine mA ⟨by decide +kernel, rfl, RX8, TX8, 5, rfl, by decide +kernel, mIn_wsX80, Or.inl q294⟩ ?_
  refine mA ⟨by decide +kernel, rfl, RX4, TX4, 6, rfl, by decide +kernel, mIn_wsX40, Or.inr (by decide +kernel)⟩ ?_
  refine mA ⟨by decide +kernel, rfl, q315, cS83⟩ ?_
  refine mA ⟨by decide +kernel, rfl, rfl⟩ ?_
  refine mA ⟨by decide +kernel, rfl, by decide +kernel⟩ ?_
  refine mA ⟨by decide +kernel, rfl, rfl⟩ ?_
  refine mA ⟨by decide +kernel, rfl, by decide +kernel⟩ ?_
  refine mA ⟨by decide +kernel, rfl, by decide +kernel⟩ ?_
  refine mA ⟨by decide +kernel, by decide +kernel, 134, 80, by decide +kernel, rfl, by decide +kernel, by decide +kernel, by decide +kernel, by decide +kernel, rfl, q320, q321, xF1, xN1, xO1⟩ ?_
  refine mA ⟨by decide +kernel, rfl⟩ ?_
  refine mA ⟨by decide +kernel, rfl, rfl⟩ ?_
  refine mA ⟨by decide +kernel, rfl, RX8, TX8, 5, rfl, by decide +kernel, mIn_wsX80, Or.inl q294⟩ ?_
  refine mA ⟨by decide +kernel, rfl, rfl⟩ ?_
  refine mA ⟨by decide +kernel, rfl, rfl⟩ ?_
  refine mA ⟨by decide +kernel, rfl, rfl, ⟨TX4, 6, rfl⟩, q345, cV38⟩ ?_
  refine mA ⟨by decide +kernel, rfl, rfl⟩ ?_
  exact trivial
set_option maxRecDepth 100000 in
set_option maxHeartbeats 4000000 in
theorem okX8_size : mAllOk (mMt0 73) tbX8_size := by
  rw [mtX8_size]
  unfold tbX8_size
  refine mA ⟨by decide +kernel, rfl, rfl⟩ ?_
  refine mA ⟨by decide +kernel, rfl, RX8, TX8, 5, rfl, by decide +kernel, mIn_wsX80, Or.inl q294⟩ ?_
  refine mA ⟨by decide +kernel, rfl, RX4, TX4, 6, rfl, by decide +kernel, mIn_wsX40, Or.inr (by decide +kernel)⟩ ?_
  refine mA ⟨by decide +kernel, rfl, rfl, ⟨TX0, 2, rfl⟩, q340, cV2⟩ ?_
  refine mA ⟨by decide +kernel, rfl, rfl⟩ ?_
  exact trivial
set_option maxRecDepth 100000 in
set_option maxHeartbeats 4000000 in
theorem okX8_out : mAllOk (mMt0 74) tbX8_out := by
  rw [mtX8_out]
  unfold tbX8_out
  refine mA ⟨by decide +kernel, rfl, rfl⟩ ?_
  refine mA ⟨by decide +kernel, rfl, rfl⟩ ?_
  refine mA ⟨by decide +kernel, rfl, RX8, TX8, 5, rfl, by decide +kernel, mIn_wsX80, Or.inl q294⟩ ?_
  refine mA ⟨by decide +kernel, rfl, RX4, TX4, 6, rfl, by decide +kernel, mIn_wsX40, Or.inr (by decide +kernel)⟩ ?_
  refine mA ⟨by decide +kernel, rfl, rfl, ⟨TX0, 2, rfl⟩, q340, cV2⟩ ?_
  refine mA ⟨by decide +kernel, rfl, q315, cS83⟩ ?_
  refine mA ⟨by decide +kernel, rfl, rfl⟩ ?_
  refine mA ⟨by decide +kernel, rfl, RX8, TX8, 5, rfl, by decide +kernel, mIn_wsX80, Or.inl q294⟩ ?_
  refine mA ⟨by decide +kernel, rfl, RX4, TX4, 6, rfl, by decide +kernel, mIn_wsX40, Or.inr (by decide +kernel)⟩ ?_
  refine mA ⟨by decide +kernel, rfl, RX0, TX0, 2, rfl, by decide +kernel, mIn_wsX00, Or.inr (by decide +kernel)⟩ ?_
  refine mA ⟨by decide +kernel, rfl, rfl⟩ ?_
  refine mA ⟨by decide +kernel, rfl, q349, cS85⟩ ?_
  refine mA ⟨by decide +kernel, rfl, rfl⟩ ?_
  exact trivial
set_option maxRecDepth 100000 in
set_option maxHeartbeats 4000000 in
theorem okX8_feed : mAllOk (mMt0 75) tbX8_feed := by
  rw [mtX8_feed]
  unfold tbX8_feed
  refine mA ⟨by decide +kernel, rfl, rfl⟩ ?_
  refine mA ⟨by decide +kernel, rfl, by decide +kernel⟩ ?_
  refine mA ⟨by decide +kernel, rfl, by decide +kernel⟩ ?_
  refine mA ⟨by decide +kernel, rfl, rfl⟩ ?_
  refine mA ⟨by decide +kernel, rfl, by decide +kernel⟩ ?_
  refine mA ⟨by decide +kernel, rfl, by decide +kernel⟩ ?_
  refine mA ⟨by decide +kernel, by decide +kernel, 147, 80, by decide +kernel, rfl, by decide +kernel, by decide +kernel, by decide +kernel, by decide +kernel, rfl, q320, q321, xF1, xN1, xO1⟩ ?_
  refine mA ⟨by decide +kernel, rfl⟩ ?_
  refine mA ⟨by decide +kernel, rfl, rfl⟩ ?_
  refine mA ⟨by decide +kernel, rfl, RX8, TX8, 5, rfl, by decide +kernel, mIn_wsX80, Or.inl q299⟩ ?_
  refine mA ⟨by decide +kernel, rfl, RX6, TX6, 5, rfl, by decide +kernel, mIn_wsX60, Or.inr (by decide +kernel)⟩ ?_
  refine mA ⟨by decide +kernel, rfl, rfl⟩ ?_
  refine mA ⟨by decide +kernel, rfl⟩ ?_
  refine mA ⟨by decide +kernel, rfl, by decide +kernel⟩ ?_
  refine mA ⟨by decide +kernel, rfl, by decide +kernel⟩ ?_
  refine mA ⟨by decide +kernel, by decide +kernel, 152, 154, by decide +kernel, rfl, by decide +kernel, by decide +kernel, by decide +kernel, by decide +kernel, rfl, q352, q353, xF0, xN0, xO0⟩ ?_
  refine mA ⟨by decide +kernel, rfl⟩ ?_
  refine mA ⟨by decide +kernel, rfl, rfl⟩ ?_
  refine mA ⟨by decide +kernel, rfl, by decide +kernel⟩ ?_
  refine mA ⟨by decide +kernel, rfl⟩ ?_
  refine mA ⟨by decide +kernel, rfl, rfl⟩ ?_
  refine mA ⟨by decide +kernel, rfl, rfl⟩ ?_
  refine mA ⟨by decide +kernel, rfl, by decide +kernel⟩ ?_
  refine mA ⟨by decide +kernel, rfl, rfl⟩ ?_
  refine mA ⟨by decide +kernel, rfl, RX8, TX8, 5, rfl, by decide +kernel, mIn_wsX80, Or.inl q299⟩ ?_
  refine mA ⟨by decide +kernel, rfl, rfl⟩ ?_
  refine mA ⟨by decide +kernel, rfl, by decide +kernel⟩ ?_
  refine mA ⟨by decide +kernel, rfl, rfl⟩ ?_
  refine mA ⟨by decide +kernel, rfl⟩ ?_
  refine mA ⟨by decide +kernel, rfl⟩ ?_
  refine mA ⟨by decide +kernel, rfl⟩ ?_
  refine mA ⟨by decide +kernel, rfl, by decide +kernel⟩ ?_
  refine mA ⟨by decide +kernel, rfl⟩ ?_
  refine mA ⟨by decide +kernel, rfl, rfl, ⟨TX6, 5, rfl⟩, q354, cV46⟩ ?_
  refine mA ⟨by decide +kernel, rfl, rfl, by decide +kernel⟩ ?_
  refine mA ⟨by decide +kernel, rfl, by decide +kernel⟩ ?_
  refine mA ⟨by decide +kernel, rfl, rfl⟩ ?_
  refine mA ⟨by decide +kernel, rfl, RX8, TX8, 5, rfl, by decide +kernel, mIn_wsX80, Or.inl q299⟩ ?_
  refine mA ⟨by decide +kernel, rfl, RX6, TX6, 5, rfl, by decide +kernel, mIn_wsX60, Or.inr (by decide +kernel)⟩ ?_
  refine mA ⟨by decide +kernel, rfl, rfl⟩ ?_
  exact trivial
set_option maxRecDepth 100000 in
set_option maxHeartbeats 4000000 in
theorem okX8_cut : mAllOk (mMt0 76) tbX8_cut := by
  rw [mtX8_cut]
  unfold tbX8_cut
  refine mA ⟨by decide +kernel, rfl, rfl⟩ ?_
  refine mA ⟨by decide +kernel, rfl, by decide +kernel⟩ ?_
  refine mA ⟨by decide +kernel, rfl, rfl⟩ ?_
  refine mA ⟨by decide +kernel, rfl, rfl⟩ ?_
  refine mA ⟨by decide +kernel, rfl, RX8, TX8, 5, rfl, by decide +kernel, mIn_wsX80, Or.inl q299⟩ ?_
  refine mA ⟨by decide +kernel, rfl, RX6, TX6, 5, rfl, by decide +kernel, mIn_wsX60, Or.inr (by decide +kernel)⟩ ?_
  refine mA ⟨by decide +kernel, rfl, by decide +kernel⟩ ?_
  refine mA ⟨by decide +kernel, by decide +kernel, 157, 80, by decide +kernel, rfl, by decide +kernel, by decide +kernel, by decide +kernel, by decide +kernel, rfl, q320, q321, xF1, xN1, xO1⟩ ?_
  refine mA ⟨by decide +kernel, rfl⟩ ?_
  refine mA ⟨by decide +kernel, rfl, rfl⟩ ?_
  refine mA ⟨by decide +kernel, rfl, RX8, TX8, 5, rfl, by decide +kernel, mIn_wsX80, Or.inl q299⟩ ?_
  refine mA ⟨by decide +kernel, rfl, RX6, TX6, 5, rfl, by decide +kernel, mIn_wsX60, Or.inr (by decide +kernel)⟩ ?_
  refine mA ⟨by decide +kernel, rfl, rfl⟩ ?_
  refine mA ⟨by decide +kernel, rfl⟩ ?_
  refine mA ⟨by decide +kernel, rfl, rfl⟩ ?_
  refine mA ⟨by decide +kernel, rfl, rfl⟩ ?_
  refine mA ⟨by decide +kernel, rfl, RX8, TX8, 5, rfl, by decide +kernel, mIn_wsX80, Or.inl q299⟩ ?_
  refine mA ⟨by decide +kernel, rfl, rfl⟩ ?_
  refine mA ⟨by decide +kernel, rfl, RX6, TX6, 5, rfl, by decide +kernel, mIn_wsX60, Or.inr (by decide +kernel), rfl, Or.inl rfl⟩ ?_
  refine mA ⟨by decide +kernel, rfl, rfl⟩ ?_
  refine mA ⟨by decide +kernel, rfl, rfl⟩ ?_
  exact trivial
set_option maxRecDepth 100000 in
set_option maxHeartbeats 4000000 in
theorem okX8_turn : mAllOk (mMt0 77) tbX8_turn := by
  rw [mtX8_turn]
  unfold tbX8_turn
  refine mA ⟨by decide +kernel, rfl, rfl⟩ ?_
  refine mA ⟨by decide +kernel, rfl, RX8, TX8, 5, rfl, by decide +kernel, mIn_wsX80, Or.inl q299⟩ ?_
  refine mA ⟨by decide +kernel, rfl, by decide +kernel⟩ ?_
  refine mA ⟨by decide +kernel, rfl, RX6, TX6, 5, rfl, by decide +kernel, mIn_wsX60, Or.inr (by decide +kernel), rfl, Or.inl rfl⟩ ?_
  refine mA ⟨by decide +kernel, rfl, by decide +kernel⟩ ?_
  refine mA ⟨by decide +kernel, rfl, rfl⟩ ?_
  refine mA ⟨by decide +kernel, rfl, rfl⟩ ?_
  refine mA ⟨by decide +kernel, rfl, rfl⟩ ?_
  refine mA ⟨by decide +kernel, rfl, RX8, TX8, 5, rfl, by decide +kernel, mIn_wsX80, Or.inl q294⟩ ?_
  refine mA ⟨by decide +kernel, rfl, RX4, TX4, 6, rfl, by decide +kernel, mIn_wsX40, Or.inr (by decide +kernel)⟩ ?_
  refine mA ⟨by decide +kernel, rfl, rfl, ⟨TX0, 2, rfl⟩, q340, cV2⟩ ?_
  refine mA ⟨by decide +kernel, rfl, by decide +kernel⟩ ?_
  refine mA ⟨by decide +kernel, rfl, rfl⟩ ?_
  refine mA ⟨by decide +kernel, rfl, RX8, TX8, 5, rfl, by decide +kernel, mIn_wsX80, Or.inl q299⟩ ?_
  refine mA ⟨by decide +kernel, rfl, rfl⟩ ?_
  refine mA ⟨by decide +kernel, rfl, RX8, TX8, 5, rfl, by decide +kernel, mIn_wsX80, Or.inl q294⟩ ?_
  refine mA ⟨by decide +kernel, rfl, RX4, TX4, 6, rfl, by decide +kernel, mIn_wsX40, Or.inr (by decide +kernel)⟩ ?_
  refine mA ⟨by decide +kernel, rfl, RX0, TX0, 2, rfl, by decide +kernel, mIn_wsX00, Or.inr (by decide +kernel)⟩ ?_
  refine mA ⟨by decide +kernel, rfl, rfl⟩ ?_
  refine mA ⟨by decide +kernel, rfl, q349, cS85⟩ ?_
  refine mA ⟨by decide +kernel, rfl, rfl, ⟨TX6, 5, rfl⟩, q354, cV46⟩ ?_
  refine mA ⟨by decide +kernel, rfl, rfl, by decide +kernel⟩ ?_
  refine mA ⟨by decide +kernel, rfl, by decide +kernel⟩ ?_
  refine mA ⟨by decide +kernel, rfl, rfl⟩ ?_
  refine mA ⟨by decide +kernel, rfl, RX8, TX8, 5, rfl, by decide +kernel, mIn_wsX80, Or.inl q299⟩ ?_
  refine mA ⟨by decide +kernel, rfl, RX6, TX6, 5, rfl, by decide +kernel, mIn_wsX60, Or.inr (by decide +kernel)⟩ ?_
  refine mA ⟨by decide +kernel, rfl, rfl⟩ ?_
  exact trivial
set_option maxRecDepth 100000 in
set_option maxHeartbeats 4000000 in
theorem okX8_change : mAllOk (mMt0 78) tbX8_change := by
  rw [mtX8_change]
  unfold tbX8_change
  refine mA ⟨by decide +kernel, rfl, rfl⟩ ?_
  refine mA ⟨by decide +kernel, rfl, rfl⟩ ?_
  refine mA ⟨by decide +kernel, rfl, RX8, TX8, 5, rfl, by decide +kernel, mIn_wsX80, Or.inl q299⟩ ?_
  refine mA ⟨by decide +kernel, rfl, RX6, TX6, 5, rfl, by decide +kernel, mIn_wsX60, Or.inr (by decide +kernel)⟩ ?_
  refine mA ⟨by decide +kernel, rfl, q315, cS83⟩ ?_
  refine mA ⟨by decide +kernel, rfl, rfl⟩ ?_
  refine mA ⟨by decide +kernel, rfl, by decide +kernel⟩ ?_
  refine mA ⟨by decide +kernel, rfl, rfl⟩ ?_
  refine mA ⟨by decide +kernel, rfl, by decide +kernel⟩ ?_
  refine mA ⟨by decide +kernel, rfl, by decide +kernel⟩ ?_
  refine mA ⟨by decide +kernel, by decide +kernel, 159, 80, by decide +kernel, rfl, by decide +kernel, by decide +kernel, by decide +kernel, by decide +kernel, rfl, q320, q321, xF1, xN1, xO1⟩ ?_
  refine mA ⟨by decide +kernel, rfl⟩ ?_
  refine mA ⟨by decide +kernel, rfl, rfl⟩ ?_
  refine mA ⟨by decide +kernel, rfl, RX8, TX8, 5, rfl, by decide +kernel, mIn_wsX80, Or.inl q299⟩ ?_
  refine mA ⟨by decide +kernel, rfl, rfl⟩ ?_
  refine mA ⟨by decide +kernel, rfl, rfl⟩ ?_
  refine mA ⟨by decide +kernel, rfl, rfl, ⟨TX6, 5, rfl⟩, q358, cV47⟩ ?_
  refine mA ⟨by decide +kernel, rfl, rfl⟩ ?_
  refine mA ⟨by decide +kernel, rfl, RX8, TX8, 5, rfl, by decide +kernel, mIn_wsX80, Or.inl q299⟩ ?_
  refine mA ⟨by decide +kernel, rfl, RX6, TX6, 5, rfl, by decide +kernel, mIn_wsX60, Or.inr (by decide +kernel)⟩ ?_
  refine mA ⟨by decide +kernel, rfl, rfl⟩ ?_
  refine mA ⟨by decide +kernel, rfl, q349, cS85⟩ ?_
  refine mA ⟨by decide +kernel, rfl, rfl⟩ ?_
  exact trivial
set_option maxRecDepth 100000 in
set_option maxHeartbeats 4000000 in
theorem okX8_open : mAllOk (mMt0 79) tbX8_open := by
  rw [mtX8_open]
  unfold tbX8_open
  refine mA ⟨by decide +kernel, rfl, rfl⟩ ?_
  refine mA ⟨by decide +kernel, rfl, RX8, TX8, 5, rfl, by decide +kernel, mIn_wsX80, Or.inl q299⟩ ?_
  refine mA ⟨by decide +kernel, rfl, rfl, ⟨TX6, 5, rfl⟩, q362, cV48⟩ ?_
  refine mA ⟨by decide +kernel, rfl, rfl⟩ ?_
  refine mA ⟨by decide +kernel, rfl, RX8, TX8, 5, rfl, by decide +kernel, mIn_wsX80, Or.inl q304⟩ ?_
  refine mA ⟨by decide +kernel, rfl, rfl⟩ ?_
  refine mA ⟨by decide +kernel, rfl, RX8, TX8, 5, rfl, by decide +kernel, mIn_wsX80, Or.inl q299⟩ ?_
  refine mA ⟨by decide +kernel, rfl, rfl⟩ ?_
  refine mA ⟨by decide +kernel, rfl, RX8, TX8, 5, rfl, by decide +kernel, mIn_wsX80, Or.inl q288⟩ ?_
  refine mA ⟨by decide +kernel, rfl, rfl, ⟨TX2, 2, rfl⟩, q366, cV12⟩ ?_
  refine mA ⟨by decide +kernel, rfl, rfl⟩ ?_
  refine mA ⟨by decide +kernel, rfl, RX8, TX8, 5, rfl, by decide +kernel, mIn_wsX80, Or.inl q299⟩ ?_
  refine mA ⟨by decide +kernel, rfl, RX6, TX6, 5, rfl, by decide +kernel, mIn_wsX60, Or.inr (by decide +kernel)⟩ ?_
  refine mA ⟨by decide +kernel, rfl, by decide +kernel⟩ ?_
  refine mA ⟨by decide +kernel, rfl, rfl⟩ ?_
  refine mA ⟨by decide +kernel, rfl, RX8, TX8, 5, rfl, by decide +kernel, mIn_wsX80, Or.inl q288⟩ ?_
  refine mA ⟨by decide +kernel, rfl, rfl⟩ ?_
  refine mA ⟨by decide +kernel, rfl, rfl⟩ ?_
  refine mA ⟨by decide +kernel, rfl, rfl⟩ ?_
  refine mA ⟨by decide +kernel, rfl, RX8, TX8, 5, rfl, by decide +kernel, mIn_wsX80, Or.inl q287⟩ ?_
  refine mA ⟨by decide +kernel, rfl, RX8, TX8, 5, rfl, by decide +kernel, mIn_wsX80, Or.inl q288, Or.inl ⟨_, rfl⟩, Or.inl rfl⟩ ?_
  refine mA ⟨by decide +kernel, rfl, rfl⟩ ?_
  refine mA ⟨by decide +kernel, rfl, rfl⟩ ?_
  refine mA ⟨by decide +kernel, rfl, RX8, TX8, 5, rfl, by decide +kernel, mIn_wsX80, Or.inl q287, Or.inl ⟨_, rfl⟩, Or.inl rfl⟩ ?_
  refine mA ⟨by decide +kernel, rfl, rfl⟩ ?_
  refine mA ⟨by decide +kernel, rfl, RX8, TX8, 5, rfl, by decide +kernel, mIn_wsX80, Or.inl q299⟩ ?_
  refine mA ⟨by decide +kernel, rfl, RX6, TX6, 5, rfl, by decide +kernel, mIn_wsX60, Or.inr (by decide +kernel)⟩ ?_
  refine mA ⟨by decide +kernel, rfl, rfl⟩ ?_
  exact trivial
set_option maxRecDepth 100000 in
set_option maxHeartbeats 4000000 in
theorem okX8_place : mAllOk (mMt0 80) tbX8_place := by
  rw [mtX8_place]
  unfold tbX8_place
  refine mA ⟨by decide +kernel, rfl, rfl⟩ ?_
  refine mA ⟨by decide +kernel, rfl, RX8, TX8, 5, rfl, by decide +kernel, mIn_wsX80, Or.inl q299⟩ ?_
  refine mA ⟨by decide +kernel, rfl, RX6, TX6, 5, rfl, by decide +kernel, mIn_wsX60, Or.inr (by decide +kernel)⟩ ?_
  refine mA ⟨by decide +kernel, rfl, rfl⟩ ?_
  exact trivial
set_option maxRecDepth 100000 in
set_option maxHeartbeats 4000000 in
theorem okX8_requireRoom : mAllOk (mMt0 81) tbX8_requireRoom := by
  rw [mtX8_requireRoom]
  unfold tbX8_requireRoom
  refine mA ⟨by decide +kernel, rfl, rfl⟩ ?_
  refine mA ⟨by decide +kernel, rfl, RX8, TX8, 5, rfl, by decide +kernel, mIn_wsX80, Or.inl q287⟩ ?_
  refine mA ⟨by decide +kernel, rfl, RX5, TX5, 8, rfl, by decide +kernel, mIn_wsX50, Or.inr (by decide +kernel)⟩ ?_
  refine mA ⟨by decide +kernel, rfl, by decide +kernel⟩ ?_
  refine mA ⟨by decide +kernel, rfl, by decide +kernel⟩ ?_
  refine mA ⟨by decide +kernel, by decide +kernel, 178, 154, by decide +kernel, rfl, by decide +kernel, by decide +kernel, by decide +kernel, by decide +kernel, rfl, q352, q353, xF0, xN0, xO0⟩ ?_
  refine mA ⟨by decide +kernel, rfl⟩ ?_
  refine mA ⟨by decide +kernel, rfl, rfl⟩ ?_
  exact trivial
set_option maxRecDepth 100000 in
set_option maxHeartbeats 4000000 in
theorem okX8_requirePower : mAllOk (mMt0 82) tbX8_requirePower := by
  rw [mtX8_requirePower]
  unfold tbX8_requirePower
  refine mA ⟨by decide +kernel, rfl, rfl⟩ ?_
  refine mA ⟨by decide +kernel, rfl, by decide +kernel⟩ ?_
  refine mA ⟨by decide +kernel, rfl, rfl⟩ ?_
  refine mA ⟨by decide +kernel, rfl, by decide +kernel⟩ ?_
  refine mA ⟨by decide +kernel, rfl, by decide +kernel⟩ ?_
  refine mA ⟨by decide +kernel, by decide +kernel, 180, 80, by decide +kernel, rfl, by decide +kernel, by decide +kernel, by decide +kernel, by decide +kernel, rfl, q320, q321, xF1, xN1, xO1⟩ ?_
  refine mA ⟨by decide +kernel, rfl⟩ ?_
  refine mA ⟨by decide +kernel, rfl, rfl⟩ ?_
  exact trivial
set_option maxRecDepth 100000 in
set_option maxHeartbeats 4000000 in
theorem okX8_requireBelow : mAllOk (mMt0 83) tbX8_requireBelow := by
  rw [mtX8_requireBelow]
  unfold tbX8_requireBelow
  refine mA ⟨by decide +kernel, rfl, rfl⟩ ?_
  refine mA ⟨by decide +kernel, rfl, by decide +kernel⟩ ?_
  refine mA ⟨by decide +kernel, rfl, rfl⟩ ?_
  refine mA ⟨by decide +kernel, rfl, rfl⟩ ?_
  refine mA ⟨by decide +kernel, rfl, by decide +kernel⟩ ?_
  refine mA ⟨by decide +kernel, by decide +kernel, 184, 186, by decide +kernel, rfl, by decide +kernel, by decide +kernel, by decide +kernel, by decide +kernel, rfl, q370, q371, xF2, xN2, xO2⟩ ?_
  refine mA ⟨by decide +kernel, rfl⟩ ?_
  refine mA ⟨by decide +kernel, rfl, rfl⟩ ?_
  exact trivial
set_option maxRecDepth 100000 in
set_option maxHeartbeats 4000000 in
theorem okX8_flip : mAllOk (mMt0 84) tbX8_flip := by
  rw [mtX8_flip]
  unfold tbX8_flip
  refine mA ⟨by decide +kernel, rfl, rfl⟩ ?_
  refine mA ⟨by decide +kernel, rfl, by decide +kernel⟩ ?_
  refine mA ⟨by decide +kernel, rfl⟩ ?_
  refine mA ⟨by decide +kernel, rfl, by decide +kernel⟩ ?_
  refine mA ⟨by decide +kernel, rfl, rfl⟩ ?_
  refine mA ⟨by decide +kernel, rfl, _, rfl, q372⟩ ?_
  refine mA ⟨by decide +kernel, rfl⟩ ?_
  refine mA ⟨by decide +kernel, rfl, by decide +kernel⟩ ?_
  refine mA ⟨by decide +kernel, rfl, rfl⟩ ?_
  refine mA ⟨by decide +kernel, rfl, rfl⟩ ?_
  exact trivial
set_option maxRecDepth 100000 in
set_option maxHeartbeats 4000000 in
theorem okX8_byteAt : mAllOk (mMt0 85) tbX8_byteAt := by
  rw [mtX8_byteAt]
  unfold tbX8_byteAt
  refine mA ⟨by decide +kernel, rfl, rfl⟩ ?_
  refine mA ⟨by decide +kernel, rfl, by decide +kernel⟩ ?_
  refine mA ⟨by decide +kernel, rfl, rfl⟩ ?_
  refine mA ⟨by decide +kernel, rfl, rfl⟩ ?_
  refine mA ⟨by decide +kernel, rfl⟩ ?_
  refine mA ⟨by decide +kernel, rfl, by decide +kernel⟩ ?_
  refine mA ⟨by decide +kernel, rfl, rfl⟩ ?_
  refine mA ⟨by decide +kernel, rfl, rfl⟩ ?_
  refine mA ⟨by decide +kernel, rfl⟩ ?_
  refine mA ⟨by decide +kernel, rfl, by decide +kernel⟩ ?_
  refine mA ⟨by decide +kernel, rfl, by decide +kernel⟩ ?_
  refine mA ⟨by decide +kernel, rfl, rfl⟩ ?_
  exact trivial
set_option maxRecDepth 100000 in
set_option maxHeartbeats 4000000 in
theorem okX8_checkOf : mAllOk (mMt0 86) tbX8_checkOf := by
  rw [mtX8_checkOf]
  unfold tbX8_checkOf
  refine mA ⟨by decide +kernel, rfl, by decide +kernel⟩ ?_
  refine mA ⟨by decide +kernel, rfl, rfl⟩ ?_
  refine mA ⟨by decide +kernel, rfl, by decide +kernel⟩ ?_
  refine mA ⟨by decide +kernel, rfl, rfl⟩ ?_
  refine mA ⟨by decide +kernel, rfl, rfl⟩ ?_
  refine mA ⟨by decide +kernel, rfl, rfl⟩ ?_
  refine mA ⟨by decide +kernel, rfl, by decide +kernel⟩ ?_
  refine mA ⟨by decide +kernel, rfl, by decide +kernel⟩ ?_
  refine mA ⟨by decide +kernel, rfl, rfl⟩ ?_
  refine mA ⟨by decide +kernel, rfl⟩ ?_
  refine mA ⟨by decide +kernel, rfl, rfl⟩ ?_
  refine mA ⟨by decide +kernel, rfl, rfl⟩ ?_
  refine mA ⟨by decide +kernel, rfl, q349, cS85⟩ ?_
  refine mA ⟨by decide +kernel, rfl⟩ ?_
  refine mA ⟨by decide +kernel, rfl, _, rfl, q373⟩ ?_
  refine mA ⟨by decide +kernel, rfl⟩ ?_
  refine mA ⟨by decide +kernel, rfl, rfl⟩ ?_
  refine mA ⟨by decide +kernel, rfl, rfl, by decide +kernel⟩ ?_
  refine mA ⟨by decide +kernel, rfl, by decide +kernel⟩ ?_
  refine mA ⟨by decide +kernel, rfl, rfl⟩ ?_
  refine mA ⟨by decide +kernel, rfl, rfl⟩ ?_
  exact trivial
