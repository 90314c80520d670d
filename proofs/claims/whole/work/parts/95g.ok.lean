set_option maxRecDepth 100000 in
set_option maxHeartbeats 4000000 in
theorem okJ6_numberOfLeadingZeros_0f7a4 : mAllOk (mMt0 142) tbJ6_numberOfLeadingZeros_0f7a4 := by
  rw [mtJ6_numberOfLeadingZeros_0f7a4]
  unfold tbJ6_numberOfLeadingZeros_0f7a4
  refine mA ⟨by decide +kernel, rfl, rfl⟩ ?_
  refine mA ⟨by decide +kernel, rfl, by decide +kernel⟩ ?_
  refine mA ⟨by decide +kernel, rfl, rfl⟩ ?_
  refine mA ⟨by decide +kernel, rfl, by decide +kernel⟩ ?_
  refine mA ⟨by decide +kernel, rfl, by decide +kernel⟩ ?_
  refine mA ⟨by decide +kernel, rfl, by decide +kernel⟩ ?_
  refine mA ⟨by decide +kernel, rfl, by decide +kernel⟩ ?_
  refine mA ⟨by decide +kernel, rfl, rfl⟩ ?_
  refine mA ⟨by decide +kernel, rfl, by decide +kernel⟩ ?_
  refine mA ⟨by decide +kernel, rfl, rfl⟩ ?_
  refine mA ⟨by decide +kernel, rfl, rfl⟩ ?_
  refine mA ⟨by decide +kernel, rfl, _, rfl, q529⟩ ?_
  refine mA ⟨by decide +kernel, rfl, by decide +kernel⟩ ?_
  refine mA ⟨by decide +kernel, rfl, rfl, by decide +kernel⟩ ?_
  refine mA ⟨by decide +kernel, rfl, rfl⟩ ?_
  refine mA ⟨by decide +kernel, rfl, by decide +kernel⟩ ?_
  refine mA ⟨by decide +kernel, rfl⟩ ?_
  refine mA ⟨by decide +kernel, rfl, rfl⟩ ?_
  refine mA ⟨by decide +kernel, rfl, rfl⟩ ?_
  refine mA ⟨by decide +kernel, rfl, by decide +kernel⟩ ?_
  refine mA ⟨by decide +kernel, rfl, by decide +kernel⟩ ?_
  refine mA ⟨by decide +kernel, rfl, rfl, by decide +kernel⟩ ?_
  refine mA ⟨by decide +kernel, rfl, rfl⟩ ?_
  refine mA ⟨by decide +kernel, rfl, by decide +kernel⟩ ?_
  refine mA ⟨by decide +kernel, rfl⟩ ?_
  refine mA ⟨by decide +kernel, rfl, rfl⟩ ?_
  refine mA ⟨by decide +kernel, rfl, rfl⟩ ?_
  refine mA ⟨by decide +kernel, rfl, by decide +kernel⟩ ?_
  refine mA ⟨by decide +kernel, rfl, by decide +kernel⟩ ?_
  refine mA ⟨by decide +kernel, rfl, rfl, by decide +kernel⟩ ?_
  refine mA ⟨by decide +kernel, rfl, rfl⟩ ?_
  refine mA ⟨by decide +kernel, rfl, by decide +kernel⟩ ?_
  refine mA ⟨by decide +kernel, rfl⟩ ?_
  refine mA ⟨by decide +kernel, rfl, rfl⟩ ?_
  refine mA ⟨by decide +kernel, rfl, rfl⟩ ?_
  refine mA ⟨by decide +kernel, rfl, by decide +kernel⟩ ?_
  refine mA ⟨by decide +kernel, rfl, by decide +kernel⟩ ?_
  refine mA ⟨by decide +kernel, rfl, rfl, by decide +kernel⟩ ?_
  refine mA ⟨by decide +kernel, rfl, rfl⟩ ?_
  refine mA ⟨by decide +kernel, rfl, by decide +kernel⟩ ?_
  refine mA ⟨by decide +kernel, rfl⟩ ?_
  refine mA ⟨by decide +kernel, rfl, rfl⟩ ?_
  refine mA ⟨by decide +kernel, rfl, rfl⟩ ?_
  refine mA ⟨by decide +kernel, rfl, rfl⟩ ?_
  refine mA ⟨by decide +kernel, rfl, by decide +kernel⟩ ?_
  refine mA ⟨by decide +kernel, rfl⟩ ?_
  refine mA ⟨by decide +kernel, rfl⟩ ?_
  refine mA ⟨by decide +kernel, rfl, rfl⟩ ?_
  exact trivial
set_option maxRecDepth 100000 in
set_option maxHeartbeats 4000000 in
theorem okJ6_numberOfTrailingZeros_0f7a4 : mAllOk (mMt0 143) tbJ6_numberOfTrailingZeros_0f7a4 := by
  rw [mtJ6_numberOfTrailingZeros_0f7a4]
  unfold tbJ6_numberOfTrailingZeros_0f7a4
  refine mA ⟨by decide +kernel, rfl, rfl⟩ ?_
  refine mA ⟨by decide +kernel, rfl, by decide +kernel⟩ ?_
  refine mA ⟨by decide +kernel, rfl⟩ ?_
  refine mA ⟨by decide +kernel, rfl, rfl⟩ ?_
  refine mA ⟨by decide +kernel, rfl, by decide +kernel⟩ ?_
  refine mA ⟨by decide +kernel, rfl⟩ ?_
  refine mA ⟨by decide +kernel, rfl⟩ ?_
  refine mA ⟨by decide +kernel, rfl, rfl⟩ ?_
  refine mA ⟨by decide +kernel, rfl, rfl⟩ ?_
  refine mA ⟨by decide +kernel, rfl, by decide +kernel⟩ ?_
  refine mA ⟨by decide +kernel, rfl, rfl⟩ ?_
  refine mA ⟨by decide +kernel, rfl, by decide +kernel⟩ ?_
  refine mA ⟨by decide +kernel, rfl⟩ ?_
  refine mA ⟨by decide +kernel, rfl, rfl⟩ ?_
  refine mA ⟨by decide +kernel, rfl, by decide +kernel⟩ ?_
  refine mA ⟨by decide +kernel, rfl, rfl⟩ ?_
  refine mA ⟨by decide +kernel, rfl, rfl⟩ ?_
  refine mA ⟨by decide +kernel, rfl, _, rfl, q529⟩ ?_
  refine mA ⟨by decide +kernel, rfl, by decide +kernel⟩ ?_
  refine mA ⟨by decide +kernel, rfl, rfl, by decide +kernel⟩ ?_
  refine mA ⟨by decide +kernel, rfl, rfl⟩ ?_
  refine mA ⟨by decide +kernel, rfl, by decide +kernel⟩ ?_
  refine mA ⟨by decide +kernel, rfl⟩ ?_
  refine mA ⟨by decide +kernel, rfl, rfl⟩ ?_
  refine mA ⟨by decide +kernel, rfl, rfl⟩ ?_
  refine mA ⟨by decide +kernel, rfl, by decide +kernel⟩ ?_
  refine mA ⟨by decide +kernel, rfl, by decide +kernel⟩ ?_
  refine mA ⟨by decide +kernel, rfl, rfl, by decide +kernel⟩ ?_
  refine mA ⟨by decide +kernel, rfl, rfl⟩ ?_
  refine mA ⟨by decide +kernel, rfl, by decide +kernel⟩ ?_
  refine mA ⟨by decide +kernel, rfl⟩ ?_
  refine mA ⟨by decide +kernel, rfl, rfl⟩ ?_
  refine mA ⟨by decide +kernel, rfl, rfl⟩ ?_
  refine mA ⟨by decide +kernel, rfl, by decide +kernel⟩ ?_
  refine mA ⟨by decide +kernel, rfl, by decide +kernel⟩ ?_
  refine mA ⟨by decide +kernel, rfl, rfl, by decide +kernel⟩ ?_
  refine mA ⟨by decide +kernel, rfl, rfl⟩ ?_
  refine mA ⟨by decide +kernel, rfl, by decide +kernel⟩ ?_
  refine mA ⟨by decide +kernel, rfl⟩ ?_
  refine mA ⟨by decide +kernel, rfl, rfl⟩ ?_
  refine mA ⟨by decide +kernel, rfl, rfl⟩ ?_
  refine mA ⟨by decide +kernel, rfl, by decide +kernel⟩ ?_
  refine mA ⟨by decide +kernel, rfl, by decide +kernel⟩ ?_
  refine mA ⟨by decide +kernel, rfl, rfl, by decide +kernel⟩ ?_
  refine mA ⟨by decide +kernel, rfl, rfl⟩ ?_
  refine mA ⟨by decide +kernel, rfl, by decide +kernel⟩ ?_
  refine mA ⟨by decide +kernel, rfl⟩ ?_
  refine mA ⟨by decide +kernel, rfl, rfl⟩ ?_
  refine mA ⟨by decide +kernel, rfl, rfl⟩ ?_
  refine mA ⟨by decide +kernel, rfl, rfl⟩ ?_
  refine mA ⟨by decide +kernel, rfl, by decide +kernel⟩ ?_
  refine mA ⟨by decide +kernel, rfl⟩ ?_
  refine mA ⟨by decide +kernel, rfl⟩ ?_
  refine mA ⟨by decide +kernel, rfl, rfl⟩ ?_
  exact trivial
set_option maxRecDepth 100000 in
set_option maxHeartbeats 4000000 in
theorem okJ13_numberOfLeadingZeros_95d88 : mAllOk (mMt0 144) tbJ13_numberOfLeadingZeros_95d88 := by
  rw [mtJ13_numberOfLeadingZeros_95d88]
  unfold tbJ13_numberOfLeadingZeros_95d88
  refine mA ⟨by decide +kernel, rfl, rfl⟩ ?_
  refine mA ⟨by decide +kernel, rfl, by decide +kernel⟩ ?_
  refine mA ⟨by decide +kernel, rfl⟩ ?_
  refine mA ⟨by decide +kernel, rfl⟩ ?_
  refine mA ⟨by decide +kernel, rfl, rfl⟩ ?_
  refine mA ⟨by decide +kernel, rfl, rfl⟩ ?_
  refine mA ⟨by decide +kernel, rfl, by decide +kernel⟩ ?_
  refine mA ⟨by decide +kernel, rfl, by decide +kernel⟩ ?_
  refine mA ⟨by decide +kernel, rfl, rfl⟩ ?_
  refine mA ⟨by decide +kernel, rfl⟩ ?_
  refine mA ⟨by decide +kernel, rfl, q530, cS142⟩ ?_
  refine mA ⟨by decide +kernel, rfl⟩ ?_
  refine mA ⟨by decide +kernel, rfl, by decide +kernel⟩ ?_
  refine mA ⟨by decide +kernel, rfl, rfl⟩ ?_
  refine mA ⟨by decide +kernel, rfl, q530, cS142⟩ ?_
  refine mA ⟨by decide +kernel, rfl, rfl⟩ ?_
  exact trivial
set_option maxRecDepth 100000 in
set_option maxHeartbeats 4000000 in
theorem okJ13_numberOfTrailingZeros_95d88 : mAllOk (mMt0 145) tbJ13_numberOfTrailingZeros_95d88 := by
  rw [mtJ13_numberOfTrailingZeros_95d88]
  unfold tbJ13_numberOfTrailingZeros_95d88
  refine mA ⟨by decide +kernel, rfl, rfl⟩ ?_
  refine mA ⟨by decide +kernel, rfl⟩ ?_
  refine mA ⟨by decide +kernel, rfl, rfl⟩ ?_
  refine mA ⟨by decide +kernel, rfl, rfl⟩ ?_
  refine mA ⟨by decide +kernel, rfl, by decide +kernel⟩ ?_
  refine mA ⟨by decide +kernel, rfl, by decide +kernel⟩ ?_
  refine mA ⟨by decide +kernel, rfl, rfl⟩ ?_
  refine mA ⟨by decide +kernel, rfl, by decide +kernel⟩ ?_
  refine mA ⟨by decide +kernel, rfl⟩ ?_
  refine mA ⟨by decide +kernel, rfl⟩ ?_
  refine mA ⟨by decide +kernel, rfl, q534, cS143⟩ ?_
  refine mA ⟨by decide +kernel, rfl⟩ ?_
  refine mA ⟨by decide +kernel, rfl, by decide +kernel⟩ ?_
  refine mA ⟨by decide +kernel, rfl, rfl⟩ ?_
  refine mA ⟨by decide +kernel, rfl, q534, cS143⟩ ?_
  refine mA ⟨by decide +kernel, rfl, rfl⟩ ?_
  exact trivial
set_option maxRecDepth 100000 in
set_option maxHeartbeats 4000000 in
theorem okJ7_fill_d0a16 : mAllOk (mMt0 146) tbJ7_fill_d0a16 := by
  rw [mtJ7_fill_d0a16]
  unfold tbJ7_fill_d0a16
  refine mA ⟨by decide +kernel, rfl, by decide +kernel⟩ ?_
  refine mA ⟨by decide +kernel, rfl, rfl⟩ ?_
  refine mA ⟨by decide +kernel, rfl, rfl⟩ ?_
  refine mA ⟨by decide +kernel, rfl⟩ ?_
  refine mA ⟨by decide +kernel, rfl, rfl⟩ ?_
  refine mA ⟨by decide +kernel, rfl, rfl⟩ ?_
  refine mA ⟨by decide +kernel, rfl, rfl⟩ ?_
  refine mA ⟨by decide +kernel, rfl, by decide +kernel⟩ ?_
  refine mA ⟨by decide +kernel, rfl, rfl⟩ ?_
  refine mA ⟨by decide +kernel, rfl, rfl⟩ ?_
  refine mA ⟨by decide +kernel, rfl, rfl⟩ ?_
  refine mA ⟨by decide +kernel, rfl⟩ ?_
  refine mA ⟨by decide +kernel, rfl, rfl, by decide +kernel⟩ ?_
  refine mA ⟨by decide +kernel, rfl, by decide +kernel⟩ ?_
  refine mA ⟨by decide +kernel, rfl, rfl⟩ ?_
  exact trivial
set_option maxRecDepth 100000 in
set_option maxHeartbeats 4000000 in
theorem okL_add : mAllOk (mMt0 147) tbL_add := by
  rw [mtL_add]
  unfold tbL_add
  refine mA ⟨by decide +kernel, rfl, rfl⟩ ?_
  refine mA ⟨by decide +kernel, rfl, by decide +kernel⟩ ?_
  refine mA ⟨by decide +kernel, rfl, rfl⟩ ?_
  refine mA ⟨by decide +kernel, rfl, rfl⟩ ?_
  refine mA ⟨by decide +kernel, rfl, rfl, ⟨TX8, 5, rfl⟩, q537, cV59⟩ ?_
  refine mA ⟨by decide +kernel, rfl⟩ ?_
  refine mA ⟨by decide +kernel, rfl⟩ ?_
  refine mA ⟨by decide +kernel, rfl, by decide +kernel⟩ ?_
  refine mA ⟨by decide +kernel, rfl, rfl⟩ ?_
  refine mA ⟨by decide +kernel, rfl, by decide +kernel⟩ ?_
  refine mA ⟨by decide +kernel, rfl, rfl⟩ ?_
  refine mA ⟨by decide +kernel, rfl, by decide +kernel⟩ ?_
  refine mA ⟨by decide +kernel, rfl, rfl⟩ ?_
  exact trivial
set_option maxRecDepth 100000 in
set_option maxHeartbeats 4000000 in
theorem okL_decimal : mAllOk (mMt0 148) tbL_decimal := by
  rw [mtL_decimal]
  unfold tbL_decimal
  refine mA ⟨by decide +kernel, rfl, rfl⟩ ?_
  refine mA ⟨by decide +kernel, rfl, by decide +kernel⟩ ?_
  refine mA ⟨by decide +kernel, rfl, rfl⟩ ?_
  refine mA ⟨by decide +kernel, rfl, rfl⟩ ?_
  refine mA ⟨by decide +kernel, rfl, rfl⟩ ?_
  refine mA ⟨by decide +kernel, rfl, rfl, ⟨TX8, 5, rfl⟩, q542, cV60⟩ ?_
  refine mA ⟨by decide +kernel, rfl⟩ ?_
  refine mA ⟨by decide +kernel, rfl⟩ ?_
  refine mA ⟨by decide +kernel, rfl, by decide +kernel⟩ ?_
  refine mA ⟨by decide +kernel, rfl, rfl⟩ ?_
  refine mA ⟨by decide +kernel, rfl, by decide +kernel⟩ ?_
  refine mA ⟨by decide +kernel, rfl, rfl⟩ ?_
  refine mA ⟨by decide +kernel, rfl, rfl⟩ ?_
  refine mA ⟨by decide +kernel, rfl, by decide +kernel⟩ ?_
  refine mA ⟨by decide +kernel, rfl, rfl⟩ ?_
  refine mA ⟨by decide +kernel, rfl, by decide +kernel⟩ ?_
  refine mA ⟨by decide +kernel, rfl, rfl⟩ ?_
  exact trivial
set_option maxRecDepth 100000 in
set_option maxHeartbeats 4000000 in
theorem okL_value : mAllOk (mMt0 149) tbL_value := by
  rw [mtL_value]
  unfold tbL_value
  refine mA ⟨by decide +kernel, rfl, rfl⟩ ?_
  refine mA ⟨by decide +kernel, rfl, by decide +kernel⟩ ?_
  refine mA ⟨by decide +kernel, rfl, rfl⟩ ?_
  refine mA ⟨by decide +kernel, rfl, rfl⟩ ?_
  refine mA ⟨by decide +kernel, rfl, rfl, ⟨TX8, 5, rfl⟩, q547, cV63⟩ ?_
  refine mA ⟨by decide +kernel, rfl⟩ ?_
  refine mA ⟨by decide +kernel, rfl, by decide +kernel⟩ ?_
  refine mA ⟨by decide +kernel, rfl, rfl⟩ ?_
  refine mA ⟨by decide +kernel, rfl, by decide +kernel⟩ ?_
  refine mA ⟨by decide +kernel, rfl, rfl⟩ ?_
  refine mA ⟨by decide +kernel, rfl, by decide +kernel⟩ ?_
  refine mA ⟨by decide +kernel, rfl, rfl⟩ ?_
  exact trivial
set_option maxRecDepth 100000 in
set_option maxHeartbeats 4000000 in
theorem okL_turned : mAllOk (mMt0 150) tbL_turned := by
  rw [mtL_turned]
  unfold tbL_turned
  refine mA ⟨by decide +kernel, rfl, rfl⟩ ?_
  refine mA ⟨by decide +kernel, rfl, by decide +kernel⟩ ?_
  refine mA ⟨by decide +kernel, rfl, rfl⟩ ?_
  refine mA ⟨by decide +kernel, rfl, rfl⟩ ?_
  refine mA ⟨by decide +kernel, rfl, rfl, ⟨TX8, 5, rfl⟩, q552, cV64⟩ ?_
  refine mA ⟨by decide +kernel, rfl⟩ ?_
  refine mA ⟨by decide +kernel, rfl, by decide +kernel⟩ ?_
  refine mA ⟨by decide +kernel, rfl, rfl⟩ ?_
  refine mA ⟨by decide +kernel, rfl, by decide +kernel⟩ ?_
  refine mA ⟨by decide +kernel, rfl, rfl⟩ ?_
  refine mA ⟨by decide +kernel, rfl, by decide +kernel⟩ ?_
  refine mA ⟨by decide +kernel, rfl, rfl⟩ ?_
  exact trivial
set_option maxRecDepth 100000 in
set_option maxHeartbeats 4000000 in
theorem okL_rank : mAllOk (mMt0 151) tbL_rank := by
  rw [mtL_rank]
  unfold tbL_rank
  refine mA ⟨by decide +kernel, rfl, rfl⟩ ?_
  refine mA ⟨by decide +kernel, rfl, by decide +kernel⟩ ?_
  refine mA ⟨by decide +kernel, rfl, rfl⟩ ?_
  refine mA ⟨by decide +kernel, rfl, rfl⟩ ?_
  refine mA ⟨by decide +kernel, rfl, rfl, ⟨TX8, 5, rfl⟩, q556, cV65⟩ ?_
  refine mA ⟨by decide +kernel, rfl⟩ ?_
  refine mA ⟨by decide +kernel, rfl⟩ ?_
  refine mA ⟨by decide +kernel, rfl, by decide +kernel⟩ ?_
  refine mA ⟨by decide +kernel, rfl, rfl⟩ ?_
  refine mA ⟨by decide +kernel, rfl, by decide +kernel⟩ ?_
  refine mA ⟨by decide +kernel, rfl, rfl⟩ ?_
  refine mA ⟨by decide +kernel, rfl, by decide +kernel⟩ ?_
  refine mA ⟨by decide +kernel, rfl, rfl⟩ ?_
  exact trivial
set_option maxRecDepth 100000 in
set_option maxHeartbeats 4000000 in
theorem okL_foretold : mAllOk (mMt0 152) tbL_foretold := by
  rw [mtL_foretold]
  unfold tbL_foretold
  refine mA ⟨by decide +kernel, rfl, rfl⟩ ?_
  refine mA ⟨by decide +kernel, rfl, by decide +kernel⟩ ?_
  refine mA ⟨by decide +kernel, rfl, rfl⟩ ?_
  refine mA ⟨by decide +kernel, rfl, rfl⟩ ?_
  refine mA ⟨by decide +kernel, rfl, rfl⟩ ?_
  refine mA ⟨by decide +kernel, rfl, rfl⟩ ?_
  refine mA ⟨by decide +kernel, rfl, rfl, ⟨TX8, 5, rfl⟩, q560, cV66⟩ ?_
  refine mA ⟨by decide +kernel, rfl⟩ ?_
  refine mA ⟨by decide +kernel, rfl, by decide +kernel⟩ ?_
  refine mA ⟨by decide +kernel, rfl, rfl⟩ ?_
  refine mA ⟨by decide +kernel, rfl, by decide +kernel⟩ ?_
  refine mA ⟨by decide +kernel, rfl, rfl⟩ ?_
  refine mA ⟨by decide +kernel, rfl, rfl⟩ ?_
  refine mA ⟨by decide +kernel, rfl, by decide +kernel⟩ ?_
  refine mA ⟨by decide +kernel, rfl, rfl⟩ ?_
  refine mA ⟨by decide +kernel, rfl, by decide +kernel⟩ ?_
  refine mA ⟨by decide +kernel, rfl, rfl⟩ ?_
  exact trivial
set_option maxRecDepth 100000 in
set_option maxHeartbeats 4000000 in
theorem okL_power : mAllOk (mMt0 153) tbL_power := by
  rw [mtL_power]
  unfold tbL_power
  refine mA ⟨by decide +kernel, rfl, rfl⟩ ?_
  refine mA ⟨by decide +kernel, rfl, by decide +kernel⟩ ?_
  refine mA ⟨by decide +kernel, rfl, rfl⟩ ?_
  refine mA ⟨by decide +kernel, rfl, rfl⟩ ?_
  refine mA ⟨by decide +kernel, rfl, rfl, ⟨TX8, 5, rfl⟩, q564, cV67⟩ ?_
  refine mA ⟨by decide +kernel, rfl⟩ ?_
  refine mA ⟨by decide +kernel, rfl⟩ ?_
  refine mA ⟨by decide +kernel, rfl, by decide +kernel⟩ ?_
  refine mA ⟨by decide +kernel, rfl, rfl⟩ ?_
  refine mA ⟨by decide +kernel, rfl, by decide +kernel⟩ ?_
  refine mA ⟨by decide +kernel, rfl, rfl⟩ ?_
  refine mA ⟨by decide +kernel, rfl, by decide +kernel⟩ ?_
  refine mA ⟨by decide +kernel, rfl, rfl⟩ ?_
  exact trivial
set_option maxRecDepth 100000 in
set_option maxHeartbeats 4000000 in
theorem okL_scaled : mAllOk (mMt0 154) tbL_scaled := by
  rw [mtL_scaled]
  unfold tbL_scaled
  refine mA ⟨by decide +kernel, rfl, rfl⟩ ?_
  refine mA ⟨by decide +kernel, rfl, by decide +kernel⟩ ?_
  refine mA ⟨by decide +kernel, rfl, rfl⟩ ?_
  refine mA ⟨by decide +kernel, rfl, rfl⟩ ?_
  refine mA ⟨by decide +kernel, rfl, rfl⟩ ?_
  refine mA ⟨by decide +kernel, rfl, rfl, ⟨TX8, 5, rfl⟩, q568, cV68⟩ ?_
  refine mA ⟨by decide +kernel, rfl⟩ ?_
  refine mA ⟨by decide +kernel, rfl, by decide +kernel⟩ ?_
  refine mA ⟨by decide +kernel, rfl, rfl⟩ ?_
  refine mA ⟨by decide +kernel, rfl, by decide +kernel⟩ ?_
  refine mA ⟨by decide +kernel, rfl, rfl⟩ ?_
  refine mA ⟨by decide +kernel, rfl, rfl⟩ ?_
  refine mA ⟨by decide +kernel, rfl, by decide +kernel⟩ ?_
  refine mA ⟨by decide +kernel, rfl, rfl⟩ ?_
  refine mA ⟨by decide +kernel, rfl, rfl⟩ ?_
  refine mA ⟨by decide +kernel, rfl, by decide +kernel⟩ ?_
  refine mA ⟨by decide +kernel, rfl, rfl⟩ ?_
  refine mA ⟨by decide +kernel, rfl, by decide +kernel⟩ ?_
  refine mA ⟨by decide +kernel, rfl, rfl⟩ ?_
  exact trivial
set_option maxRecDepth 100000 in
set_option maxHeartbeats 4000000 in
theorem okL_pack : mAllOk (mMt0 155) tbL_pack := by
  rw [mtL_pack]
  unfold tbL_pack
  refine mA ⟨by decide +kernel, rfl, rfl⟩ ?_
  refine mA ⟨by decide +kernel, rfl, by decide +kernel⟩ ?_
  refine mA ⟨by decide +kernel, rfl, rfl⟩ ?_
  refine mA ⟨by decide +kernel, rfl, rfl⟩ ?_
  refine mA ⟨by decide +kernel, rfl, rfl, ⟨TX8, 5, rfl⟩, q573, cV69⟩ ?_
  refine mA ⟨by decide +kernel, rfl⟩ ?_
  refine mA ⟨by decide +kernel, rfl⟩ ?_
  refine mA ⟨by decide +kernel, rfl, by decide +kernel⟩ ?_
  refine mA ⟨by decide +kernel, rfl, rfl⟩ ?_
  refine mA ⟨by decide +kernel, rfl, by decide +kernel⟩ ?_
  refine mA ⟨by decide +kernel, rfl, rfl⟩ ?_
  refine mA ⟨by decide +kernel, rfl, by decide +kernel⟩ ?_
  refine mA ⟨by decide +kernel, rfl, rfl⟩ ?_
  exact trivial
set_option maxRecDepth 100000 in
set_option maxHeartbeats 4000000 in
theorem okL_way : mAllOk (mMt0 156) tbL_way := by
  rw [mtL_way]
  unfold tbL_way
  refine mA ⟨by decide +kernel, rfl, rfl⟩ ?_
  refine mA ⟨by decide +kernel, rfl, by decide +kernel⟩ ?_
  refine mA ⟨by decide +kernel, rfl, rfl⟩ ?_
  refine mA ⟨by decide +kernel, rfl, rfl⟩ ?_
  refine mA ⟨by decide +kernel, rfl, rfl, ⟨TX8, 5, rfl⟩, q577, cV71⟩ ?_
  refine mA ⟨by decide +kernel, rfl⟩ ?_
  refine mA ⟨by decide +kernel, rfl⟩ ?_
  refine mA ⟨by decide +kernel, rfl, by decide +kernel⟩ ?_
  refine mA ⟨by decide +kernel, rfl, rfl⟩ ?_
  refine mA ⟨by decide +kernel, rfl, by decide +kernel⟩ ?_
  refine mA ⟨by decide +kernel, rfl, rfl⟩ ?_
  refine mA ⟨by decide +kernel, rfl, by decide +kernel⟩ ?_
  refine mA ⟨by decide +kernel, rfl, rfl⟩ ?_
  exact trivial
set_option maxRecDepth 100000 in
set_option maxHeartbeats 4000000 in
theorem okL_bits : mAllOk (mMt0 157) tbL_bits := by
  rw [mtL_bits]
  unfold tbL_bits
  refine mA ⟨by decide +kernel, rfl, rfl⟩ ?_
  refine mA ⟨by decide +kernel, rfl, by decide +kernel⟩ ?_
  refine mA ⟨by decide +kernel, rfl, rfl⟩ ?_
  refine mA ⟨by decide +kernel, rfl, rfl⟩ ?_
  refine mA ⟨by decide +kernel, rfl, rfl⟩ ?_
  refine mA ⟨by decide +kernel, rfl, rfl, ⟨TX8, 5, rfl⟩, q581, cV72⟩ ?_
  refine mA ⟨by decide +kernel, rfl⟩ ?_
  refine mA ⟨by decide +kernel, rfl⟩ ?_
  refine mA ⟨by decide +kernel, rfl, by decide +kernel⟩ ?_
  refine mA ⟨by decide +kernel, rfl, rfl⟩ ?_
  refine mA ⟨by decide +kernel, rfl, by decide +kernel⟩ ?_
  refine mA ⟨by decide +kernel, rfl, rfl⟩ ?_
  refine mA ⟨by decide +kernel, rfl, rfl⟩ ?_
  refine mA ⟨by decide +kernel, rfl, by decide +kernel⟩ ?_
  refine mA ⟨by decide +kernel, rfl, rfl⟩ ?_
  refine mA ⟨by decide +kernel, rfl, by decide +kernel⟩ ?_
  refine mA ⟨by decide +kernel, rfl, rfl⟩ ?_
  exact trivial
set_option maxRecDepth 100000 in
set_option maxHeartbeats 4000000 in
theorem okL_out : mAllOk (mMt0 158) tbL_out := by
  rw [mtL_out]
  unfold tbL_out
  refine mA ⟨by decide +kernel, rfl, rfl⟩ ?_
  refine mA ⟨by decide +kernel, rfl, by decide +kernel⟩ ?_
  refine mA ⟨by decide +kernel, rfl, rfl⟩ ?_
  refine mA ⟨by decide +kernel, rfl, rfl⟩ ?_
  refine mA ⟨by decide +kernel, rfl, rfl, ⟨TX8, 5, rfl⟩, q585, cV74⟩ ?_
  refine mA ⟨by decide +kernel, rfl⟩ ?_
  refine mA ⟨by decide +kernel, rfl⟩ ?_
  refine mA ⟨by decide +kernel, rfl, by decide +kernel⟩ ?_
  refine mA ⟨by decide +kernel, rfl, rfl⟩ ?_
  refine mA ⟨by decide +kernel, rfl, by decide +kernel⟩ ?_
  refine mA ⟨by decide +kernel, rfl, rfl⟩ ?_
  refine mA ⟨by decide +kernel, rfl, by decide +kernel⟩ ?_
  refine mA ⟨by decide +kernel, rfl, rfl⟩ ?_
  exact trivial
set_option maxRecDepth 100000 in
set_option maxHeartbeats 4000000 in
theorem okL_feed : mAllOk (mMt0 159) tbL_feed := by
  rw [mtL_feed]
  unfold tbL_feed
  refine mA ⟨by decide +kernel, rfl, rfl⟩ ?_
  refine mA ⟨by decide +kernel, rfl, by decide +kernel⟩ ?_
  refine mA ⟨by decide +kernel, rfl, rfl⟩ ?_
  refine mA ⟨by decide +kernel, rfl, rfl⟩ ?_
  refine mA ⟨by decide +kernel, rfl, rfl⟩ ?_
  refine mA ⟨by decide +kernel, rfl, rfl, ⟨TX8, 5, rfl⟩, q589, cV75⟩ ?_
  refine mA ⟨by decide +kernel, rfl⟩ ?_
  refine mA ⟨by decide +kernel, rfl⟩ ?_
  refine mA ⟨by decide +kernel, rfl, by decide +kernel⟩ ?_
  refine mA ⟨by decide +kernel, rfl, rfl⟩ ?_
  refine mA ⟨by decide +kernel, rfl, by decide +kernel⟩ ?_
  refine mA ⟨by decide +kernel, rfl, rfl⟩ ?_
  refine mA ⟨by decide +kernel, rfl, rfl⟩ ?_
  refine mA ⟨by decide +kernel, rfl, by decide +kernel⟩ ?_
  refine mA ⟨by decide +kernel, rfl, rfl⟩ ?_
  refine mA ⟨by decide +kernel, rfl, by decide +kernel⟩ ?_
  refine mA ⟨by decide +kernel, rfl, rfl⟩ ?_
  exact trivial
set_option maxRecDepth 100000 in
set_option maxHeartbeats 4000000 in
theorem okL_cut : mAllOk (mMt0 160) tbL_cut := by
  rw [mtL_cut]
  unfold tbL_cut
  refine mA ⟨by decide +kernel, rfl, rfl⟩ ?_
  refine mA ⟨by decide +kernel, rfl, by decide +kernel⟩ ?_
  refine mA ⟨by decide +kernel, rfl, rfl⟩ ?_
  refine mA ⟨by decide +kernel, rfl, rfl⟩ ?_
  refine mA ⟨by decide +kernel, rfl, rfl, ⟨TX8, 5, rfl⟩, q593, cV76⟩ ?_
  refine mA ⟨by decide +kernel, rfl⟩ ?_
  refine mA ⟨by decide +kernel, rfl⟩ ?_
  refine mA ⟨by decide +kernel, rfl, by decide +kernel⟩ ?_
  refine mA ⟨by decide +kernel, rfl, rfl⟩ ?_
  refine mA ⟨by decide +kernel, rfl, by decide +kernel⟩ ?_
  refine mA ⟨by decide +kernel, rfl, rfl⟩ ?_
  refine mA ⟨by decide +kernel, rfl, by decide +kernel⟩ ?_
  refine mA ⟨by decide +kernel, rfl, rfl⟩ ?_
  exact trivial
set_option maxRecDepth 100000 in
set_option maxHeartbeats 4000000 in
theorem okL_change : mAllOk (mMt0 161) tbL_change := by
  rw [mtL_change]
  unfold tbL_change
  refine mA ⟨by decide +kernel, rfl, rfl⟩ ?_
  refine mA ⟨by decide +kernel, rfl, by decide +kernel⟩ ?_
  refine mA ⟨by decide +kernel, rfl, rfl⟩ ?_
  refine mA ⟨by decide +kernel, rfl, rfl⟩ ?_
  refine mA ⟨by decide +kernel, rfl, rfl⟩ ?_
  refine mA ⟨by decide +kernel, rfl, rfl, ⟨TX8, 5, rfl⟩, q597, cV78⟩ ?_
  refine mA ⟨by decide +kernel, rfl⟩ ?_
  refine mA ⟨by decide +kernel, rfl⟩ ?_
  refine mA ⟨by decide +kernel, rfl, by decide +kernel⟩ ?_
  refine mA ⟨by decide +kernel, rfl, rfl⟩ ?_
  refine mA ⟨by decide +kernel, rfl, by decide +kernel⟩ ?_
  refine mA ⟨by decide +kernel, rfl, rfl⟩ ?_
  refine mA ⟨by decide +kernel, rfl, rfl⟩ ?_
  refine mA ⟨by decide +kernel, rfl, by decide +kernel⟩ ?_
  refine mA ⟨by decide +kernel, rfl, rfl⟩ ?_
  refine mA ⟨by decide +kernel, rfl, by decide +kernel⟩ ?_
  refine mA ⟨by decide +kernel, rfl, rfl⟩ ?_
  exact trivial
theorem swL_law_39 : okI (mMt0 162).1.cls mTs mMt0 ((mMt0 162).1.name == "<init>") (mMt0 162).2.2.2.1 (mMt0 162).2.1 39 (.tableswitch 1176 0 21 #[101, 189, 257, 270, 283, 338, 393, 449, 528, 584, 651, 707, 720, 776, 844, 857, 913, 1013, 1069, 1082, 1150, 1163]) 101 [0, 140, 1, 228, 2, 296, 3, 309, 4, 322, 5, 377, 6, 432, 7, 488, 8, 567, 9, 623, 10, 690, 11, 746, 12, 759, 13, 815, 14, 883, 15, 896, 16, 952, 17, 1052, 18, 1108, 19, 1121, 20, 1189, 21, 1202, 1215] .null := mSw_ok (lo := 0) (n := 22) (dflt := 1215) (tg := [140, 228, 296, 309, 322, 377, 432, 488, 567, 623, 690, 746, 759, 815, 883, 896, 952, 1052, 1108, 1121, 1189, 1202]) rfl rfl (by decide) (by decide) (by decide) (by decide) (by
  intro j hj
  match j, hj with
  | 0, _ => exact ⟨_, rfl, _, rfl, by decide⟩
  | 1, _ => exact ⟨_, rfl, _, rfl, by decide⟩
  | 2, _ => exact ⟨_, rfl, _, rfl, by decide⟩
  | 3, _ => exact ⟨_, rfl, _, rfl, by decide⟩
  | 4, _ => exact ⟨_, rfl, _, rfl, by decide⟩
  | 5, _ => exact ⟨_, rfl, _, rfl, by decide⟩
  | 6, _ => exact ⟨_, rfl, _, rfl, by decide⟩
  | 7, _ => exact ⟨_, rfl, _, rfl, by decide⟩
  | 8, _ => exact ⟨_, rfl, _, rfl, by decide⟩
  | 9, _ => exact ⟨_, rfl, _, rfl, by decide⟩
  | 10, _ => exact ⟨_, rfl, _, rfl, by decide⟩
  | 11, _ => exact ⟨_, rfl, _, rfl, by decide⟩
  | 12, _ => exact ⟨_, rfl, _, rfl, by decide⟩
  | 13, _ => exact ⟨_, rfl, _, rfl, by decide⟩
  | 14, _ => exact ⟨_, rfl, _, rfl, by decide⟩
  | 15, _ => exact ⟨_, rfl, _, rfl, by decide⟩
  | 16, _ => exact ⟨_, rfl, _, rfl, by decide⟩
  | 17, _ => exact ⟨_, rfl, _, rfl, by decide⟩
  | 18, _ => exact ⟨_, rfl, _, rfl, by decide⟩
  | 19, _ => exact ⟨_, rfl, _, rfl, by decide⟩
  | 20, _ => exact ⟨_, rfl, _, rfl, by decide⟩
  | 21, _ => exact ⟨_, rfl, _, rfl, by decide⟩
  | j + 22, hj => omega)
set_option maxRecDepth 100000 in
set_option maxHeartbeats 4000000 in
theorem okL_law : mAllOk (mMt0 162) tbL_law := by
  rw [mtL_law]
  unfold tbL_law
  refine mA ⟨by decide +kernel, rfl, RX8, TX8, 5, rfl, rfl, by decide +kernel, mIn_wsX80, q601, q602, q23⟩ ?_
  refine mA ⟨by decide +kernel, rfl⟩ ?_
  refine mA ⟨by decide +kernel, rfl, rfl, rfl, Or.inl q603, cI58⟩ ?_
  refine mA ⟨by decide +kernel, rfl, rfl⟩ ?_
  refine mA ⟨by decide +kernel, rfl, RX9, TX9, 25, rfl, rfl, by decide +kernel, mIn_wsX90, q606, q607, q391⟩ ?_
  refine mA ⟨by decide +kernel, rfl⟩ ?_
  refine mA ⟨by decide +kernel, rfl, rfl, rfl, Or.inl q608, cI87⟩ ?_
  refine mA ⟨by decide +kernel, rfl, rfl⟩ ?_
  refine mA ⟨by decide +kernel, rfl, by decide +kernel⟩ ?_
  refine mA ⟨by decide +kernel, rfl, q64⟩ ?_
  refine mA ⟨by decide +kernel, rfl, rfl⟩ ?_
  refine mA ⟨by decide +kernel, rfl, by decide +kernel⟩ ?_
  refine mA ⟨by decide +kernel, rfl, rfl⟩ ?_
  refine mA ⟨by decide +kernel, rfl, rfl⟩ ?_
  refine mA ⟨by decide +kernel, rfl, rfl⟩ ?_
  refine mA ⟨by decide +kernel, rfl⟩ ?_
  refine mA ⟨by decide +kernel, rfl, by decide +kernel⟩ ?_
  refine mA ⟨by decide +kernel, rfl⟩ ?_
  refine mA ⟨by decide +kernel, rfl, by decide +kernel⟩ ?_
  refine mA ⟨by decide +kernel, rfl, rfl⟩ ?_
  refine mA ⟨by decide +kernel, rfl, rfl⟩ ?_
  refine mA ⟨by decide +kernel, rfl⟩ ?_
  refine mA ⟨by decide +kernel, rfl, by decide +kernel⟩ ?_
  refine mA ⟨by decide +kernel, rfl⟩ ?_
  refine mA ⟨by decide +kernel, swL_law_39⟩ ?_
  refine mA ⟨by decide +kernel, rfl, rfl⟩ ?_
  refine mA ⟨by decide +kernel, rfl, rfl⟩ ?_
  refine mA ⟨by decide +kernel, rfl, rfl⟩ ?_
  refine mA ⟨by decide +kernel, rfl, by decide +kernel⟩ ?_
  refine mA ⟨by decide +kernel, rfl⟩ ?_
  refine mA ⟨by decide +kernel, rfl⟩ ?_
  refine mA ⟨by decide +kernel, rfl⟩ ?_
  refine mA ⟨by decide +kernel, rfl, by decide +kernel⟩ ?_
  refine mA ⟨by decide +kernel, rfl⟩ ?_
  refine mA ⟨by decide +kernel, rfl, rfl⟩ ?_
  refine mA ⟨by decide +kernel, rfl, rfl⟩ ?_
  refine mA ⟨by decide +kernel, rfl, by decide +kernel⟩ ?_
  refine mA ⟨by decide +kernel, rfl⟩ ?_
  refine mA ⟨by decide +kernel, rfl⟩ ?_
  refine mA ⟨by decide +kernel, rfl⟩ ?_
  refine mA ⟨by decide +kernel, rfl, _, rfl, q611⟩ ?_
  refine mA ⟨by decide +kernel, rfl⟩ ?_
  refine mA ⟨by decide +kernel, rfl⟩ ?_
  refine mA ⟨by decide +kernel, rfl, rfl⟩ ?_
  refine mA ⟨by decide +kernel, rfl, q612, cS147⟩ ?_
  refine mA ⟨by decide +kernel, rfl, rfl⟩ ?_
  refine mA ⟨by decide +kernel, rfl, rfl⟩ ?_
  refine mA ⟨by decide +kernel, rfl, rfl⟩ ?_
  refine mA ⟨by decide +kernel, rfl, rfl⟩ ?_
  refine mA ⟨by decide +kernel, rfl, by decide +kernel⟩ ?_
  refine mA ⟨by decide +kernel, rfl⟩ ?_
  refine mA ⟨by decide +kernel, rfl⟩ ?_
  refine mA ⟨by decide +kernel, rfl⟩ ?_
  refine mA ⟨by decide +kernel, rfl, by decide +kernel⟩ ?_
  refine mA ⟨by decide +kernel, rfl⟩ ?_
  refine mA ⟨by decide +kernel, rfl, rfl⟩ ?_
  refine mA ⟨by decide +kernel, rfl, rfl⟩ ?_
  refine mA ⟨by decide +kernel, rfl, by decide +kernel⟩ ?_
  refine mA ⟨by decide +kernel, rfl⟩ ?_
  refine mA ⟨by decide +kernel, rfl⟩ ?_
  refine mA ⟨by decide +kernel, rfl⟩ ?_
  refine mA ⟨by decide +kernel, rfl, _, rfl, q611⟩ ?_
  refine mA ⟨by decide +kernel, rfl⟩ ?_
  refine mA ⟨by decide +kernel, rfl⟩ ?_
  refine mA ⟨by decide +kernel, rfl, rfl, ⟨TX9, 25, rfl⟩, q616, cV90⟩ ?_
  refine mA ⟨by decide +kernel, rfl, rfl⟩ ?_
  refine mA ⟨by decide +kernel, rfl, rfl⟩ ?_
  refine mA ⟨by decide +kernel, rfl, rfl, ⟨TX9, 25, rfl⟩, q620, cV88⟩ ?_
  refine mA ⟨by decide +kernel, rfl, rfl⟩ ?_
  refine mA ⟨by decide +kernel, rfl, by decide +kernel⟩ ?_
  refine mA ⟨by decide +kernel, rfl, by decide +kernel⟩ ?_
  refine mA ⟨by decide +kernel, rfl, rfl⟩ ?_
  refine mA ⟨by decide +kernel, rfl, rfl⟩ ?_
  refine mA ⟨by decide +kernel, rfl, by decide +kernel⟩ ?_
  refine mA ⟨by decide +kernel, rfl, rfl⟩ ?_
  refine mA ⟨by decide +kernel, rfl, by decide +kernel⟩ ?_
  refine mA ⟨by decide +kernel, rfl⟩ ?_
  refine mA ⟨by decide +kernel, rfl, rfl⟩ ?_
  refine mA ⟨by decide +kernel, rfl⟩ ?_
  refine mA ⟨by decide +kernel, rfl⟩ ?_
  refine mA ⟨by decide +kernel, rfl, by decide +kernel⟩ ?_
  refine mA ⟨by decide +kernel, rfl, by decide +kernel⟩ ?_
  refine mA ⟨by decide +kernel, rfl, rfl⟩ ?_
  refine mA ⟨by decide +kernel, rfl, by decide +kernel⟩ ?_
  refine mA ⟨by decide +kernel, rfl, rfl⟩ ?_
  refine mA ⟨by decide +kernel, rfl, rfl⟩ ?_
  refine mA ⟨by decide +kernel, rfl, rfl⟩ ?_
  refine mA ⟨by decide +kernel, rfl, by decide +kernel⟩ ?_
  refine mA ⟨by decide +kernel, rfl⟩ ?_
  refine mA ⟨by decide +kernel, rfl⟩ ?_
  refine mA ⟨by decide +kernel, rfl, rfl⟩ ?_
  refine mA ⟨by decide +kernel, rfl, rfl⟩ ?_
  refine mA ⟨by decide +kernel, rfl, by decide +kernel⟩ ?_
  refine mA ⟨by decide +kernel, rfl⟩ ?_
  refine mA ⟨by decide +kernel, rfl⟩ ?_
  refine mA ⟨by decide +kernel, rfl, rfl⟩ ?_
  refine mA ⟨by decide +kernel, rfl, q624, cS148⟩ ?_
  refine mA ⟨by decide +kernel, rfl, rfl⟩ ?_
  refine mA ⟨by decide +kernel, rfl, rfl⟩ ?_
  refine mA ⟨by decide +kernel, rfl, rfl⟩ ?_
  refine mA ⟨by decide +kernel, rfl, rfl⟩ ?_
  refine mA ⟨by decide +kernel, rfl, by decide +kernel⟩ ?_
  refine mA ⟨by decide +kernel, rfl⟩ ?_
  refine mA ⟨by decide +kernel, rfl⟩ ?_
  refine mA ⟨by decide +kernel, rfl, rfl⟩ ?_
  refine mA ⟨by decide +kernel, rfl, rfl⟩ ?_
  refine mA ⟨by decide +kernel, rfl, by decide +kernel⟩ ?_
  refine mA ⟨by decide +kernel, rfl⟩ ?_
  refine mA ⟨by decide +kernel, rfl⟩ ?_
  refine mA ⟨by decide +kernel, rfl, rfl, ⟨TX9, 25, rfl⟩, q627, cV91⟩ ?_
  refine mA ⟨by decide +kernel, rfl, rfl⟩ ?_
  refine mA ⟨by decide +kernel, rfl, rfl⟩ ?_
  refine mA ⟨by decide +kernel, rfl, rfl, ⟨TX9, 25, rfl⟩, q620, cV88⟩ ?_
  refine mA ⟨by decide +kernel, rfl, rfl⟩ ?_
  refine mA ⟨by decide +kernel, rfl, by decide +kernel⟩ ?_
  refine mA ⟨by decide +kernel, rfl, by decide +kernel⟩ ?_
  refine mA ⟨by decide +kernel, rfl, rfl⟩ ?_
  refine mA ⟨by decide +kernel, rfl, rfl⟩ ?_
  refine mA ⟨by decide +kernel, rfl, by decide +kernel⟩ ?_
  refine mA ⟨by decide +kernel, rfl, rfl⟩ ?_
  refine mA ⟨by decide +kernel, rfl, by decide +kernel⟩ ?_
  refine mA ⟨by decide +kernel, rfl⟩ ?_
  refine mA ⟨by decide +kernel, rfl, rfl⟩ ?_
  refine mA ⟨by decide +kernel, rfl⟩ ?_
  refine mA ⟨by decide +kernel, rfl⟩ ?_
  refine mA ⟨by decide +kernel, rfl, by decide +kernel⟩ ?_
  refine mA ⟨by decide +kernel, rfl, by decide +kernel⟩ ?_
  refine mA ⟨by decide +kernel, rfl, rfl⟩ ?_
  refine mA ⟨by decide +kernel, rfl, by decide +kernel⟩ ?_
  refine mA ⟨by decide +kernel, rfl, rfl⟩ ?_
  refine mA ⟨by decide +kernel, rfl, rfl, ⟨TX8, 5, rfl⟩, q631, cV61⟩ ?_
  refine mA ⟨by decide +kernel, rfl, rfl⟩ ?_
  refine mA ⟨by decide +kernel, rfl, rfl, ⟨TX9, 25, rfl⟩, q635, cV92⟩ ?_
  refine mA ⟨by decide +kernel, rfl, by decide +kernel⟩ ?_
  refine mA ⟨by decide +kernel, rfl, by decide +kernel⟩ ?_
  refine mA ⟨by decide +kernel, rfl, rfl⟩ ?_
  refine mA ⟨by decide +kernel, rfl, rfl⟩ ?_
  refine mA ⟨by decide +kernel, rfl, rfl, ⟨TX8, 5, rfl⟩, q639, cV62⟩ ?_
  refine mA ⟨by decide +kernel, rfl, rfl⟩ ?_
  refine mA ⟨by decide +kernel, rfl, rfl, ⟨TX9, 25, rfl⟩, q643, cV93⟩ ?_
  refine mA ⟨by decide +kernel, rfl, by decide +kernel⟩ ?_
  refine mA ⟨by decide +kernel, rfl, by decide +kernel⟩ ?_
  refine mA ⟨by decide +kernel, rfl, rfl⟩ ?_
  refine mA ⟨by decide +kernel, rfl, rfl⟩ ?_
  refine mA ⟨by decide +kernel, rfl, rfl⟩ ?_
  refine mA ⟨by decide +kernel, rfl, rfl⟩ ?_
  refine mA ⟨by decide +kernel, rfl, by decide +kernel⟩ ?_
  refine mA ⟨by decide +kernel, rfl⟩ ?_
  refine mA ⟨by decide +kernel, rfl⟩ ?_
  refine mA ⟨by decide +kernel, rfl, rfl⟩ ?_
  refine mA ⟨by decide +kernel, rfl, q647, cS149⟩ ?_
  refine mA ⟨by decide +kernel, rfl, rfl⟩ ?_
  refine mA ⟨by decide +kernel, rfl, rfl⟩ ?_
  refine mA ⟨by decide +kernel, rfl, rfl⟩ ?_
  refine mA ⟨by decide +kernel, rfl, rfl⟩ ?_
  refine mA ⟨by decide +kernel, rfl, by decide +kernel⟩ ?_
  refine mA ⟨by decide +kernel, rfl⟩ ?_
  refine mA ⟨by decide +kernel, rfl⟩ ?_
  refine mA ⟨by decide +kernel, rfl, rfl, ⟨TX9, 25, rfl⟩, q650, cV95⟩ ?_
  refine mA ⟨by decide +kernel, rfl, rfl⟩ ?_
  refine mA ⟨by decide +kernel, rfl, rfl⟩ ?_
  refine mA ⟨by decide +kernel, rfl, rfl, ⟨TX9, 25, rfl⟩, q620, cV88⟩ ?_
  refine mA ⟨by decide +kernel, rfl, rfl⟩ ?_
  refine mA ⟨by decide +kernel, rfl, by decide +kernel⟩ ?_
  refine mA ⟨by decide +kernel, rfl, by decide +kernel⟩ ?_
  refine mA ⟨by decide +kernel, rfl, rfl⟩ ?_
  refine mA ⟨by decide +kernel, rfl, rfl⟩ ?_
  refine mA ⟨by decide +kernel, rfl, by decide +kernel⟩ ?_
  refine mA ⟨by decide +kernel, rfl, rfl⟩ ?_
  refine mA ⟨by decide +kernel, rfl, by decide +kernel⟩ ?_
  refine mA ⟨by decide +kernel, rfl⟩ ?_
  refine mA ⟨by decide +kernel, rfl, rfl⟩ ?_
  refine mA ⟨by decide +kernel, rfl⟩ ?_
  refine mA ⟨by decide +kernel, rfl, by decide +kernel⟩ ?_
  refine mA ⟨by decide +kernel, rfl, by decide +kernel⟩ ?_
  refine mA ⟨by decide +kernel, rfl, rfl⟩ ?_
  refine mA ⟨by decide +kernel, rfl, by decide +kernel⟩ ?_
  refine mA ⟨by decide +kernel, rfl, rfl⟩ ?_
  refine mA ⟨by decide +kernel, rfl, rfl⟩ ?_
  refine mA ⟨by decide +kernel, rfl, rfl⟩ ?_
  refine mA ⟨by decide +kernel, rfl, by decide +kernel⟩ ?_
  refine mA ⟨by decide +kernel, rfl⟩ ?_
  refine mA ⟨by decide +kernel, rfl⟩ ?_
  refine mA ⟨by decide +kernel, rfl, rfl⟩ ?_
  refine mA ⟨by decide +kernel, rfl, q654, cS150⟩ ?_
  refine mA ⟨by decide +kernel, rfl, rfl⟩ ?_
  refine mA ⟨by decide +kernel, rfl, rfl⟩ ?_
  refine mA ⟨by decide +kernel, rfl, rfl⟩ ?_
  refine mA ⟨by decide +kernel, rfl, rfl⟩ ?_
  refine mA ⟨by decide +kernel, rfl, by decide +kernel⟩ ?_
  refine mA ⟨by decide +kernel, rfl⟩ ?_
  refine mA ⟨by decide +kernel, rfl⟩ ?_
  refine mA ⟨by decide +kernel, rfl, rfl, ⟨TX9, 25, rfl⟩, q657, cV97⟩ ?_
  refine mA ⟨by decide +kernel, rfl, rfl⟩ ?_
  refine mA ⟨by decide +kernel, rfl, rfl⟩ ?_
  refine mA ⟨by decide +kernel, rfl, rfl, ⟨TX9, 25, rfl⟩, q620, cV88⟩ ?_
  refine mA ⟨by decide +kernel, rfl, rfl⟩ ?_
  refine mA ⟨by decide +kernel, rfl, by decide +kernel⟩ ?_
  refine mA ⟨by decide +kernel, rfl, by decide +kernel⟩ ?_
  refine mA ⟨by decide +kernel, rfl, rfl⟩ ?_
  refine mA ⟨by decide +kernel, rfl, rfl⟩ ?_
  refine mA ⟨by decide +kernel, rfl, by decide +kernel⟩ ?_
  refine mA ⟨by decide +kernel, rfl, rfl⟩ ?_
  refine mA ⟨by decide +kernel, rfl, by decide +kernel⟩ ?_
  refine mA ⟨by decide +kernel, rfl⟩ ?_
  refine mA ⟨by decide +kernel, rfl, rfl⟩ ?_
  refine mA ⟨by decide +kernel, rfl⟩ ?_
  refine mA ⟨by decide +kernel, rfl, by decide +kernel⟩ ?_
  refine mA ⟨by decide +kernel, rfl, by decide +kernel⟩ ?_
  refine mA ⟨by decide +kernel, rfl, rfl⟩ ?_
  refine mA ⟨by decide +kernel, rfl, by decide +kernel⟩ ?_
  refine mA ⟨by decide +kernel, rfl, rfl⟩ ?_
  refine mA ⟨by decide +kernel, rfl, rfl⟩ ?_
  refine mA ⟨by decide +kernel, rfl, rfl⟩ ?_
  refine mA ⟨by decide +kernel, rfl, by decide +kernel⟩ ?_
  refine mA ⟨by decide +kernel, rfl⟩ ?_
  refine mA ⟨by decide +kernel, rfl⟩ ?_
  refine mA ⟨by decide +kernel, rfl, rfl⟩ ?_
  refine mA ⟨by decide +kernel, rfl, q661, cS151⟩ ?_
  refine mA ⟨by decide +kernel, rfl, rfl⟩ ?_
  refine mA ⟨by decide +kernel, rfl, rfl⟩ ?_
  refine mA ⟨by decide +kernel, rfl, rfl⟩ ?_
  refine mA ⟨by decide +kernel, rfl, rfl⟩ ?_
  refine mA ⟨by decide +kernel, rfl, by decide +kernel⟩ ?_
  refine mA ⟨by decide +kernel, rfl⟩ ?_
  refine mA ⟨by decide +kernel, rfl⟩ ?_
  refine mA ⟨by decide +kernel, rfl, rfl, ⟨TX9, 25, rfl⟩, q664, cV98⟩ ?_
  refine mA ⟨by decide +kernel, rfl, rfl⟩ ?_
  refine mA ⟨by decide +kernel, rfl, rfl⟩ ?_
  refine mA ⟨by decide +kernel, rfl, rfl, ⟨TX9, 25, rfl⟩, q620, cV88⟩ ?_
  refine mA ⟨by decide +kernel, rfl, rfl⟩ ?_
  refine mA ⟨by decide +kernel, rfl, by decide +kernel⟩ ?_
  refine mA ⟨by decide +kernel, rfl, by decide +kernel⟩ ?_
  refine mA ⟨by decide +kernel, rfl, rfl⟩ ?_
  refine mA ⟨by decide +kernel, rfl, rfl⟩ ?_
  refine mA ⟨by decide +kernel, rfl, by decide +kernel⟩ ?_
  refine mA ⟨by decide +kernel, rfl, rfl⟩ ?_
  refine mA ⟨by decide +kernel, rfl, by decide +kernel⟩ ?_
  refine mA ⟨by decide +kernel, rfl⟩ ?_
  refine mA ⟨by decide +kernel, rfl, rfl⟩ ?_
  refine mA ⟨by decide +kernel, rfl⟩ ?_
  refine mA ⟨by decide +kernel, rfl⟩ ?_
  refine mA ⟨by decide +kernel, rfl, by decide +kernel⟩ ?_
  refine mA ⟨by decide +kernel, rfl, by decide +kernel⟩ ?_
  refine mA ⟨by decide +kernel, rfl, rfl⟩ ?_
  refine mA ⟨by decide +kernel, rfl, by decide +kernel⟩ ?_
  refine mA ⟨by decide +kernel, rfl, rfl⟩ ?_
  refine mA ⟨by decide +kernel, rfl, rfl⟩ ?_
  refine mA ⟨by decide +kernel, rfl, rfl⟩ ?_
  refine mA ⟨by decide +kernel, rfl, by decide +kernel⟩ ?_
  refine mA ⟨by decide +kernel, rfl⟩ ?_
  refine mA ⟨by decide +kernel, rfl⟩ ?_
  refine mA ⟨by decide +kernel, rfl, rfl⟩ ?_
  refine mA ⟨by decide +kernel, rfl, rfl⟩ ?_
  refine mA ⟨by decide +kernel, rfl, by decide +kernel⟩ ?_
  refine mA ⟨by decide +kernel, rfl⟩ ?_
  refine mA ⟨by decide +kernel, rfl⟩ ?_
  refine mA ⟨by decide +kernel, rfl, rfl⟩ ?_
  refine mA ⟨by decide +kernel, rfl, rfl⟩ ?_
  refine mA ⟨by decide +kernel, rfl, by decide +kernel⟩ ?_
  refine mA ⟨by decide +kernel, rfl⟩ ?_
  refine mA ⟨by decide +kernel, rfl⟩ ?_
  refine mA ⟨by decide +kernel, rfl, rfl⟩ ?_
  refine mA ⟨by decide +kernel, rfl, q668, cS152⟩ ?_
  refine mA ⟨by decide +kernel, rfl, rfl⟩ ?_
  refine mA ⟨by decide +kernel, rfl, rfl⟩ ?_
  refine mA ⟨by decide +kernel, rfl, rfl⟩ ?_
  refine mA ⟨by decide +kernel, rfl, rfl⟩ ?_
  refine mA ⟨by decide +kernel, rfl, by decide +kernel⟩ ?_
  refine mA ⟨by decide +kernel, rfl⟩ ?_
  refine mA ⟨by decide +kernel, rfl⟩ ?_
  refine mA ⟨by decide +kernel, rfl, rfl⟩ ?_
  refine mA ⟨by decide +kernel, rfl, rfl⟩ ?_
  refine mA ⟨by decide +kernel, rfl, by decide +kernel⟩ ?_
  refine mA ⟨by decide +kernel, rfl⟩ ?_
  refine mA ⟨by decide +kernel, rfl⟩ ?_
  refine mA ⟨by decide +kernel, rfl, rfl⟩ ?_
  refine mA ⟨by decide +kernel, rfl, rfl⟩ ?_
  refine mA ⟨by decide +kernel, rfl, by decide +kernel⟩ ?_
  refine mA ⟨by decide +kernel, rfl⟩ ?_
  refine mA ⟨by decide +kernel, rfl⟩ ?_
  refine mA ⟨by decide +kernel, rfl, rfl, ⟨TX9, 25, rfl⟩, q671, cV109⟩ ?_
  refine mA ⟨by decide +kernel, rfl, rfl⟩ ?_
  refine mA ⟨by decide +kernel, rfl, rfl⟩ ?_
  refine mA ⟨by decide +kernel, rfl, rfl, ⟨TX9, 25, rfl⟩, q620, cV88⟩ ?_
  refine mA ⟨by decide +kernel, rfl, rfl⟩ ?_
  refine mA ⟨by decide +kernel, rfl, by decide +kernel⟩ ?_
  refine mA ⟨by decide +kernel, rfl, by decide +kernel⟩ ?_
  refine mA ⟨by decide +kernel, rfl, rfl⟩ ?_
  refine mA ⟨by decide +kernel, rfl, rfl⟩ ?_
  refine mA ⟨by decide +kernel, rfl, by decide +kernel⟩ ?_
  refine mA ⟨by decide +kernel, rfl, rfl⟩ ?_
  refine mA ⟨by decide +kernel, rfl, by decide +kernel⟩ ?_
  refine mA ⟨by decide +kernel, rfl⟩ ?_
  refine mA ⟨by decide +kernel, rfl, rfl⟩ ?_
  refine mA ⟨by decide +kernel, rfl⟩ ?_
  refine mA ⟨by decide +kernel, rfl, by decide +kernel⟩ ?_
  refine mA ⟨by decide +kernel, rfl, by decide +kernel⟩ ?_
  refine mA ⟨by decide +kernel, rfl, rfl⟩ ?_
  refine mA ⟨by decide +kernel, rfl, by decide +kernel⟩ ?_
  refine mA ⟨by decide +kernel, rfl, rfl⟩ ?_
  refine mA ⟨by decide +kernel, rfl, rfl⟩ ?_
  refine mA ⟨by decide +kernel, rfl, rfl⟩ ?_
  refine mA ⟨by decide +kernel, rfl, by decide +kernel⟩ ?_
  refine mA ⟨by decide +kernel, rfl⟩ ?_
  refine mA ⟨by decide +kernel, rfl⟩ ?_
  refine mA ⟨by decide +kernel, rfl, rfl⟩ ?_
  refine mA ⟨by decide +kernel, rfl, q675, cS153⟩ ?_
  refine mA ⟨by decide +kernel, rfl, rfl⟩ ?_
  refine mA ⟨by decide +kernel, rfl, rfl⟩ ?_
  refine mA ⟨by decide +kernel, rfl, rfl⟩ ?_
  refine mA ⟨by decide +kernel, rfl, rfl⟩ ?_
  refine mA ⟨by decide +kernel, rfl, by decide +kernel⟩ ?_
  refine mA ⟨by decide +kernel, rfl⟩ ?_
  refine mA ⟨by decide +kernel, rfl⟩ ?_
  refine mA ⟨by decide +kernel, rfl, rfl, ⟨TX9, 25, rfl⟩, q678, cV103⟩ ?_
  refine mA ⟨by decide +kernel, rfl, rfl⟩ ?_
  refine mA ⟨by decide +kernel, rfl, rfl⟩ ?_
  refine mA ⟨by decide +kernel, rfl, rfl, ⟨TX9, 25, rfl⟩, q620, cV88⟩ ?_
  refine mA ⟨by decide +kernel, rfl, rfl⟩ ?_
  refine mA ⟨by decide +kernel, rfl, by decide +kernel⟩ ?_
  refine mA ⟨by decide +kernel, rfl, by decide +kernel⟩ ?_
  refine mA ⟨by decide +kernel, rfl, rfl⟩ ?_
  refine mA ⟨by decide +kernel, rfl, rfl⟩ ?_
  refine mA ⟨by decide +kernel, rfl, by decide +kernel⟩ ?_
  refine mA ⟨by decide +kernel, rfl, rfl⟩ ?_
  refine mA ⟨by decide +kernel, rfl, by decide +kernel⟩ ?_
  refine mA ⟨by decide +kernel, rfl⟩ ?_
  refine mA ⟨by decide +kernel, rfl, rfl⟩ ?_
  refine mA ⟨by decide +kernel, rfl⟩ ?_
  refine mA ⟨by decide +kernel, rfl⟩ ?_
  refine mA ⟨by decide +kernel, rfl, by decide +kernel⟩ ?_
  refine mA ⟨by decide +kernel, rfl, by decide +kernel⟩ ?_
  refine mA ⟨by decide +kernel, rfl, rfl⟩ ?_
  refine mA ⟨by decide +kernel, rfl, by decide +kernel⟩ ?_
  refine mA ⟨by decide +kernel, rfl, rfl⟩ ?_
  refine mA ⟨by decide +kernel, rfl, rfl⟩ ?_
  refine mA ⟨by decide +kernel, rfl, rfl⟩ ?_
  refine mA ⟨by decide +kernel, rfl, by decide +kernel⟩ ?_
  refine mA ⟨by decide +kernel, rfl⟩ ?_
  refine mA ⟨by decide +kernel, rfl⟩ ?_
  refine mA ⟨by decide +kernel, rfl, rfl⟩ ?_
  refine mA ⟨by decide +kernel, rfl, rfl⟩ ?_
  refine mA ⟨by decide +kernel, rfl, by decide +kernel⟩ ?_
  refine mA ⟨by decide +kernel, rfl⟩ ?_
  refine mA ⟨by decide +kernel, rfl⟩ ?_
  refine mA ⟨by decide +kernel, rfl, rfl⟩ ?_
  refine mA ⟨by decide +kernel, rfl, q682, cS154⟩ ?_
  refine mA ⟨by decide +kernel, rfl, rfl⟩ ?_
  refine mA ⟨by decide +kernel, rfl, rfl⟩ ?_
  refine mA ⟨by decide +kernel, rfl, rfl⟩ ?_
  refine mA ⟨by decide +kernel, rfl, rfl⟩ ?_
  refine mA ⟨by decide +kernel, rfl, by decide +kernel⟩ ?_
  refine mA ⟨by decide +kernel, rfl⟩ ?_
  refine mA ⟨by decide +kernel, rfl⟩ ?_
  refine mA ⟨by decide +kernel, rfl, rfl⟩ ?_
  refine mA ⟨by decide +kernel, rfl, rfl⟩ ?_
  refine mA ⟨by decide +kernel, rfl, by decide +kernel⟩ ?_
  refine mA ⟨by decide +kernel, rfl⟩ ?_
  refine mA ⟨by decide +kernel, rfl⟩ ?_
  refine mA ⟨by decide +kernel, rfl, rfl, ⟨TX9, 25, rfl⟩, q685, cV104⟩ ?_
  refine mA ⟨by decide +kernel, rfl, rfl⟩ ?_
  refine mA ⟨by decide +kernel, rfl, rfl⟩ ?_
  refine mA ⟨by decide +kernel, rfl, rfl, ⟨TX9, 25, rfl⟩, q620, cV88⟩ ?_
  refine mA ⟨by decide +kernel, rfl, rfl⟩ ?_
  refine mA ⟨by decide +kernel, rfl, by decide +kernel⟩ ?_
  refine mA ⟨by decide +kernel, rfl, by decide +kernel⟩ ?_
  refine mA ⟨by decide +kernel, rfl, rfl⟩ ?_
  refine mA ⟨by decide +kernel, rfl, rfl⟩ ?_
  refine mA ⟨by decide +kernel, rfl, by decide +kernel⟩ ?_
  refine mA ⟨by decide +kernel, rfl, rfl⟩ ?_
  refine mA ⟨by decide +kernel, rfl, by decide +kernel⟩ ?_
  refine mA ⟨by decide +kernel, rfl⟩ ?_
  refine mA ⟨by decide +kernel, rfl, rfl⟩ ?_
  refine mA ⟨by decide +kernel, rfl⟩ ?_
  refine mA ⟨by decide +kernel, rfl, by decide +kernel⟩ ?_
  refine mA ⟨by decide +kernel, rfl, by decide +kernel⟩ ?_
  refine mA ⟨by decide +kernel, rfl, rfl⟩ ?_
  refine mA ⟨by decide +kernel, rfl, by decide +kernel⟩ ?_
  refine mA ⟨by decide +kernel, rfl, rfl⟩ ?_
  refine mA ⟨by decide +kernel, rfl, rfl⟩ ?_
  refine mA ⟨by decide +kernel, rfl, rfl⟩ ?_
  refine mA ⟨by decide +kernel, rfl, by decide +kernel⟩ ?_
  refine mA ⟨by decide +kernel, rfl⟩ ?_
  refine mA ⟨by decide +kernel, rfl⟩ ?_
  refine mA ⟨by decide +kernel, rfl, rfl⟩ ?_
  refine mA ⟨by decide +kernel, rfl, q689, cS155⟩ ?_
  refine mA ⟨by decide +kernel, rfl, rfl⟩ ?_
  refine mA ⟨by decide +kernel, rfl, rfl⟩ ?_
  refine mA ⟨by decide +kernel, rfl, rfl⟩ ?_
  refine mA ⟨by decide +kernel, rfl, rfl⟩ ?_
  refine mA ⟨by decide +kernel, rfl, by decide +kernel⟩ ?_
  refine mA ⟨by decide +kernel, rfl⟩ ?_
  refine mA ⟨by decide +kernel, rfl⟩ ?_
  refine mA ⟨by decide +kernel, rfl, rfl, ⟨TX9, 25, rfl⟩, q692, cV122⟩ ?_
  refine mA ⟨by decide +kernel, rfl, rfl⟩ ?_
  refine mA ⟨by decide +kernel, rfl, rfl⟩ ?_
  refine mA ⟨by decide +kernel, rfl, rfl, ⟨TX9, 25, rfl⟩, q620, cV88⟩ ?_
  refine mA ⟨by decide +kernel, rfl, rfl⟩ ?_
  refine mA ⟨by decide +kernel, rfl, by decide +kernel⟩ ?_
  refine mA ⟨by decide +kernel, rfl, by decide +kernel⟩ ?_
  refine mA ⟨by decide +kernel, rfl, rfl⟩ ?_
  refine mA ⟨by decide +kernel, rfl, rfl⟩ ?_
  refine mA ⟨by decide +kernel, rfl, by decide +kernel⟩ ?_
  refine mA ⟨by decide +kernel, rfl, rfl⟩ ?_
  refine mA ⟨by decide +kernel, rfl, by decide +kernel⟩ ?_
  refine mA ⟨by decide +kernel, rfl⟩ ?_
  refine mA ⟨by decide +kernel, rfl, rfl⟩ ?_
  refine mA ⟨by decide +kernel, rfl⟩ ?_
  refine mA ⟨by decide +kernel, rfl⟩ ?_
  refine mA ⟨by decide +kernel, rfl, by decide +kernel⟩ ?_
  refine mA ⟨by decide +kernel, rfl, by decide +kernel⟩ ?_
  refine mA ⟨by decide +kernel, rfl, rfl⟩ ?_
  refine mA ⟨by decide +kernel, rfl, by decide +kernel⟩ ?_
  refine mA ⟨by decide +kernel, rfl, rfl⟩ ?_
  refine mA ⟨by decide +kernel, rfl, rfl, ⟨TX8, 5, rfl⟩, q696, cV70⟩ ?_
  refine mA ⟨by decide +kernel, rfl, rfl⟩ ?_
  refine mA ⟨by decide +kernel, rfl, rfl, ⟨TX9, 25, rfl⟩, q700, cV123⟩ ?_
  refine mA ⟨by decide +kernel, rfl, by decide +kernel⟩ ?_
  refine mA ⟨by decide +kernel, rfl, by decide +kernel⟩ ?_
  refine mA ⟨by decide +kernel, rfl, rfl⟩ ?_
  refine mA ⟨by decide +kernel, rfl, rfl⟩ ?_
  refine mA ⟨by decide +kernel, rfl, rfl⟩ ?_
  refine mA ⟨by decide +kernel, rfl, rfl⟩ ?_
  refine mA ⟨by decide +kernel, rfl, by decide +kernel⟩ ?_
  refine mA ⟨by decide +kernel, rfl⟩ ?_
  refine mA ⟨by decide +kernel, rfl⟩ ?_
  refine mA ⟨by decide +kernel, rfl, rfl⟩ ?_
  refine mA ⟨by decide +kernel, rfl, q704, cS156⟩ ?_
  refine mA ⟨by decide +kernel, rfl, rfl⟩ ?_
  refine mA ⟨by decide +kernel, rfl, rfl⟩ ?_
  refine mA ⟨by decide +kernel, rfl, rfl⟩ ?_
  refine mA ⟨by decide +kernel, rfl, rfl⟩ ?_
  refine mA ⟨by decide +kernel, rfl, by decide +kernel⟩ ?_
  refine mA ⟨by decide +kernel, rfl⟩ ?_
  refine mA ⟨by decide +kernel, rfl⟩ ?_
  refine mA ⟨by decide +kernel, rfl, rfl, ⟨TX9, 25, rfl⟩, q707, cV124⟩ ?_
  refine mA ⟨by decide +kernel, rfl, rfl⟩ ?_
  refine mA ⟨by decide +kernel, rfl, rfl⟩ ?_
  refine mA ⟨by decide +kernel, rfl, rfl, ⟨TX9, 25, rfl⟩, q620, cV88⟩ ?_
  refine mA ⟨by decide +kernel, rfl, rfl⟩ ?_
  refine mA ⟨by decide +kernel, rfl, by decide +kernel⟩ ?_
  refine mA ⟨by decide +kernel, rfl, by decide +kernel⟩ ?_
  refine mA ⟨by decide +kernel, rfl, rfl⟩ ?_
  refine mA ⟨by decide +kernel, rfl, rfl⟩ ?_
  refine mA ⟨by decide +kernel, rfl, by decide +kernel⟩ ?_
  refine mA ⟨by decide +kernel, rfl, rfl⟩ ?_
  refine mA ⟨by decide +kernel, rfl, by decide +kernel⟩ ?_
  refine mA ⟨by decide +kernel, rfl⟩ ?_
  refine mA ⟨by decide +kernel, rfl, rfl⟩ ?_
  refine mA ⟨by decide +kernel, rfl⟩ ?_
  refine mA ⟨by decide +kernel, rfl⟩ ?_
  refine mA ⟨by decide +kernel, rfl, by decide +kernel⟩ ?_
  refine mA ⟨by decide +kernel, rfl, by decide +kernel⟩ ?_
  refine mA ⟨by decide +kernel, rfl, rfl⟩ ?_
  refine mA ⟨by decide +kernel, rfl, by decide +kernel⟩ ?_
  refine mA ⟨by decide +kernel, rfl, rfl⟩ ?_
  refine mA ⟨by decide +kernel, rfl, rfl⟩ ?_
  refine mA ⟨by decide +kernel, rfl, rfl⟩ ?_
  refine mA ⟨by decide +kernel, rfl, by decide +kernel⟩ ?_
  refine mA ⟨by decide +kernel, rfl⟩ ?_
  refine mA ⟨by decide +kernel, rfl⟩ ?_
  refine mA ⟨by decide +kernel, rfl, rfl⟩ ?_
  refine mA ⟨by decide +kernel, rfl, rfl⟩ ?_
  refine mA ⟨by decide +kernel, rfl, by decide +kernel⟩ ?_
  refine mA ⟨by decide +kernel, rfl⟩ ?_
  refine mA ⟨by decide +kernel, rfl⟩ ?_
  refine mA ⟨by decide +kernel, rfl, rfl⟩ ?_
  refine mA ⟨by decide +kernel, rfl, q711, cS157⟩ ?_
  refine mA ⟨by decide +kernel, rfl, rfl⟩ ?_
  refine mA ⟨by decide +kernel, rfl, rfl⟩ ?_
  refine mA ⟨by decide +kernel, rfl, rfl⟩ ?_
  refine mA ⟨by decide +kernel, rfl, rfl⟩ ?_
  refine mA ⟨by decide +kernel, rfl, by decide +kernel⟩ ?_
  refine mA ⟨by decide +kernel, rfl⟩ ?_
  refine mA ⟨by decide +kernel, rfl⟩ ?_
  refine mA ⟨by decide +kernel, rfl, rfl⟩ ?_
  refine mA ⟨by decide +kernel, rfl, rfl⟩ ?_
  refine mA ⟨by decide +kernel, rfl, by decide +kernel⟩ ?_
  refine mA ⟨by decide +kernel, rfl⟩ ?_
  refine mA ⟨by decide +kernel, rfl⟩ ?_
  refine mA ⟨by decide +kernel, rfl, rfl, ⟨TX9, 25, rfl⟩, q714, cV125⟩ ?_
  refine mA ⟨by decide +kernel, rfl, rfl⟩ ?_
  refine mA ⟨by decide +kernel, rfl, rfl⟩ ?_
  refine mA ⟨by decide +kernel, rfl, rfl, ⟨TX9, 25, rfl⟩, q620, cV88⟩ ?_
  refine mA ⟨by decide +kernel, rfl, rfl⟩ ?_
  refine mA ⟨by decide +kernel, rfl, by decide +kernel⟩ ?_
  refine mA ⟨by decide +kernel, rfl, by decide +kernel⟩ ?_
  refine mA ⟨by decide +kernel, rfl, rfl⟩ ?_
  refine mA ⟨by decide +kernel, rfl, rfl⟩ ?_
  refine mA ⟨by decide +kernel, rfl, by decide +kernel⟩ ?_
  refine mA ⟨by decide +kernel, rfl, rfl⟩ ?_
  refine mA ⟨by decide +kernel, rfl, by decide +kernel⟩ ?_
  refine mA ⟨by decide +kernel, rfl⟩ ?_
  refine mA ⟨by decide +kernel, rfl, rfl⟩ ?_
  refine mA ⟨by decide +kernel, rfl⟩ ?_
  refine mA ⟨by decide +kernel, rfl⟩ ?_
  refine mA ⟨by decide +kernel, rfl, by decide +kernel⟩ ?_
  refine mA ⟨by decide +kernel, rfl, by decide +kernel⟩ ?_
  refine mA ⟨by decide +kernel, rfl, rfl⟩ ?_
  refine mA ⟨by decide +kernel, rfl, by decide +kernel⟩ ?_
  refine mA ⟨by decide +kernel, rfl, rfl⟩ ?_
  refine mA ⟨by decide +kernel, rfl, rfl, ⟨TX8, 5, rfl⟩, q718, cV73⟩ ?_
  refine mA ⟨by decide +kernel, rfl, rfl⟩ ?_
  refine mA ⟨by decide +kernel, rfl, rfl, ⟨TX9, 25, rfl⟩, q722, cV126⟩ ?_
  refine mA ⟨by decide +kernel, rfl, by decide +kernel⟩ ?_
  refine mA ⟨by decide +kernel, rfl, by decide +kernel⟩ ?_
  refine mA ⟨by decide +kernel, rfl, rfl⟩ ?_
  refine mA ⟨by decide +kernel, rfl, rfl⟩ ?_
  refine mA ⟨by decide +kernel, rfl, rfl⟩ ?_
  refine mA ⟨by decide +kernel, rfl, rfl⟩ ?_
  refine mA ⟨by decide +kernel, rfl, by decide +kernel⟩ ?_
  refine mA ⟨by decide +kernel, rfl⟩ ?_
  refine mA ⟨by decide +kernel, rfl⟩ ?_
  refine mA ⟨by decide +kernel, rfl, rfl⟩ ?_
  refine mA ⟨by decide +kernel, rfl, q726, cS158⟩ ?_
  refine mA ⟨by decide +kernel, rfl, rfl⟩ ?_
  refine mA ⟨by decide +kernel, rfl, rfl⟩ ?_
  refine mA ⟨by decide +kernel, rfl, rfl⟩ ?_
  refine mA ⟨by decide +kernel, rfl, rfl⟩ ?_
  refine mA ⟨by decide +kernel, rfl, by decide +kernel⟩ ?_
  refine mA ⟨by decide +kernel, rfl⟩ ?_
  refine mA ⟨by decide +kernel, rfl⟩ ?_
  refine mA ⟨by decide +kernel, rfl, rfl, ⟨TX9, 25, rfl⟩, q729, cV127⟩ ?_
  refine mA ⟨by decide +kernel, rfl, rfl⟩ ?_
  refine mA ⟨by decide +kernel, rfl, rfl⟩ ?_
  refine mA ⟨by decide +kernel, rfl, rfl, ⟨TX9, 25, rfl⟩, q620, cV88⟩ ?_
  refine mA ⟨by decide +kernel, rfl, rfl⟩ ?_
  refine mA ⟨by decide +kernel, rfl, by decide +kernel⟩ ?_
  refine mA ⟨by decide +kernel, rfl, by decide +kernel⟩ ?_
  refine mA ⟨by decide +kernel, rfl, rfl⟩ ?_
  refine mA ⟨by decide +kernel, rfl, rfl⟩ ?_
  refine mA ⟨by decide +kernel, rfl, by decide +kernel⟩ ?_
  refine mA ⟨by decide +kernel, rfl, rfl⟩ ?_
  refine mA ⟨by decide +kernel, rfl, by decide +kernel⟩ ?_
  refine mA ⟨by decide +kernel, rfl⟩ ?_
  refine mA ⟨by decide +kernel, rfl, rfl⟩ ?_
  refine mA ⟨by decide +kernel, rfl⟩ ?_
  refine mA ⟨by decide +kernel, rfl⟩ ?_
  refine mA ⟨by decide +kernel, rfl, by decide +kernel⟩ ?_
  refine mA ⟨by decide +kernel, rfl, by decide +kernel⟩ ?_
  refine mA ⟨by decide +kernel, rfl, rfl⟩ ?_
  refine mA ⟨by decide +kernel, rfl, by decide +kernel⟩ ?_
  refine mA ⟨by decide +kernel, rfl, rfl⟩ ?_
  refine mA ⟨by decide +kernel, rfl, rfl⟩ ?_
  refine mA ⟨by decide +kernel, rfl, rfl⟩ ?_
  refine mA ⟨by decide +kernel, rfl, by decide +kernel⟩ ?_
  refine mA ⟨by decide +kernel, rfl⟩ ?_
  refine mA ⟨by decide +kernel, rfl⟩ ?_
  refine mA ⟨by decide +kernel, rfl⟩ ?_
  refine mA ⟨by decide +kernel, rfl, by decide +kernel⟩ ?_
  refine mA ⟨by decide +kernel, rfl⟩ ?_
  refine mA ⟨by decide +kernel, rfl, rfl⟩ ?_
  refine mA ⟨by decide +kernel, rfl, rfl⟩ ?_
  refine mA ⟨by decide +kernel, rfl, by decide +kernel⟩ ?_
  refine mA ⟨by decide +kernel, rfl⟩ ?_
  refine mA ⟨by decide +kernel, rfl⟩ ?_
  refine mA ⟨by decide +kernel, rfl⟩ ?_
  refine mA ⟨by decide +kernel, rfl, _, rfl, q611⟩ ?_
  refine mA ⟨by decide +kernel, rfl⟩ ?_
  refine mA ⟨by decide +kernel, rfl⟩ ?_
  refine mA ⟨by decide +kernel, rfl, rfl⟩ ?_
  refine mA ⟨by decide +kernel, rfl, rfl⟩ ?_
  refine mA ⟨by decide +kernel, rfl, by decide +kernel⟩ ?_
  refine mA ⟨by decide +kernel, rfl⟩ ?_
  refine mA ⟨by decide +kernel, rfl⟩ ?_
  refine mA ⟨by decide +kernel, rfl, rfl⟩ ?_
  refine mA ⟨by decide +kernel, rfl, q733, cS159⟩ ?_
  refine mA ⟨by decide +kernel, rfl, rfl⟩ ?_
  refine mA ⟨by decide +kernel, rfl, rfl⟩ ?_
  refine mA ⟨by decide +kernel, rfl, rfl⟩ ?_
  refine mA ⟨by decide +kernel, rfl, rfl⟩ ?_
  refine mA ⟨by decide +kernel, rfl, by decide +kernel⟩ ?_
  refine mA ⟨by decide +kernel, rfl⟩ ?_
  refine mA ⟨by decide +kernel, rfl⟩ ?_
  refine mA ⟨by decide +kernel, rfl⟩ ?_
  refine mA ⟨by decide +kernel, rfl, by decide +kernel⟩ ?_
  refine mA ⟨by decide +kernel, rfl⟩ ?_
  refine mA ⟨by decide +kernel, rfl, rfl⟩ ?_
  refine mA ⟨by decide +kernel, rfl, rfl⟩ ?_
  refine mA ⟨by decide +kernel, rfl, by decide +kernel⟩ ?_
  refine mA ⟨by decide +kernel, rfl⟩ ?_
  refine mA ⟨by decide +kernel, rfl⟩ ?_
  refine mA ⟨by decide +kernel, rfl⟩ ?_
  refine mA ⟨by decide +kernel, rfl, _, rfl, q611⟩ ?_
  refine mA ⟨by decide +kernel, rfl⟩ ?_
  refine mA ⟨by decide +kernel, rfl⟩ ?_
  refine mA ⟨by decide +kernel, rfl, rfl⟩ ?_
  refine mA ⟨by decide +kernel, rfl, rfl⟩ ?_
  refine mA ⟨by decide +kernel, rfl, by decide +kernel⟩ ?_
  refine mA ⟨by decide +kernel, rfl⟩ ?_
  refine mA ⟨by decide +kernel, rfl⟩ ?_
  refine mA ⟨by decide +kernel, rfl, rfl, ⟨TX9, 25, rfl⟩, q736, cV128⟩ ?_
  refine mA ⟨by decide +kernel, rfl, rfl⟩ ?_
  refine mA ⟨by decide +kernel, rfl, rfl⟩ ?_
  refine mA ⟨by decide +kernel, rfl, rfl, ⟨TX9, 25, rfl⟩, q620, cV88⟩ ?_
  refine mA ⟨by decide +kernel, rfl, rfl⟩ ?_
  refine mA ⟨by decide +kernel, rfl, by decide +kernel⟩ ?_
  refine mA ⟨by decide +kernel, rfl, by decide +kernel⟩ ?_
  refine mA ⟨by decide +kernel, rfl, rfl⟩ ?_
  refine mA ⟨by decide +kernel, rfl, rfl⟩ ?_
  refine mA ⟨by decide +kernel, rfl, by decide +kernel⟩ ?_
  refine mA ⟨by decide +kernel, rfl, rfl⟩ ?_
  refine mA ⟨by decide +kernel, rfl, by decide +kernel⟩ ?_
  refine mA ⟨by decide +kernel, rfl⟩ ?_
  refine mA ⟨by decide +kernel, rfl, rfl⟩ ?_
  refine mA ⟨by decide +kernel, rfl⟩ ?_
  refine mA ⟨by decide +kernel, rfl⟩ ?_
  refine mA ⟨by decide +kernel, rfl, by decide +kernel⟩ ?_
  refine mA ⟨by decide +kernel, rfl, by decide +kernel⟩ ?_
  refine mA ⟨by decide +kernel, rfl, rfl⟩ ?_
  refine mA ⟨by decide +kernel, rfl, by decide +kernel⟩ ?_
  refine mA ⟨by decide +kernel, rfl, rfl⟩ ?_
  refine mA ⟨by decide +kernel, rfl, rfl⟩ ?_
  refine mA ⟨by decide +kernel, rfl, rfl⟩ ?_
  refine mA ⟨by decide +kernel, rfl, by decide +kernel⟩ ?_
  refine mA ⟨by decide +kernel, rfl⟩ ?_
  refine mA ⟨by decide +kernel, rfl⟩ ?_
  refine mA ⟨by decide +kernel, rfl, rfl⟩ ?_
  refine mA ⟨by decide +kernel, rfl, q740, cS160⟩ ?_
  refine mA ⟨by decide +kernel, rfl, rfl⟩ ?_
  refine mA ⟨by decide +kernel, rfl, rfl⟩ ?_
  refine mA ⟨by decide +kernel, rfl, rfl⟩ ?_
  refine mA ⟨by decide +kernel, rfl, rfl⟩ ?_
  refine mA ⟨by decide +kernel, rfl, by decide +kernel⟩ ?_
  refine mA ⟨by decide +kernel, rfl⟩ ?_
  refine mA ⟨by decide +kernel, rfl⟩ ?_
  refine mA ⟨by decide +kernel, rfl, rfl, ⟨TX9, 25, rfl⟩, q743, cV129⟩ ?_
  refine mA ⟨by decide +kernel, rfl, rfl⟩ ?_
  refine mA ⟨by decide +kernel, rfl, rfl⟩ ?_
  refine mA ⟨by decide +kernel, rfl, rfl, ⟨TX9, 25, rfl⟩, q620, cV88⟩ ?_
  refine mA ⟨by decide +kernel, rfl, rfl⟩ ?_
  refine mA ⟨by decide +kernel, rfl, by decide +kernel⟩ ?_
  refine mA ⟨by decide +kernel, rfl, by decide +kernel⟩ ?_
  refine mA ⟨by decide +kernel, rfl, rfl⟩ ?_
  refine mA ⟨by decide +kernel, rfl, rfl⟩ ?_
  refine mA ⟨by decide +kernel, rfl, by decide +kernel⟩ ?_
  refine mA ⟨by decide +kernel, rfl, rfl⟩ ?_
  refine mA ⟨by decide +kernel, rfl, by decide +kernel⟩ ?_
  refine mA ⟨by decide +kernel, rfl⟩ ?_
  refine mA ⟨by decide +kernel, rfl, rfl⟩ ?_
  refine mA ⟨by decide +kernel, rfl⟩ ?_
  refine mA ⟨by decide +kernel, rfl⟩ ?_
  refine mA ⟨by decide +kernel, rfl, by decide +kernel⟩ ?_
  refine mA ⟨by decide +kernel, rfl, by decide +kernel⟩ ?_
  refine mA ⟨by decide +kernel, rfl, rfl⟩ ?_
  refine mA ⟨by decide +kernel, rfl, by decide +kernel⟩ ?_
  refine mA ⟨by decide +kernel, rfl, rfl⟩ ?_
  refine mA ⟨by decide +kernel, rfl, rfl, ⟨TX8, 5, rfl⟩, q747, cV77⟩ ?_
  refine mA ⟨by decide +kernel, rfl, rfl⟩ ?_
  refine mA ⟨by decide +kernel, rfl, rfl, ⟨TX9, 25, rfl⟩, q751, cV130⟩ ?_
  refine mA ⟨by decide +kernel, rfl, by decide +kernel⟩ ?_
  refine mA ⟨by decide +kernel, rfl, by decide +kernel⟩ ?_
  refine mA ⟨by decide +kernel, rfl, rfl⟩ ?_
  refine mA ⟨by decide +kernel, rfl, rfl⟩ ?_
  refine mA ⟨by decide +kernel, rfl, rfl⟩ ?_
  refine mA ⟨by decide +kernel, rfl, rfl⟩ ?_
  refine mA ⟨by decide +kernel, rfl, by decide +kernel⟩ ?_
  refine mA ⟨by decide +kernel, rfl⟩ ?_
  refine mA ⟨by decide +kernel, rfl⟩ ?_
  refine mA ⟨by decide +kernel, rfl, rfl⟩ ?_
  refine mA ⟨by decide +kernel, rfl, rfl⟩ ?_
  refine mA ⟨by decide +kernel, rfl, by decide +kernel⟩ ?_
  refine mA ⟨by decide +kernel, rfl⟩ ?_
  refine mA ⟨by decide +kernel, rfl⟩ ?_
  refine mA ⟨by decide +kernel, rfl, rfl⟩ ?_
  refine mA ⟨by decide +kernel, rfl, q755, cS161⟩ ?_
  refine mA ⟨by decide +kernel, rfl, rfl⟩ ?_
  refine mA ⟨by decide +kernel, rfl, rfl⟩ ?_
  refine mA ⟨by decide +kernel, rfl, rfl⟩ ?_
  refine mA ⟨by decide +kernel, rfl, rfl⟩ ?_
  refine mA ⟨by decide +kernel, rfl, by decide +kernel⟩ ?_
  refine mA ⟨by decide +kernel, rfl⟩ ?_
  refine mA ⟨by decide +kernel, rfl⟩ ?_
  refine mA ⟨by decide +kernel, rfl, rfl⟩ ?_
  refine mA ⟨by decide +kernel, rfl, rfl⟩ ?_
  refine mA ⟨by decide +kernel, rfl, by decide +kernel⟩ ?_
  refine mA ⟨by decide +kernel, rfl⟩ ?_
  refine mA ⟨by decide +kernel, rfl⟩ ?_
  refine mA ⟨by decide +kernel, rfl, rfl, ⟨TX9, 25, rfl⟩, q758, cV131⟩ ?_
  refine mA ⟨by decide +kernel, rfl, rfl⟩ ?_
  refine mA ⟨by decide +kernel, rfl, rfl⟩ ?_
  refine mA ⟨by decide +kernel, rfl, rfl, ⟨TX9, 25, rfl⟩, q620, cV88⟩ ?_
  refine mA ⟨by decide +kernel, rfl, rfl⟩ ?_
  refine mA ⟨by decide +kernel, rfl, by decide +kernel⟩ ?_
  refine mA ⟨by decide +kernel, rfl, by decide +kernel⟩ ?_
  refine mA ⟨by decide +kernel, rfl, rfl⟩ ?_
  refine mA ⟨by decide +kernel, rfl, rfl⟩ ?_
  refine mA ⟨by decide +kernel, rfl, by decide +kernel⟩ ?_
  refine mA ⟨by decide +kernel, rfl, rfl⟩ ?_
  refine mA ⟨by decide +kernel, rfl, by decide +kernel⟩ ?_
  refine mA ⟨by decide +kernel, rfl⟩ ?_
  refine mA ⟨by decide +kernel, rfl, rfl⟩ ?_
  refine mA ⟨by decide +kernel, rfl⟩ ?_
  refine mA ⟨by decide +kernel, rfl⟩ ?_
  refine mA ⟨by decide +kernel, rfl, by decide +kernel⟩ ?_
  refine mA ⟨by decide +kernel, rfl, by decide +kernel⟩ ?_
  refine mA ⟨by decide +kernel, rfl, rfl⟩ ?_
  refine mA ⟨by decide +kernel, rfl, by decide +kernel⟩ ?_
  refine mA ⟨by decide +kernel, rfl, rfl⟩ ?_
  refine mA ⟨by decide +kernel, rfl, rfl, ⟨TX8, 5, rfl⟩, q762, cV79⟩ ?_
  refine mA ⟨by decide +kernel, rfl, rfl⟩ ?_
  refine mA ⟨by decide +kernel, rfl, rfl, ⟨TX9, 25, rfl⟩, q766, cV140⟩ ?_
  refine mA ⟨by decide +kernel, rfl, by decide +kernel⟩ ?_
  refine mA ⟨by decide +kernel, rfl, by decide +kernel⟩ ?_
  refine mA ⟨by decide +kernel, rfl, rfl⟩ ?_
  refine mA ⟨by decide +kernel, rfl, rfl⟩ ?_
  refine mA ⟨by decide +kernel, rfl, rfl, ⟨TX8, 5, rfl⟩, q770, cV80⟩ ?_
  refine mA ⟨by decide +kernel, rfl, rfl⟩ ?_
  refine mA ⟨by decide +kernel, rfl, rfl, ⟨TX9, 25, rfl⟩, q774, cV141⟩ ?_
  refine mA ⟨by decide +kernel, rfl, by decide +kernel⟩ ?_
  refine mA ⟨by decide +kernel, rfl, by decide +kernel⟩ ?_
  refine mA ⟨by decide +kernel, rfl, rfl⟩ ?_
  refine mA ⟨by decide +kernel, rfl, rfl, by decide +kernel⟩ ?_
  refine mA ⟨by decide +kernel, rfl, by decide +kernel⟩ ?_
  refine mA ⟨by decide +kernel, rfl, by decide +kernel⟩ ?_
  refine mA ⟨by decide +kernel, rfl, rfl⟩ ?_
  exact trivial
