set_option maxRecDepth 100000 in
set_option maxHeartbeats 4000000 in
theorem okX9_init : mAllOk (mMt0 87) tbX9_init := by
  rw [mtX9_init]
  unfold tbX9_init
  refine mA ⟨by decide +kernel, rfl, rfl⟩ ?_
  refine mA ⟨by decide +kernel, rfl, q374, q1, q2⟩ ?_
  refine mA ⟨by decide +kernel, rfl, rfl⟩ ?_
  refine mA ⟨by decide +kernel, rfl, by decide +kernel⟩ ?_
  refine mA ⟨by decide +kernel, rfl, q64⟩ ?_
  refine mA ⟨by decide +kernel, rfl, RX9, TX9, 25, rfl, by decide +kernel, mIn_wsX90, Or.inl q375, Or.inr ⟨_, rfl⟩, Or.inr ⟨rfl, by decide +kernel, rfl, q375⟩⟩ ?_
  refine mA ⟨by decide +kernel, rfl, rfl⟩ ?_
  refine mA ⟨by decide +kernel, rfl, by decide +kernel⟩ ?_
  refine mA ⟨by decide +kernel, rfl, q64⟩ ?_
  refine mA ⟨by decide +kernel, rfl, RX9, TX9, 25, rfl, by decide +kernel, mIn_wsX90, Or.inl q376, Or.inr ⟨_, rfl⟩, Or.inr ⟨rfl, by decide +kernel, rfl, q376⟩⟩ ?_
  refine mA ⟨by decide +kernel, rfl, rfl⟩ ?_
  refine mA ⟨by decide +kernel, rfl, by decide +kernel⟩ ?_
  refine mA ⟨by decide +kernel, rfl, q64⟩ ?_
  refine mA ⟨by decide +kernel, rfl, RX9, TX9, 25, rfl, by decide +kernel, mIn_wsX90, Or.inl q377, Or.inr ⟨_, rfl⟩, Or.inr ⟨rfl, by decide +kernel, rfl, q377⟩⟩ ?_
  refine mA ⟨by decide +kernel, rfl, rfl⟩ ?_
  refine mA ⟨by decide +kernel, rfl, by decide +kernel⟩ ?_
  refine mA ⟨by decide +kernel, rfl, q378⟩ ?_
  refine mA ⟨by decide +kernel, rfl, RX9, TX9, 25, rfl, by decide +kernel, mIn_wsX90, Or.inl q379, Or.inr ⟨_, rfl⟩, Or.inr ⟨rfl, by decide +kernel, rfl, q379⟩⟩ ?_
  refine mA ⟨by decide +kernel, rfl, rfl⟩ ?_
  refine mA ⟨by decide +kernel, rfl, by decide +kernel⟩ ?_
  refine mA ⟨by decide +kernel, rfl, q8⟩ ?_
  refine mA ⟨by decide +kernel, rfl, RX9, TX9, 25, rfl, by decide +kernel, mIn_wsX90, Or.inl q380, Or.inr ⟨_, rfl⟩, Or.inr ⟨rfl, by decide +kernel, rfl, q380⟩⟩ ?_
  refine mA ⟨by decide +kernel, rfl, rfl⟩ ?_
  refine mA ⟨by decide +kernel, rfl, by decide +kernel⟩ ?_
  refine mA ⟨by decide +kernel, rfl, q8⟩ ?_
  refine mA ⟨by decide +kernel, rfl, RX9, TX9, 25, rfl, by decide +kernel, mIn_wsX90, Or.inl q381, Or.inr ⟨_, rfl⟩, Or.inr ⟨rfl, by decide +kernel, rfl, q381⟩⟩ ?_
  refine mA ⟨by decide +kernel, rfl, rfl⟩ ?_
  refine mA ⟨by decide +kernel, rfl, by decide +kernel⟩ ?_
  refine mA ⟨by decide +kernel, rfl, q64⟩ ?_
  refine mA ⟨by decide +kernel, rfl, RX9, TX9, 25, rfl, by decide +kernel, mIn_wsX90, Or.inl q382, Or.inr ⟨_, rfl⟩, Or.inr ⟨rfl, by decide +kernel, rfl, q382⟩⟩ ?_
  refine mA ⟨by decide +kernel, rfl, rfl⟩ ?_
  refine mA ⟨by decide +kernel, rfl, by decide +kernel⟩ ?_
  refine mA ⟨by decide +kernel, rfl, q64⟩ ?_
  refine mA ⟨by decide +kernel, rfl, RX9, TX9, 25, rfl, by decide +kernel, mIn_wsX90, Or.inl q383, Or.inr ⟨_, rfl⟩, Or.inr ⟨rfl, by decide +kernel, rfl, q383⟩⟩ ?_
  refine mA ⟨by decide +kernel, rfl, rfl⟩ ?_
  refine mA ⟨by decide +kernel, rfl, by decide +kernel⟩ ?_
  refine mA ⟨by decide +kernel, rfl, q378⟩ ?_
  refine mA ⟨by decide +kernel, rfl, RX9, TX9, 25, rfl, by decide +kernel, mIn_wsX90, Or.inl q384, Or.inr ⟨_, rfl⟩, Or.inr ⟨rfl, by decide +kernel, rfl, q384⟩⟩ ?_
  refine mA ⟨by decide +kernel, rfl, rfl⟩ ?_
  refine mA ⟨by decide +kernel, rfl, by decide +kernel⟩ ?_
  refine mA ⟨by decide +kernel, rfl, q64⟩ ?_
  refine mA ⟨by decide +kernel, rfl, RX9, TX9, 25, rfl, by decide +kernel, mIn_wsX90, Or.inl q385, Or.inr ⟨_, rfl⟩, Or.inr ⟨rfl, by decide +kernel, rfl, q385⟩⟩ ?_
  refine mA ⟨by decide +kernel, rfl, rfl⟩ ?_
  refine mA ⟨by decide +kernel, rfl, by decide +kernel⟩ ?_
  refine mA ⟨by decide +kernel, rfl, q64⟩ ?_
  refine mA ⟨by decide +kernel, rfl, RX9, TX9, 25, rfl, by decide +kernel, mIn_wsX90, Or.inl q386, Or.inr ⟨_, rfl⟩, Or.inr ⟨rfl, by decide +kernel, rfl, q386⟩⟩ ?_
  refine mA ⟨by decide +kernel, rfl, rfl⟩ ?_
  refine mA ⟨by decide +kernel, rfl, by decide +kernel⟩ ?_
  refine mA ⟨by decide +kernel, rfl, RX9, TX9, 25, rfl, by decide +kernel, mIn_wsX90, Or.inl q387, rfl, Or.inl rfl⟩ ?_
  refine mA ⟨by decide +kernel, rfl, rfl⟩ ?_
  exact trivial
set_option maxRecDepth 100000 in
set_option maxHeartbeats 4000000 in
theorem okX9_thrown : mAllOk (mMt0 88) tbX9_thrown := by
  rw [mtX9_thrown]
  unfold tbX9_thrown
  refine mA ⟨by decide +kernel, rfl, rfl⟩ ?_
  refine mA ⟨by decide +kernel, rfl, RX9, TX9, 25, rfl, by decide +kernel, mIn_wsX90, Or.inl q388⟩ ?_
  refine mA ⟨by decide +kernel, rfl, rfl⟩ ?_
  exact trivial
set_option maxRecDepth 100000 in
set_option maxHeartbeats 4000000 in
theorem okX9_refuse : mAllOk (mMt0 89) tbX9_refuse := by
  rw [mtX9_refuse]
  unfold tbX9_refuse
  refine mA ⟨by decide +kernel, rfl, rfl⟩ ?_
  refine mA ⟨by decide +kernel, rfl, rfl⟩ ?_
  refine mA ⟨by decide +kernel, rfl, RX9, TX9, 25, rfl, by decide +kernel, mIn_wsX90, Or.inl q388, rfl, Or.inl rfl⟩ ?_
  refine mA ⟨by decide +kernel, rfl, by decide +kernel⟩ ?_
  refine mA ⟨by decide +kernel, rfl, rfl⟩ ?_
  exact trivial
set_option maxRecDepth 100000 in
set_option maxHeartbeats 4000000 in
theorem okX9_add : mAllOk (mMt0 90) tbX9_add := by
  rw [mtX9_add]
  unfold tbX9_add
  refine mA ⟨by decide +kernel, rfl, rfl⟩ ?_
  refine mA ⟨by decide +kernel, rfl, by decide +kernel⟩ ?_
  refine mA ⟨by decide +kernel, rfl, RX9, TX9, 25, rfl, by decide +kernel, mIn_wsX90, Or.inl q388, rfl, Or.inl rfl⟩ ?_
  refine mA ⟨by decide +kernel, rfl, rfl⟩ ?_
  refine mA ⟨by decide +kernel, rfl, RX9, TX9, 25, rfl, by decide +kernel, mIn_wsX90, Or.inl q389⟩ ?_
  refine mA ⟨by decide +kernel, rfl, by decide +kernel⟩ ?_
  refine mA ⟨by decide +kernel, rfl, by decide +kernel⟩ ?_
  refine mA ⟨by decide +kernel, rfl, rfl⟩ ?_
  refine mA ⟨by decide +kernel, rfl, by decide +kernel⟩ ?_
  refine mA ⟨by decide +kernel, rfl, rfl, ⟨TX9, 25, rfl⟩, q390, cV89⟩ ?_
  refine mA ⟨by decide +kernel, rfl, rfl⟩ ?_
  refine mA ⟨by decide +kernel, rfl, rfl⟩ ?_
  refine mA ⟨by decide +kernel, rfl, RX9, TX9, 25, rfl, by decide +kernel, mIn_wsX90, Or.inl q375⟩ ?_
  refine mA ⟨by decide +kernel, rfl, rfl⟩ ?_
  refine mA ⟨by decide +kernel, rfl, RX9, TX9, 25, rfl, by decide +kernel, mIn_wsX90, Or.inl q389⟩ ?_
  refine mA ⟨by decide +kernel, rfl, rfl⟩ ?_
  refine mA ⟨by decide +kernel, rfl⟩ ?_
  refine mA ⟨by decide +kernel, rfl, rfl⟩ ?_
  refine mA ⟨by decide +kernel, rfl⟩ ?_
  refine mA ⟨by decide +kernel, rfl, RX9, TX9, 25, rfl, by decide +kernel, mIn_wsX90, Or.inl q389⟩ ?_
  refine mA ⟨by decide +kernel, rfl, by decide +kernel⟩ ?_
  refine mA ⟨by decide +kernel, rfl⟩ ?_
  refine mA ⟨by decide +kernel, rfl, RX9, TX9, 25, rfl, by decide +kernel, mIn_wsX90, Or.inl q389, rfl, Or.inl rfl⟩ ?_
  refine mA ⟨by decide +kernel, rfl, rfl⟩ ?_
  refine mA ⟨by decide +kernel, rfl, RX9, TX9, 25, rfl, by decide +kernel, mIn_wsX90, Or.inl q389⟩ ?_
  refine mA ⟨by decide +kernel, rfl, rfl⟩ ?_
  exact trivial
set_option maxRecDepth 100000 in
set_option maxHeartbeats 4000000 in
theorem okX9_decimal : mAllOk (mMt0 91) tbX9_decimal := by
  rw [mtX9_decimal]
  unfold tbX9_decimal
  refine mA ⟨by decide +kernel, rfl, rfl⟩ ?_
  refine mA ⟨by decide +kernel, rfl, by decide +kernel⟩ ?_
  refine mA ⟨by decide +kernel, rfl, RX9, TX9, 25, rfl, by decide +kernel, mIn_wsX90, Or.inl q388, rfl, Or.inl rfl⟩ ?_
  refine mA ⟨by decide +kernel, rfl, rfl⟩ ?_
  refine mA ⟨by decide +kernel, rfl, by decide +kernel⟩ ?_
  refine mA ⟨by decide +kernel, rfl, rfl⟩ ?_
  refine mA ⟨by decide +kernel, rfl, by decide +kernel⟩ ?_
  refine mA ⟨by decide +kernel, rfl, by decide +kernel⟩ ?_
  refine mA ⟨by decide +kernel, rfl, rfl⟩ ?_
  refine mA ⟨by decide +kernel, rfl, by decide +kernel⟩ ?_
  refine mA ⟨by decide +kernel, rfl, rfl, ⟨TX9, 25, rfl⟩, q390, cV89⟩ ?_
  refine mA ⟨by decide +kernel, rfl, rfl⟩ ?_
  refine mA ⟨by decide +kernel, rfl, rfl⟩ ?_
  refine mA ⟨by decide +kernel, rfl, RX9, TX9, 25, rfl, by decide +kernel, mIn_wsX90, Or.inl q389⟩ ?_
  refine mA ⟨by decide +kernel, rfl, by decide +kernel⟩ ?_
  refine mA ⟨by decide +kernel, rfl, by decide +kernel⟩ ?_
  refine mA ⟨by decide +kernel, rfl, rfl⟩ ?_
  refine mA ⟨by decide +kernel, rfl, by decide +kernel⟩ ?_
  refine mA ⟨by decide +kernel, rfl, rfl, ⟨TX9, 25, rfl⟩, q390, cV89⟩ ?_
  refine mA ⟨by decide +kernel, rfl, rfl⟩ ?_
  refine mA ⟨by decide +kernel, rfl, rfl⟩ ?_
  refine mA ⟨by decide +kernel, rfl, RX9, TX9, 25, rfl, by decide +kernel, mIn_wsX90, Or.inl q375⟩ ?_
  refine mA ⟨by decide +kernel, rfl, rfl⟩ ?_
  refine mA ⟨by decide +kernel, rfl, RX9, TX9, 25, rfl, by decide +kernel, mIn_wsX90, Or.inl q389⟩ ?_
  refine mA ⟨by decide +kernel, rfl, rfl⟩ ?_
  refine mA ⟨by decide +kernel, rfl⟩ ?_
  refine mA ⟨by decide +kernel, rfl, rfl⟩ ?_
  refine mA ⟨by decide +kernel, rfl, q395, cS101⟩ ?_
  refine mA ⟨by decide +kernel, rfl⟩ ?_
  refine mA ⟨by decide +kernel, rfl, rfl⟩ ?_
  refine mA ⟨by decide +kernel, rfl⟩ ?_
  refine mA ⟨by decide +kernel, rfl, RX9, TX9, 25, rfl, by decide +kernel, mIn_wsX90, Or.inl q389⟩ ?_
  refine mA ⟨by decide +kernel, rfl, by decide +kernel⟩ ?_
  refine mA ⟨by decide +kernel, rfl⟩ ?_
  refine mA ⟨by decide +kernel, rfl, RX9, TX9, 25, rfl, by decide +kernel, mIn_wsX90, Or.inl q389, rfl, Or.inl rfl⟩ ?_
  refine mA ⟨by decide +kernel, rfl, rfl⟩ ?_
  refine mA ⟨by decide +kernel, rfl, RX9, TX9, 25, rfl, by decide +kernel, mIn_wsX90, Or.inl q389⟩ ?_
  refine mA ⟨by decide +kernel, rfl, rfl⟩ ?_
  exact trivial
set_option maxRecDepth 100000 in
set_option maxHeartbeats 4000000 in
theorem okX9_count : mAllOk (mMt0 92) tbX9_count := by
  rw [mtX9_count]
  unfold tbX9_count
  refine mA ⟨by decide +kernel, rfl, rfl⟩ ?_
  refine mA ⟨by decide +kernel, rfl, by decide +kernel⟩ ?_
  refine mA ⟨by decide +kernel, rfl, RX9, TX9, 25, rfl, by decide +kernel, mIn_wsX90, Or.inl q388, rfl, Or.inl rfl⟩ ?_
  refine mA ⟨by decide +kernel, rfl, rfl⟩ ?_
  refine mA ⟨by decide +kernel, rfl, RX9, TX9, 25, rfl, by decide +kernel, mIn_wsX90, Or.inl q389⟩ ?_
  refine mA ⟨by decide +kernel, rfl, rfl⟩ ?_
  exact trivial
set_option maxRecDepth 100000 in
set_option maxHeartbeats 4000000 in
theorem okX9_clear : mAllOk (mMt0 93) tbX9_clear := by
  rw [mtX9_clear]
  unfold tbX9_clear
  refine mA ⟨by decide +kernel, rfl, rfl⟩ ?_
  refine mA ⟨by decide +kernel, rfl, by decide +kernel⟩ ?_
  refine mA ⟨by decide +kernel, rfl, RX9, TX9, 25, rfl, by decide +kernel, mIn_wsX90, Or.inl q388, rfl, Or.inl rfl⟩ ?_
  refine mA ⟨by decide +kernel, rfl, rfl⟩ ?_
  refine mA ⟨by decide +kernel, rfl, RX9, TX9, 25, rfl, by decide +kernel, mIn_wsX90, Or.inl q389⟩ ?_
  refine mA ⟨by decide +kernel, rfl, rfl⟩ ?_
  refine mA ⟨by decide +kernel, rfl, rfl⟩ ?_
  refine mA ⟨by decide +kernel, rfl, by decide +kernel⟩ ?_
  refine mA ⟨by decide +kernel, rfl, RX9, TX9, 25, rfl, by decide +kernel, mIn_wsX90, Or.inl q389, rfl, Or.inl rfl⟩ ?_
  refine mA ⟨by decide +kernel, rfl, rfl⟩ ?_
  refine mA ⟨by decide +kernel, rfl, rfl⟩ ?_
  exact trivial
set_option maxRecDepth 100000 in
set_option maxHeartbeats 4000000 in
theorem okX9_isValue : mAllOk (mMt0 94) tbX9_isValue := by
  rw [mtX9_isValue]
  unfold tbX9_isValue
  refine mA ⟨by decide +kernel, rfl, rfl⟩ ?_
  refine mA ⟨by decide +kernel, rfl, by decide +kernel⟩ ?_
  refine mA ⟨by decide +kernel, rfl, rfl⟩ ?_
  refine mA ⟨by decide +kernel, rfl, rfl⟩ ?_
  refine mA ⟨by decide +kernel, rfl, RX9, TX9, 25, rfl, by decide +kernel, mIn_wsX90, Or.inl q389⟩ ?_
  refine mA ⟨by decide +kernel, rfl, by decide +kernel⟩ ?_
  refine mA ⟨by decide +kernel, rfl, by decide +kernel⟩ ?_
  refine mA ⟨by decide +kernel, rfl, by decide +kernel⟩ ?_
  refine mA ⟨by decide +kernel, rfl, by decide +kernel⟩ ?_
  refine mA ⟨by decide +kernel, rfl, rfl⟩ ?_
  exact trivial
set_option maxRecDepth 100000 in
set_option maxHeartbeats 4000000 in
theorem okX9_value : mAllOk (mMt0 95) tbX9_value := by
  rw [mtX9_value]
  unfold tbX9_value
  refine mA ⟨by decide +kernel, rfl, rfl⟩ ?_
  refine mA ⟨by decide +kernel, rfl, by decide +kernel⟩ ?_
  refine mA ⟨by decide +kernel, rfl, RX9, TX9, 25, rfl, by decide +kernel, mIn_wsX90, Or.inl q388, rfl, Or.inl rfl⟩ ?_
  refine mA ⟨by decide +kernel, rfl, rfl⟩ ?_
  refine mA ⟨by decide +kernel, rfl, rfl⟩ ?_
  refine mA ⟨by decide +kernel, rfl, rfl, ⟨TX9, 25, rfl⟩, q398, cV94⟩ ?_
  refine mA ⟨by decide +kernel, rfl, by decide +kernel⟩ ?_
  refine mA ⟨by decide +kernel, rfl, rfl⟩ ?_
  refine mA ⟨by decide +kernel, rfl, RX9, TX9, 25, rfl, by decide +kernel, mIn_wsX90, Or.inl q375⟩ ?_
  refine mA ⟨by decide +kernel, rfl, rfl⟩ ?_
  refine mA ⟨by decide +kernel, rfl⟩ ?_
  refine mA ⟨by decide +kernel, rfl, by decide +kernel⟩ ?_
  refine mA ⟨by decide +kernel, rfl, rfl⟩ ?_
  refine mA ⟨by decide +kernel, rfl, by decide +kernel⟩ ?_
  refine mA ⟨by decide +kernel, rfl, rfl, ⟨TX9, 25, rfl⟩, q390, cV89⟩ ?_
  refine mA ⟨by decide +kernel, rfl⟩ ?_
  refine mA ⟨by decide +kernel, rfl, rfl⟩ ?_
  exact trivial
set_option maxRecDepth 100000 in
set_option maxHeartbeats 4000000 in
theorem okX9_turn : mAllOk (mMt0 96) tbX9_turn := by
  rw [mtX9_turn]
  unfold tbX9_turn
  refine mA ⟨by decide +kernel, rfl, rfl⟩ ?_
  refine mA ⟨by decide +kernel, rfl, by decide +kernel⟩ ?_
  refine mA ⟨by decide +kernel, rfl⟩ ?_
  refine mA ⟨by decide +kernel, rfl, by decide +kernel⟩ ?_
  refine mA ⟨by decide +kernel, rfl, rfl⟩ ?_
  refine mA ⟨by decide +kernel, rfl, by decide +kernel⟩ ?_
  refine mA ⟨by decide +kernel, rfl, rfl⟩ ?_
  refine mA ⟨by decide +kernel, rfl, _, rfl, q402⟩ ?_
  refine mA ⟨by decide +kernel, rfl⟩ ?_
  refine mA ⟨by decide +kernel, rfl, rfl⟩ ?_
  exact trivial
set_option maxRecDepth 100000 in
set_option maxHeartbeats 4000000 in
theorem okX9_turned : mAllOk (mMt0 97) tbX9_turned := by
  rw [mtX9_turned]
  unfold tbX9_turned
  refine mA ⟨by decide +kernel, rfl, rfl⟩ ?_
  refine mA ⟨by decide +kernel, rfl, by decide +kernel⟩ ?_
  refine mA ⟨by decide +kernel, rfl, RX9, TX9, 25, rfl, by decide +kernel, mIn_wsX90, Or.inl q388, rfl, Or.inl rfl⟩ ?_
  refine mA ⟨by decide +kernel, rfl, rfl⟩ ?_
  refine mA ⟨by decide +kernel, rfl, rfl⟩ ?_
  refine mA ⟨by decide +kernel, rfl, rfl, ⟨TX9, 25, rfl⟩, q398, cV94⟩ ?_
  refine mA ⟨by decide +kernel, rfl, by decide +kernel⟩ ?_
  refine mA ⟨by decide +kernel, rfl, rfl⟩ ?_
  refine mA ⟨by decide +kernel, rfl, RX9, TX9, 25, rfl, by decide +kernel, mIn_wsX90, Or.inl q375⟩ ?_
  refine mA ⟨by decide +kernel, rfl, rfl⟩ ?_
  refine mA ⟨by decide +kernel, rfl⟩ ?_
  refine mA ⟨by decide +kernel, rfl, q403, cS96⟩ ?_
  refine mA ⟨by decide +kernel, rfl, by decide +kernel⟩ ?_
  refine mA ⟨by decide +kernel, rfl, rfl⟩ ?_
  refine mA ⟨by decide +kernel, rfl, by decide +kernel⟩ ?_
  refine mA ⟨by decide +kernel, rfl, rfl, ⟨TX9, 25, rfl⟩, q390, cV89⟩ ?_
  refine mA ⟨by decide +kernel, rfl⟩ ?_
  refine mA ⟨by decide +kernel, rfl, rfl⟩ ?_
  exact trivial
set_option maxRecDepth 100000 in
set_option maxHeartbeats 4000000 in
theorem okX9_rank : mAllOk (mMt0 98) tbX9_rank := by
  rw [mtX9_rank]
  unfold tbX9_rank
  refine mA ⟨by decide +kernel, rfl, rfl⟩ ?_
  refine mA ⟨by decide +kernel, rfl, by decide +kernel⟩ ?_
  refine mA ⟨by decide +kernel, rfl, RX9, TX9, 25, rfl, by decide +kernel, mIn_wsX90, Or.inl q388, rfl, Or.inl rfl⟩ ?_
  refine mA ⟨by decide +kernel, rfl, rfl⟩ ?_
  refine mA ⟨by decide +kernel, rfl, rfl⟩ ?_
  refine mA ⟨by decide +kernel, rfl, rfl, ⟨TX9, 25, rfl⟩, q398, cV94⟩ ?_
  refine mA ⟨by decide +kernel, rfl, by decide +kernel⟩ ?_
  refine mA ⟨by decide +kernel, rfl, rfl⟩ ?_
  refine mA ⟨by decide +kernel, rfl, by decide +kernel⟩ ?_
  refine mA ⟨by decide +kernel, rfl, rfl, ⟨TX9, 25, rfl⟩, q390, cV89⟩ ?_
  refine mA ⟨by decide +kernel, rfl, rfl⟩ ?_
  refine mA ⟨by decide +kernel, rfl, by decide +kernel⟩ ?_
  refine mA ⟨by decide +kernel, rfl, rfl⟩ ?_
  refine mA ⟨by decide +kernel, rfl, by decide +kernel⟩ ?_
  refine mA ⟨by decide +kernel, rfl, rfl⟩ ?_
  refine mA ⟨by decide +kernel, rfl, rfl⟩ ?_
  refine mA ⟨by decide +kernel, rfl, rfl⟩ ?_
  refine mA ⟨by decide +kernel, rfl, RX9, TX9, 25, rfl, by decide +kernel, mIn_wsX90, Or.inl q389⟩ ?_
  refine mA ⟨by decide +kernel, rfl, by decide +kernel⟩ ?_
  refine mA ⟨by decide +kernel, rfl, rfl⟩ ?_
  refine mA ⟨by decide +kernel, rfl, rfl⟩ ?_
  refine mA ⟨by decide +kernel, rfl, RX9, TX9, 25, rfl, by decide +kernel, mIn_wsX90, Or.inl q375⟩ ?_
  refine mA ⟨by decide +kernel, rfl, rfl⟩ ?_
  refine mA ⟨by decide +kernel, rfl⟩ ?_
  refine mA ⟨by decide +kernel, rfl, q403, cS96⟩ ?_
  refine mA ⟨by decide +kernel, rfl, rfl⟩ ?_
  refine mA ⟨by decide +kernel, rfl, RX9, TX9, 25, rfl, by decide +kernel, mIn_wsX90, Or.inl q375⟩ ?_
  refine mA ⟨by decide +kernel, rfl, rfl⟩ ?_
  refine mA ⟨by decide +kernel, rfl⟩ ?_
  refine mA ⟨by decide +kernel, rfl, q403, cS96⟩ ?_
  refine mA ⟨by decide +kernel, rfl⟩ ?_
  refine mA ⟨by decide +kernel, rfl, by decide +kernel⟩ ?_
  refine mA ⟨by decide +kernel, rfl, by decide +kernel⟩ ?_
  refine mA ⟨by decide +kernel, rfl, by decide +kernel⟩ ?_
  refine mA ⟨by decide +kernel, rfl, by decide +kernel⟩ ?_
  refine mA ⟨by decide +kernel, rfl⟩ ?_
  refine mA ⟨by decide +kernel, rfl, rfl⟩ ?_
  refine mA ⟨by decide +kernel, rfl, rfl, by decide +kernel⟩ ?_
  refine mA ⟨by decide +kernel, rfl, by decide +kernel⟩ ?_
  refine mA ⟨by decide +kernel, rfl, rfl⟩ ?_
  refine mA ⟨by decide +kernel, rfl, rfl⟩ ?_
  exact trivial
set_option maxRecDepth 100000 in
set_option maxHeartbeats 4000000 in
theorem okX9_ten : mAllOk (mMt0 99) tbX9_ten := by
  rw [mtX9_ten]
  unfold tbX9_ten
  refine mA ⟨by decide +kernel, rfl, by decide +kernel⟩ ?_
  refine mA ⟨by decide +kernel, rfl, rfl⟩ ?_
  refine mA ⟨by decide +kernel, rfl, by decide +kernel⟩ ?_
  refine mA ⟨by decide +kernel, rfl, rfl⟩ ?_
  refine mA ⟨by decide +kernel, rfl, rfl⟩ ?_
  refine mA ⟨by decide +kernel, rfl, rfl⟩ ?_
  refine mA ⟨by decide +kernel, rfl, by decide +kernel⟩ ?_
  refine mA ⟨by decide +kernel, rfl, rfl⟩ ?_
  refine mA ⟨by decide +kernel, rfl, _, rfl, q406⟩ ?_
  refine mA ⟨by decide +kernel, rfl⟩ ?_
  refine mA ⟨by decide +kernel, rfl, rfl⟩ ?_
  refine mA ⟨by decide +kernel, rfl, rfl, by decide +kernel⟩ ?_
  refine mA ⟨by decide +kernel, rfl, by decide +kernel⟩ ?_
  refine mA ⟨by decide +kernel, rfl, rfl⟩ ?_
  refine mA ⟨by decide +kernel, rfl, rfl⟩ ?_
  exact trivial
set_option maxRecDepth 100000 in
set_option maxHeartbeats 4000000 in
theorem okX9_nearest : mAllOk (mMt0 100) tbX9_nearest := by
  rw [mtX9_nearest]
  unfold tbX9_nearest
  refine mA ⟨by decide +kernel, rfl, rfl⟩ ?_
  refine mA ⟨by decide +kernel, rfl, by decide +kernel⟩ ?_
  refine mA ⟨by decide +kernel, rfl⟩ ?_
  refine mA ⟨by decide +kernel, rfl, by decide +kernel⟩ ?_
  refine mA ⟨by decide +kernel, rfl, by decide +kernel⟩ ?_
  refine mA ⟨by decide +kernel, rfl, rfl⟩ ?_
  refine mA ⟨by decide +kernel, rfl, rfl⟩ ?_
  refine mA ⟨by decide +kernel, rfl, q407, cS99⟩ ?_
  refine mA ⟨by decide +kernel, rfl, rfl⟩ ?_
  refine mA ⟨by decide +kernel, rfl, rfl⟩ ?_
  refine mA ⟨by decide +kernel, rfl, rfl⟩ ?_
  refine mA ⟨by decide +kernel, rfl⟩ ?_
  refine mA ⟨by decide +kernel, rfl, rfl⟩ ?_
  refine mA ⟨by decide +kernel, rfl, rfl⟩ ?_
  refine mA ⟨by decide +kernel, rfl, rfl⟩ ?_
  refine mA ⟨by decide +kernel, rfl⟩ ?_
  refine mA ⟨by decide +kernel, rfl, rfl⟩ ?_
  refine mA ⟨by decide +kernel, rfl, by decide +kernel⟩ ?_
  refine mA ⟨by decide +kernel, rfl, rfl⟩ ?_
  refine mA ⟨by decide +kernel, rfl, rfl⟩ ?_
  refine mA ⟨by decide +kernel, rfl, _, rfl, q410⟩ ?_
  refine mA ⟨by decide +kernel, rfl⟩ ?_
  refine mA ⟨by decide +kernel, rfl, by decide +kernel⟩ ?_
  refine mA ⟨by decide +kernel, rfl, rfl⟩ ?_
  refine mA ⟨by decide +kernel, rfl, _, rfl, q411⟩ ?_
  refine mA ⟨by decide +kernel, rfl⟩ ?_
  refine mA ⟨by decide +kernel, rfl, rfl⟩ ?_
  refine mA ⟨by decide +kernel, rfl, rfl⟩ ?_
  refine mA ⟨by decide +kernel, rfl, _, rfl, q411⟩ ?_
  refine mA ⟨by decide +kernel, rfl⟩ ?_
  refine mA ⟨by decide +kernel, rfl, rfl⟩ ?_
  refine mA ⟨by decide +kernel, rfl, rfl⟩ ?_
  refine mA ⟨by decide +kernel, rfl, rfl⟩ ?_
  refine mA ⟨by decide +kernel, rfl⟩ ?_
  refine mA ⟨by decide +kernel, rfl, by decide +kernel⟩ ?_
  refine mA ⟨by decide +kernel, rfl, rfl⟩ ?_
  refine mA ⟨by decide +kernel, rfl, rfl⟩ ?_
  refine mA ⟨by decide +kernel, rfl⟩ ?_
  refine mA ⟨by decide +kernel, rfl, rfl⟩ ?_
  refine mA ⟨by decide +kernel, rfl, rfl⟩ ?_
  refine mA ⟨by decide +kernel, rfl, by decide +kernel⟩ ?_
  refine mA ⟨by decide +kernel, rfl⟩ ?_
  refine mA ⟨by decide +kernel, rfl, rfl⟩ ?_
  refine mA ⟨by decide +kernel, rfl, rfl, by decide +kernel⟩ ?_
  refine mA ⟨by decide +kernel, rfl, by decide +kernel⟩ ?_
  refine mA ⟨by decide +kernel, rfl, rfl⟩ ?_
  refine mA ⟨by decide +kernel, rfl, _, rfl, q411⟩ ?_
  refine mA ⟨by decide +kernel, rfl⟩ ?_
  refine mA ⟨by decide +kernel, rfl, rfl⟩ ?_
  refine mA ⟨by decide +kernel, rfl, rfl⟩ ?_
  refine mA ⟨by decide +kernel, rfl, rfl⟩ ?_
  refine mA ⟨by decide +kernel, rfl⟩ ?_
  refine mA ⟨by decide +kernel, rfl, by decide +kernel⟩ ?_
  refine mA ⟨by decide +kernel, rfl, rfl⟩ ?_
  refine mA ⟨by decide +kernel, rfl, rfl⟩ ?_
  refine mA ⟨by decide +kernel, rfl⟩ ?_
  refine mA ⟨by decide +kernel, rfl, by decide +kernel⟩ ?_
  refine mA ⟨by decide +kernel, rfl, rfl⟩ ?_
  refine mA ⟨by decide +kernel, rfl, _, rfl, q411⟩ ?_
  refine mA ⟨by decide +kernel, rfl⟩ ?_
  refine mA ⟨by decide +kernel, rfl, by decide +kernel⟩ ?_
  refine mA ⟨by decide +kernel, rfl⟩ ?_
  refine mA ⟨by decide +kernel, rfl, by decide +kernel⟩ ?_
  refine mA ⟨by decide +kernel, rfl, rfl⟩ ?_
  refine mA ⟨by decide +kernel, rfl, by decide +kernel⟩ ?_
  refine mA ⟨by decide +kernel, rfl⟩ ?_
  refine mA ⟨by decide +kernel, rfl, rfl⟩ ?_
  refine mA ⟨by decide +kernel, rfl, rfl⟩ ?_
  refine mA ⟨by decide +kernel, rfl, _, rfl, q412⟩ ?_
  refine mA ⟨by decide +kernel, rfl⟩ ?_
  refine mA ⟨by decide +kernel, rfl, by decide +kernel⟩ ?_
  refine mA ⟨by decide +kernel, rfl, _, rfl, q410⟩ ?_
  refine mA ⟨by decide +kernel, rfl, rfl⟩ ?_
  refine mA ⟨by decide +kernel, rfl, rfl, by decide +kernel⟩ ?_
  refine mA ⟨by decide +kernel, rfl, by decide +kernel⟩ ?_
  refine mA ⟨by decide +kernel, rfl, rfl⟩ ?_
  refine mA ⟨by decide +kernel, rfl⟩ ?_
  refine mA ⟨by decide +kernel, rfl⟩ ?_
  refine mA ⟨by decide +kernel, rfl, by decide +kernel⟩ ?_
  refine mA ⟨by decide +kernel, rfl⟩ ?_
  refine mA ⟨by decide +kernel, rfl, rfl⟩ ?_
  refine mA ⟨by decide +kernel, rfl, _, rfl, q413⟩ ?_
  refine mA ⟨by decide +kernel, rfl⟩ ?_
  refine mA ⟨by decide +kernel, rfl⟩ ?_
  refine mA ⟨by decide +kernel, rfl, rfl⟩ ?_
  exact trivial
set_option maxRecDepth 100000 in
set_option maxHeartbeats 4000000 in
theorem okX9_signedNearest : mAllOk (mMt0 101) tbX9_signedNearest := by
  rw [mtX9_signedNearest]
  unfold tbX9_signedNearest
  refine mA ⟨by decide +kernel, rfl, rfl⟩ ?_
  refine mA ⟨by decide +kernel, rfl, by decide +kernel⟩ ?_
  refine mA ⟨by decide +kernel, rfl⟩ ?_
  refine mA ⟨by decide +kernel, rfl, by decide +kernel⟩ ?_
  refine mA ⟨by decide +kernel, rfl, rfl⟩ ?_
  refine mA ⟨by decide +kernel, rfl⟩ ?_
  refine mA ⟨by decide +kernel, rfl, rfl⟩ ?_
  refine mA ⟨by decide +kernel, rfl, q414, cS100⟩ ?_
  refine mA ⟨by decide +kernel, rfl, _, rfl, q417⟩ ?_
  refine mA ⟨by decide +kernel, rfl⟩ ?_
  refine mA ⟨by decide +kernel, rfl, by decide +kernel⟩ ?_
  refine mA ⟨by decide +kernel, rfl, rfl⟩ ?_
  refine mA ⟨by decide +kernel, rfl, rfl⟩ ?_
  refine mA ⟨by decide +kernel, rfl, q414, cS100⟩ ?_
  refine mA ⟨by decide +kernel, rfl, rfl⟩ ?_
  exact trivial
set_option maxRecDepth 100000 in
set_option maxHeartbeats 4000000 in
theorem okX9_scale : mAllOk (mMt0 102) tbX9_scale := by
  rw [mtX9_scale]
  unfold tbX9_scale
  refine mA ⟨by decide +kernel, rfl, rfl⟩ ?_
  refine mA ⟨by decide +kernel, rfl, _, rfl, q402⟩ ?_
  refine mA ⟨by decide +kernel, rfl⟩ ?_
  refine mA ⟨by decide +kernel, rfl, rfl⟩ ?_
  refine mA ⟨by decide +kernel, rfl, rfl⟩ ?_
  refine mA ⟨by decide +kernel, rfl, by decide +kernel⟩ ?_
  refine mA ⟨by decide +kernel, rfl⟩ ?_
  refine mA ⟨by decide +kernel, rfl, by decide +kernel⟩ ?_
  refine mA ⟨by decide +kernel, rfl, by decide +kernel⟩ ?_
  refine mA ⟨by decide +kernel, rfl, rfl⟩ ?_
  refine mA ⟨by decide +kernel, rfl, rfl⟩ ?_
  refine mA ⟨by decide +kernel, rfl, by decide +kernel⟩ ?_
  refine mA ⟨by decide +kernel, rfl⟩ ?_
  refine mA ⟨by decide +kernel, rfl, by decide +kernel⟩ ?_
  refine mA ⟨by decide +kernel, rfl, _, rfl, q417⟩ ?_
  refine mA ⟨by decide +kernel, rfl, rfl⟩ ?_
  refine mA ⟨by decide +kernel, rfl, by decide +kernel⟩ ?_
  refine mA ⟨by decide +kernel, rfl, rfl⟩ ?_
  refine mA ⟨by decide +kernel, rfl, _, rfl, q410⟩ ?_
  refine mA ⟨by decide +kernel, rfl, rfl⟩ ?_
  refine mA ⟨by decide +kernel, rfl, rfl⟩ ?_
  refine mA ⟨by decide +kernel, rfl, rfl⟩ ?_
  refine mA ⟨by decide +kernel, rfl⟩ ?_
  refine mA ⟨by decide +kernel, rfl, by decide +kernel⟩ ?_
  refine mA ⟨by decide +kernel, rfl⟩ ?_
  refine mA ⟨by decide +kernel, rfl, by decide +kernel⟩ ?_
  refine mA ⟨by decide +kernel, rfl, rfl⟩ ?_
  refine mA ⟨by decide +kernel, rfl, rfl⟩ ?_
  refine mA ⟨by decide +kernel, rfl⟩ ?_
  refine mA ⟨by decide +kernel, rfl, _, rfl, q411⟩ ?_
  refine mA ⟨by decide +kernel, rfl⟩ ?_
  refine mA ⟨by decide +kernel, rfl, rfl⟩ ?_
  refine mA ⟨by decide +kernel, rfl, rfl⟩ ?_
  refine mA ⟨by decide +kernel, rfl, rfl⟩ ?_
  refine mA ⟨by decide +kernel, rfl, q414, cS100⟩ ?_
  refine mA ⟨by decide +kernel, rfl, rfl⟩ ?_
  refine mA ⟨by decide +kernel, rfl⟩ ?_
  refine mA ⟨by decide +kernel, rfl, by decide +kernel⟩ ?_
  refine mA ⟨by decide +kernel, rfl, rfl⟩ ?_
  refine mA ⟨by decide +kernel, rfl, rfl⟩ ?_
  refine mA ⟨by decide +kernel, rfl, by decide +kernel⟩ ?_
  refine mA ⟨by decide +kernel, rfl, rfl⟩ ?_
  refine mA ⟨by decide +kernel, rfl, rfl⟩ ?_
  refine mA ⟨by decide +kernel, rfl, by decide +kernel⟩ ?_
  refine mA ⟨by decide +kernel, rfl, rfl⟩ ?_
  refine mA ⟨by decide +kernel, rfl, _, rfl, q410⟩ ?_
  refine mA ⟨by decide +kernel, rfl⟩ ?_
  refine mA ⟨by decide +kernel, rfl, by decide +kernel⟩ ?_
  refine mA ⟨by decide +kernel, rfl, rfl⟩ ?_
  refine mA ⟨by decide +kernel, rfl, rfl⟩ ?_
  refine mA ⟨by decide +kernel, rfl, q414, cS100⟩ ?_
  refine mA ⟨by decide +kernel, rfl, rfl⟩ ?_
  refine mA ⟨by decide +kernel, rfl⟩ ?_
  refine mA ⟨by decide +kernel, rfl, by decide +kernel⟩ ?_
  refine mA ⟨by decide +kernel, rfl, _, rfl, q417⟩ ?_
  refine mA ⟨by decide +kernel, rfl, rfl⟩ ?_
  refine mA ⟨by decide +kernel, rfl, rfl⟩ ?_
  refine mA ⟨by decide +kernel, rfl, by decide +kernel⟩ ?_
  refine mA ⟨by decide +kernel, rfl⟩ ?_
  refine mA ⟨by decide +kernel, rfl, by decide +kernel⟩ ?_
  refine mA ⟨by decide +kernel, rfl, rfl⟩ ?_
  refine mA ⟨by decide +kernel, rfl⟩ ?_
  refine mA ⟨by decide +kernel, rfl, by decide +kernel⟩ ?_
  refine mA ⟨by decide +kernel, rfl, rfl⟩ ?_
  refine mA ⟨by decide +kernel, rfl, rfl⟩ ?_
  exact trivial
set_option maxRecDepth 100000 in
set_option maxHeartbeats 4000000 in
theorem okX9_power : mAllOk (mMt0 103) tbX9_power := by
  rw [mtX9_power]
  unfold tbX9_power
  refine mA ⟨by decide +kernel, rfl, rfl⟩ ?_
  refine mA ⟨by decide +kernel, rfl, by decide +kernel⟩ ?_
  refine mA ⟨by decide +kernel, rfl, RX9, TX9, 25, rfl, by decide +kernel, mIn_wsX90, Or.inl q388, rfl, Or.inl rfl⟩ ?_
  refine mA ⟨by decide +kernel, rfl, rfl⟩ ?_
  refine mA ⟨by decide +kernel, rfl, rfl⟩ ?_
  refine mA ⟨by decide +kernel, rfl, rfl, ⟨TX9, 25, rfl⟩, q398, cV94⟩ ?_
  refine mA ⟨by decide +kernel, rfl, by decide +kernel⟩ ?_
  refine mA ⟨by decide +kernel, rfl, rfl⟩ ?_
  refine mA ⟨by decide +kernel, rfl, by decide +kernel⟩ ?_
  refine mA ⟨by decide +kernel, rfl, rfl, ⟨TX9, 25, rfl⟩, q390, cV89⟩ ?_
  refine mA ⟨by decide +kernel, rfl, rfl⟩ ?_
  refine mA ⟨by decide +kernel, rfl, by decide +kernel⟩ ?_
  refine mA ⟨by decide +kernel, rfl, rfl⟩ ?_
  refine mA ⟨by decide +kernel, rfl, rfl⟩ ?_
  refine mA ⟨by decide +kernel, rfl, by decide +kernel⟩ ?_
  refine mA ⟨by decide +kernel, rfl, by decide +kernel⟩ ?_
  refine mA ⟨by decide +kernel, rfl, rfl⟩ ?_
  refine mA ⟨by decide +kernel, rfl, RX9, TX9, 25, rfl, by decide +kernel, mIn_wsX90, Or.inl q375⟩ ?_
  refine mA ⟨by decide +kernel, rfl, rfl⟩ ?_
  refine mA ⟨by decide +kernel, rfl⟩ ?_
  refine mA ⟨by decide +kernel, rfl, rfl⟩ ?_
  refine mA ⟨by decide +kernel, rfl, q418, cS102⟩ ?_
  refine mA ⟨by decide +kernel, rfl, _, rfl, q417⟩ ?_
  refine mA ⟨by decide +kernel, rfl⟩ ?_
  refine mA ⟨by decide +kernel, rfl, by decide +kernel⟩ ?_
  refine mA ⟨by decide +kernel, rfl, rfl⟩ ?_
  refine mA ⟨by decide +kernel, rfl, rfl⟩ ?_
  refine mA ⟨by decide +kernel, rfl, rfl, by decide +kernel⟩ ?_
  refine mA ⟨by decide +kernel, rfl, by decide +kernel⟩ ?_
  refine mA ⟨by decide +kernel, rfl, by decide +kernel⟩ ?_
  refine mA ⟨by decide +kernel, rfl, rfl⟩ ?_
  exact trivial
set_option maxRecDepth 100000 in
set_option maxHeartbeats 4000000 in
theorem okX9_scaled : mAllOk (mMt0 104) tbX9_scaled := by
  rw [mtX9_scaled]
  unfold tbX9_scaled
  refine mA ⟨by decide +kernel, rfl, rfl⟩ ?_
  refine mA ⟨by decide +kernel, rfl, by decide +kernel⟩ ?_
  refine mA ⟨by decide +kernel, rfl, RX9, TX9, 25, rfl, by decide +kernel, mIn_wsX90, Or.inl q388, rfl, Or.inl rfl⟩ ?_
  refine mA ⟨by decide +kernel, rfl, rfl⟩ ?_
  refine mA ⟨by decide +kernel, rfl, rfl⟩ ?_
  refine mA ⟨by decide +kernel, rfl, rfl, ⟨TX9, 25, rfl⟩, q398, cV94⟩ ?_
  refine mA ⟨by decide +kernel, rfl, by decide +kernel⟩ ?_
  refine mA ⟨by decide +kernel, rfl, rfl⟩ ?_
  refine mA ⟨by decide +kernel, rfl, by decide +kernel⟩ ?_
  refine mA ⟨by decide +kernel, rfl, rfl, ⟨TX9, 25, rfl⟩, q390, cV89⟩ ?_
  refine mA ⟨by decide +kernel, rfl⟩ ?_
  refine mA ⟨by decide +kernel, rfl, rfl⟩ ?_
  refine mA ⟨by decide +kernel, rfl, rfl⟩ ?_
  refine mA ⟨by decide +kernel, rfl, by decide +kernel⟩ ?_
  refine mA ⟨by decide +kernel, rfl, rfl⟩ ?_
  refine mA ⟨by decide +kernel, rfl, by decide +kernel⟩ ?_
  refine mA ⟨by decide +kernel, rfl, by decide +kernel⟩ ?_
  refine mA ⟨by decide +kernel, rfl, rfl⟩ ?_
  refine mA ⟨by decide +kernel, rfl, by decide +kernel⟩ ?_
  refine mA ⟨by decide +kernel, rfl, rfl, ⟨TX9, 25, rfl⟩, q390, cV89⟩ ?_
  refine mA ⟨by decide +kernel, rfl⟩ ?_
  refine mA ⟨by decide +kernel, rfl, rfl⟩ ?_
  refine mA ⟨by decide +kernel, rfl, rfl⟩ ?_
  refine mA ⟨by decide +kernel, rfl, RX9, TX9, 25, rfl, by decide +kernel, mIn_wsX90, Or.inl q375⟩ ?_
  refine mA ⟨by decide +kernel, rfl, rfl⟩ ?_
  refine mA ⟨by decide +kernel, rfl⟩ ?_
  refine mA ⟨by decide +kernel, rfl, rfl⟩ ?_
  refine mA ⟨by decide +kernel, rfl, q418, cS102⟩ ?_
  refine mA ⟨by decide +kernel, rfl, rfl⟩ ?_
  refine mA ⟨by decide +kernel, rfl, rfl⟩ ?_
  refine mA ⟨by decide +kernel, rfl, _, rfl, q417⟩ ?_
  refine mA ⟨by decide +kernel, rfl⟩ ?_
  refine mA ⟨by decide +kernel, rfl, by decide +kernel⟩ ?_
  refine mA ⟨by decide +kernel, rfl, rfl⟩ ?_
  refine mA ⟨by decide +kernel, rfl, by decide +kernel⟩ ?_
  refine mA ⟨by decide +kernel, rfl, rfl, ⟨TX9, 25, rfl⟩, q390, cV89⟩ ?_
  refine mA ⟨by decide +kernel, rfl⟩ ?_
  refine mA ⟨by decide +kernel, rfl, by decide +kernel⟩ ?_
  refine mA ⟨by decide +kernel, rfl, rfl⟩ ?_
  refine mA ⟨by decide +kernel, rfl, rfl⟩ ?_
  exact trivial
set_option maxRecDepth 100000 in
set_option maxHeartbeats 4000000 in
theorem okX9_begin : mAllOk (mMt0 105) tbX9_begin := by
  rw [mtX9_begin]
  unfold tbX9_begin
  refine mA ⟨by decide +kernel, rfl, by decide +kernel⟩ ?_
  refine mA ⟨by decide +kernel, rfl, rfl⟩ ?_
  refine mA ⟨by decide +kernel, rfl, rfl⟩ ?_
  refine mA ⟨by decide +kernel, rfl, by decide +kernel⟩ ?_
  refine mA ⟨by decide +kernel, rfl, by decide +kernel⟩ ?_
  refine mA ⟨by decide +kernel, rfl, rfl⟩ ?_
  refine mA ⟨by decide +kernel, rfl, RX9, TX9, 25, rfl, by decide +kernel, mIn_wsX90, Or.inl q376⟩ ?_
  refine mA ⟨by decide +kernel, rfl, rfl⟩ ?_
  refine mA ⟨by decide +kernel, rfl, by decide +kernel⟩ ?_
  refine mA ⟨by decide +kernel, rfl⟩ ?_
  refine mA ⟨by decide +kernel, rfl, rfl⟩ ?_
  refine mA ⟨by decide +kernel, rfl, RX9, TX9, 25, rfl, by decide +kernel, mIn_wsX90, Or.inl q377⟩ ?_
  refine mA ⟨by decide +kernel, rfl, rfl⟩ ?_
  refine mA ⟨by decide +kernel, rfl, by decide +kernel⟩ ?_
  refine mA ⟨by decide +kernel, rfl⟩ ?_
  refine mA ⟨by decide +kernel, rfl, rfl, by decide +kernel⟩ ?_
  refine mA ⟨by decide +kernel, rfl, by decide +kernel⟩ ?_
  refine mA ⟨by decide +kernel, rfl, rfl⟩ ?_
  refine mA ⟨by decide +kernel, rfl, by decide +kernel⟩ ?_
  refine mA ⟨by decide +kernel, rfl, RX9, TX9, 25, rfl, by decide +kernel, mIn_wsX90, Or.inl q421, rfl, Or.inl rfl⟩ ?_
  refine mA ⟨by decide +kernel, rfl, rfl⟩ ?_
  refine mA ⟨by decide +kernel, rfl, by decide +kernel⟩ ?_
  refine mA ⟨by decide +kernel, rfl, RX9, TX9, 25, rfl, by decide +kernel, mIn_wsX90, Or.inl q422, rfl, Or.inl rfl⟩ ?_
  refine mA ⟨by decide +kernel, rfl, rfl⟩ ?_
  exact trivial
set_option maxRecDepth 100000 in
set_option maxHeartbeats 4000000 in
theorem okX9_before : mAllOk (mMt0 106) tbX9_before := by
  rw [mtX9_before]
  unfold tbX9_before
  refine mA ⟨by decide +kernel, rfl, rfl⟩ ?_
  refine mA ⟨by decide +kernel, rfl, rfl⟩ ?_
  refine mA ⟨by decide +kernel, rfl, by decide +kernel⟩ ?_
  refine mA ⟨by decide +kernel, rfl, rfl⟩ ?_
  refine mA ⟨by decide +kernel, rfl, rfl⟩ ?_
  refine mA ⟨by decide +kernel, rfl, rfl⟩ ?_
  refine mA ⟨by decide +kernel, rfl⟩ ?_
  refine mA ⟨by decide +kernel, rfl⟩ ?_
  refine mA ⟨by decide +kernel, rfl, by decide +kernel⟩ ?_
  refine mA ⟨by decide +kernel, rfl, by decide +kernel⟩ ?_
  refine mA ⟨by decide +kernel, rfl, rfl⟩ ?_
  exact trivial
set_option maxRecDepth 100000 in
set_option maxHeartbeats 4000000 in
theorem okX9_pass : mAllOk (mMt0 107) tbX9_pass := by
  rw [mtX9_pass]
  unfold tbX9_pass
  refine mA ⟨by decide +kernel, rfl, rfl⟩ ?_
  refine mA ⟨by decide +kernel, rfl, rfl⟩ ?_
  refine mA ⟨by decide +kernel, rfl⟩ ?_
  refine mA ⟨by decide +kernel, rfl, rfl⟩ ?_
  refine mA ⟨by decide +kernel, rfl, rfl⟩ ?_
  refine mA ⟨by decide +kernel, rfl, rfl⟩ ?_
  refine mA ⟨by decide +kernel, rfl, rfl⟩ ?_
  refine mA ⟨by decide +kernel, rfl, by decide +kernel⟩ ?_
  refine mA ⟨by decide +kernel, rfl, q423, cS106⟩ ?_
  refine mA ⟨by decide +kernel, rfl⟩ ?_
  refine mA ⟨by decide +kernel, rfl, rfl⟩ ?_
  refine mA ⟨by decide +kernel, rfl, rfl⟩ ?_
  refine mA ⟨by decide +kernel, rfl, RX9, TX9, 25, rfl, by decide +kernel, mIn_wsX90, Or.inl q376⟩ ?_
  refine mA ⟨by decide +kernel, rfl, rfl⟩ ?_
  refine mA ⟨by decide +kernel, rfl, RX9, TX9, 25, rfl, by decide +kernel, mIn_wsX90, Or.inl q421⟩ ?_
  refine mA ⟨by decide +kernel, rfl, rfl⟩ ?_
  refine mA ⟨by decide +kernel, rfl⟩ ?_
  refine mA ⟨by decide +kernel, rfl, rfl⟩ ?_
  refine mA ⟨by decide +kernel, rfl, _, rfl, q426⟩ ?_
  refine mA ⟨by decide +kernel, rfl, rfl⟩ ?_
  refine mA ⟨by decide +kernel, rfl, RX9, TX9, 25, rfl, by decide +kernel, mIn_wsX90, Or.inl q421⟩ ?_
  refine mA ⟨by decide +kernel, rfl⟩ ?_
  refine mA ⟨by decide +kernel, rfl⟩ ?_
  refine mA ⟨by decide +kernel, rfl, rfl⟩ ?_
  refine mA ⟨by decide +kernel, rfl, by decide +kernel⟩ ?_
  refine mA ⟨by decide +kernel, rfl⟩ ?_
  refine mA ⟨by decide +kernel, rfl⟩ ?_
  refine mA ⟨by decide +kernel, rfl⟩ ?_
  refine mA ⟨by decide +kernel, rfl, by decide +kernel⟩ ?_
  refine mA ⟨by decide +kernel, rfl⟩ ?_
  refine mA ⟨by decide +kernel, rfl, RX9, TX9, 25, rfl, by decide +kernel, mIn_wsX90, Or.inl q421, rfl, Or.inl rfl⟩ ?_
  refine mA ⟨by decide +kernel, rfl, rfl⟩ ?_
  refine mA ⟨by decide +kernel, rfl, RX9, TX9, 25, rfl, by decide +kernel, mIn_wsX90, Or.inl q377⟩ ?_
  refine mA ⟨by decide +kernel, rfl, rfl⟩ ?_
  refine mA ⟨by decide +kernel, rfl, RX9, TX9, 25, rfl, by decide +kernel, mIn_wsX90, Or.inl q422⟩ ?_
  refine mA ⟨by decide +kernel, rfl, rfl⟩ ?_
  refine mA ⟨by decide +kernel, rfl⟩ ?_
  refine mA ⟨by decide +kernel, rfl, rfl⟩ ?_
  refine mA ⟨by decide +kernel, rfl, _, rfl, q426⟩ ?_
  refine mA ⟨by decide +kernel, rfl, rfl⟩ ?_
  refine mA ⟨by decide +kernel, rfl, RX9, TX9, 25, rfl, by decide +kernel, mIn_wsX90, Or.inl q422⟩ ?_
  refine mA ⟨by decide +kernel, rfl⟩ ?_
  refine mA ⟨by decide +kernel, rfl⟩ ?_
  refine mA ⟨by decide +kernel, rfl, rfl⟩ ?_
  refine mA ⟨by decide +kernel, rfl, by decide +kernel⟩ ?_
  refine mA ⟨by decide +kernel, rfl⟩ ?_
  refine mA ⟨by decide +kernel, rfl⟩ ?_
  refine mA ⟨by decide +kernel, rfl⟩ ?_
  refine mA ⟨by decide +kernel, rfl, by decide +kernel⟩ ?_
  refine mA ⟨by decide +kernel, rfl⟩ ?_
  refine mA ⟨by decide +kernel, rfl, RX9, TX9, 25, rfl, by decide +kernel, mIn_wsX90, Or.inl q422, rfl, Or.inl rfl⟩ ?_
  refine mA ⟨by decide +kernel, rfl, rfl⟩ ?_
  exact trivial
theorem swX9_foretells_1 : okI (mMt0 108).1.cls mTs mMt0 ((mMt0 108).1.name == "<init>") (mMt0 108).2.2.2.1 (mMt0 108).2.1 1 (.tableswitch 83 1 4 #[31, 38, 46, 73]) 31 [1, 32, 2, 39, 3, 47, 4, 74, 84] .null := mSw_ok (lo := 1) (n := 4) (dflt := 84) (tg := [32, 39, 47, 74]) rfl rfl (by decide) (by decide) (by decide) (by decide) (by
  intro j hj
  match j, hj with
  | 0, _ => exact ⟨_, rfl, _, rfl, by decide⟩
  | 1, _ => exact ⟨_, rfl, _, rfl, by decide⟩
  | 2, _ => exact ⟨_, rfl, _, rfl, by decide⟩
  | 3, _ => exact ⟨_, rfl, _, rfl, by decide⟩
  | j + 4, hj => omega)
set_option maxRecDepth 100000 in
set_option maxHeartbeats 4000000 in
theorem okX9_foretells : mAllOk (mMt0 108) tbX9_foretells := by
  rw [mtX9_foretells]
  unfold tbX9_foretells
  refine mA ⟨by decide +kernel, rfl, rfl⟩ ?_
  refine mA ⟨by decide +kernel, swX9_foretells_1⟩ ?_
  refine mA ⟨by decide +kernel, rfl, rfl⟩ ?_
  refine mA ⟨by decide +kernel, rfl, rfl⟩ ?_
  refine mA ⟨by decide +kernel, rfl, by decide +kernel⟩ ?_
  refine mA ⟨by decide +kernel, rfl, q423, cS106⟩ ?_
  refine mA ⟨by decide +kernel, rfl, rfl⟩ ?_
  refine mA ⟨by decide +kernel, rfl, rfl⟩ ?_
  refine mA ⟨by decide +kernel, rfl, rfl⟩ ?_
  refine mA ⟨by decide +kernel, rfl, rfl⟩ ?_
  refine mA ⟨by decide +kernel, rfl, q423, cS106⟩ ?_
  refine mA ⟨by decide +kernel, rfl, rfl⟩ ?_
  refine mA ⟨by decide +kernel, rfl, _, rfl, q411⟩ ?_
  refine mA ⟨by decide +kernel, rfl, rfl⟩ ?_
  refine mA ⟨by decide +kernel, rfl, rfl⟩ ?_
  refine mA ⟨by decide +kernel, rfl, by decide +kernel⟩ ?_
  refine mA ⟨by decide +kernel, rfl, q423, cS106⟩ ?_
  refine mA ⟨by decide +kernel, rfl, q403, cS96⟩ ?_
  refine mA ⟨by decide +kernel, rfl⟩ ?_
  refine mA ⟨by decide +kernel, rfl, rfl⟩ ?_
  refine mA ⟨by decide +kernel, rfl, rfl⟩ ?_
  refine mA ⟨by decide +kernel, rfl, by decide +kernel⟩ ?_
  refine mA ⟨by decide +kernel, rfl, q423, cS106⟩ ?_
  refine mA ⟨by decide +kernel, rfl, q403, cS96⟩ ?_
  refine mA ⟨by decide +kernel, rfl⟩ ?_
  refine mA ⟨by decide +kernel, rfl, q403, cS96⟩ ?_
  refine mA ⟨by decide +kernel, rfl, rfl⟩ ?_
  refine mA ⟨by decide +kernel, rfl, rfl⟩ ?_
  refine mA ⟨by decide +kernel, rfl, RX9, TX9, 25, rfl, by decide +kernel, mIn_wsX90, Or.inl q376⟩ ?_
  refine mA ⟨by decide +kernel, rfl, rfl⟩ ?_
  refine mA ⟨by decide +kernel, rfl, RX9, TX9, 25, rfl, by decide +kernel, mIn_wsX90, Or.inl q421⟩ ?_
  refine mA ⟨by decide +kernel, rfl⟩ ?_
  refine mA ⟨by decide +kernel, rfl, rfl⟩ ?_
  refine mA ⟨by decide +kernel, rfl, rfl⟩ ?_
  refine mA ⟨by decide +kernel, rfl, rfl⟩ ?_
  refine mA ⟨by decide +kernel, rfl, by decide +kernel⟩ ?_
  refine mA ⟨by decide +kernel, rfl, q423, cS106⟩ ?_
  refine mA ⟨by decide +kernel, rfl, rfl⟩ ?_
  refine mA ⟨by decide +kernel, rfl, RX9, TX9, 25, rfl, by decide +kernel, mIn_wsX90, Or.inl q377⟩ ?_
  refine mA ⟨by decide +kernel, rfl, rfl⟩ ?_
  refine mA ⟨by decide +kernel, rfl, RX9, TX9, 25, rfl, by decide +kernel, mIn_wsX90, Or.inl q422⟩ ?_
  refine mA ⟨by decide +kernel, rfl⟩ ?_
  refine mA ⟨by decide +kernel, rfl⟩ ?_
  refine mA ⟨by decide +kernel, rfl, rfl⟩ ?_
  exact trivial
set_option maxRecDepth 100000 in
set_option maxHeartbeats 4000000 in
theorem okX9_foretold : mAllOk (mMt0 109) tbX9_foretold := by
  rw [mtX9_foretold]
  unfold tbX9_foretold
  refine mA ⟨by decide +kernel, rfl, rfl⟩ ?_
  refine mA ⟨by decide +kernel, rfl, by decide +kernel⟩ ?_
  refine mA ⟨by decide +kernel, rfl, RX9, TX9, 25, rfl, by decide +kernel, mIn_wsX90, Or.inl q388, rfl, Or.inl rfl⟩ ?_
  refine mA ⟨by decide +kernel, rfl, rfl⟩ ?_
  refine mA ⟨by decide +kernel, rfl, by decide +kernel⟩ ?_
  refine mA ⟨by decide +kernel, rfl, rfl⟩ ?_
  refine mA ⟨by decide +kernel, rfl, rfl⟩ ?_
  refine mA ⟨by decide +kernel, rfl, RX9, TX9, 25, rfl, by decide +kernel, mIn_wsX90, Or.inl q389⟩ ?_
  refine mA ⟨by decide +kernel, rfl, by decide +kernel⟩ ?_
  refine mA ⟨by decide +kernel, rfl, rfl⟩ ?_
  refine mA ⟨by decide +kernel, rfl, by decide +kernel⟩ ?_
  refine mA ⟨by decide +kernel, rfl, rfl, ⟨TX9, 25, rfl⟩, q390, cV89⟩ ?_
  refine mA ⟨by decide +kernel, rfl⟩ ?_
  refine mA ⟨by decide +kernel, rfl, rfl⟩ ?_
  refine mA ⟨by decide +kernel, rfl, rfl⟩ ?_
  refine mA ⟨by decide +kernel, rfl, by decide +kernel⟩ ?_
  refine mA ⟨by decide +kernel, rfl, by decide +kernel⟩ ?_
  refine mA ⟨by decide +kernel, rfl, rfl⟩ ?_
  refine mA ⟨by decide +kernel, rfl, by decide +kernel⟩ ?_
  refine mA ⟨by decide +kernel, rfl, by decide +kernel⟩ ?_
  refine mA ⟨by decide +kernel, rfl, rfl⟩ ?_
  refine mA ⟨by decide +kernel, rfl, by decide +kernel⟩ ?_
  refine mA ⟨by decide +kernel, rfl, by decide +kernel⟩ ?_
  refine mA ⟨by decide +kernel, rfl, rfl⟩ ?_
  refine mA ⟨by decide +kernel, rfl, by decide +kernel⟩ ?_
  refine mA ⟨by decide +kernel, rfl, by decide +kernel⟩ ?_
  refine mA ⟨by decide +kernel, rfl, rfl⟩ ?_
  refine mA ⟨by decide +kernel, rfl, by decide +kernel⟩ ?_
  refine mA ⟨by decide +kernel, rfl, by decide +kernel⟩ ?_
  refine mA ⟨by decide +kernel, rfl, rfl⟩ ?_
  refine mA ⟨by decide +kernel, rfl, by decide +kernel⟩ ?_
  refine mA ⟨by decide +kernel, rfl, rfl, ⟨TX9, 25, rfl⟩, q390, cV89⟩ ?_
  refine mA ⟨by decide +kernel, rfl⟩ ?_
  refine mA ⟨by decide +kernel, rfl, rfl⟩ ?_
  refine mA ⟨by decide +kernel, rfl, rfl⟩ ?_
  refine mA ⟨by decide +kernel, rfl, rfl, ⟨TX9, 25, rfl⟩, q427, cV105⟩ ?_
  refine mA ⟨by decide +kernel, rfl, by decide +kernel⟩ ?_
  refine mA ⟨by decide +kernel, rfl, rfl⟩ ?_
  refine mA ⟨by decide +kernel, rfl, rfl⟩ ?_
  refine mA ⟨by decide +kernel, rfl, rfl⟩ ?_
  refine mA ⟨by decide +kernel, rfl, by decide +kernel⟩ ?_
  refine mA ⟨by decide +kernel, rfl, rfl⟩ ?_
  refine mA ⟨by decide +kernel, rfl, rfl⟩ ?_
  refine mA ⟨by decide +kernel, rfl, RX9, TX9, 25, rfl, by decide +kernel, mIn_wsX90, Or.inl q375⟩ ?_
  refine mA ⟨by decide +kernel, rfl, rfl⟩ ?_
  refine mA ⟨by decide +kernel, rfl, rfl, ⟨TX9, 25, rfl⟩, q431, cV107⟩ ?_
  refine mA ⟨by decide +kernel, rfl, rfl, by decide +kernel⟩ ?_
  refine mA ⟨by decide +kernel, rfl, by decide +kernel⟩ ?_
  refine mA ⟨by decide +kernel, rfl, rfl⟩ ?_
  refine mA ⟨by decide +kernel, rfl, rfl⟩ ?_
  refine mA ⟨by decide +kernel, rfl, RX9, TX9, 25, rfl, by decide +kernel, mIn_wsX90, Or.inl q375⟩ ?_
  refine mA ⟨by decide +kernel, rfl, rfl⟩ ?_
  refine mA ⟨by decide +kernel, rfl, rfl⟩ ?_
  refine mA ⟨by decide +kernel, rfl, rfl⟩ ?_
  refine mA ⟨by decide +kernel, rfl, rfl, ⟨TX9, 25, rfl⟩, q435, cV108⟩ ?_
  refine mA ⟨by decide +kernel, rfl, rfl⟩ ?_
  exact trivial
set_option maxRecDepth 100000 in
set_option maxHeartbeats 4000000 in
theorem okX9_put : mAllOk (mMt0 110) tbX9_put := by
  rw [mtX9_put]
  unfold tbX9_put
  refine mA ⟨by decide +kernel, rfl, rfl⟩ ?_
  refine mA ⟨by decide +kernel, rfl, by decide +kernel⟩ ?_
  refine mA ⟨by decide +kernel, rfl⟩ ?_
  refine mA ⟨by decide +kernel, rfl, rfl⟩ ?_
  refine mA ⟨by decide +kernel, rfl, rfl⟩ ?_
  refine mA ⟨by decide +kernel, rfl, by decide +kernel⟩ ?_
  refine mA ⟨by decide +kernel, rfl, rfl⟩ ?_
  refine mA ⟨by decide +kernel, rfl, RX9, TX9, 25, rfl, by decide +kernel, mIn_wsX90, Or.inl q439⟩ ?_
  refine mA ⟨by decide +kernel, rfl, by decide +kernel⟩ ?_
  refine mA ⟨by decide +kernel, rfl, rfl⟩ ?_
  refine mA ⟨by decide +kernel, rfl, RX9, TX9, 25, rfl, by decide +kernel, mIn_wsX90, Or.inl q440⟩ ?_
  refine mA ⟨by decide +kernel, rfl, by decide +kernel⟩ ?_
  refine mA ⟨by decide +kernel, rfl⟩ ?_
  refine mA ⟨by decide +kernel, rfl, rfl⟩ ?_
  refine mA ⟨by decide +kernel, rfl, rfl⟩ ?_
  refine mA ⟨by decide +kernel, rfl, RX9, TX9, 25, rfl, by decide +kernel, mIn_wsX90, Or.inl q440⟩ ?_
  refine mA ⟨by decide +kernel, rfl, by decide +kernel⟩ ?_
  refine mA ⟨by decide +kernel, rfl⟩ ?_
  refine mA ⟨by decide +kernel, rfl, by decide +kernel⟩ ?_
  refine mA ⟨by decide +kernel, rfl, rfl⟩ ?_
  refine mA ⟨by decide +kernel, rfl, RX9, TX9, 25, rfl, by decide +kernel, mIn_wsX90, Or.inl q379⟩ ?_
  refine mA ⟨by decide +kernel, rfl, rfl⟩ ?_
  refine mA ⟨by decide +kernel, rfl, by decide +kernel⟩ ?_
  refine mA ⟨by decide +kernel, rfl⟩ ?_
  refine mA ⟨by decide +kernel, rfl, rfl⟩ ?_
  refine mA ⟨by decide +kernel, rfl, RX9, TX9, 25, rfl, by decide +kernel, mIn_wsX90, Or.inl q379⟩ ?_
  refine mA ⟨by decide +kernel, rfl, rfl⟩ ?_
  refine mA ⟨by decide +kernel, rfl, rfl⟩ ?_
  refine mA ⟨by decide +kernel, rfl, RX9, TX9, 25, rfl, by decide +kernel, mIn_wsX90, Or.inl q379⟩ ?_
  refine mA ⟨by decide +kernel, rfl, rfl⟩ ?_
  refine mA ⟨by decide +kernel, rfl⟩ ?_
  refine mA ⟨by decide +kernel, rfl, rfl⟩ ?_
  refine mA ⟨by decide +kernel, rfl, rfl⟩ ?_
  refine mA ⟨by decide +kernel, rfl⟩ ?_
  refine mA ⟨by decide +kernel, rfl, by decide +kernel⟩ ?_
  refine mA ⟨by decide +kernel, rfl⟩ ?_
  refine mA ⟨by decide +kernel, rfl⟩ ?_
  refine mA ⟨by decide +kernel, rfl, by decide +kernel⟩ ?_
  refine mA ⟨by decide +kernel, rfl, rfl⟩ ?_
  refine mA ⟨by decide +kernel, rfl, RX9, TX9, 25, rfl, by decide +kernel, mIn_wsX90, Or.inl q440⟩ ?_
  refine mA ⟨by decide +kernel, rfl, by decide +kernel⟩ ?_
  refine mA ⟨by decide +kernel, rfl⟩ ?_
  refine mA ⟨by decide +kernel, rfl⟩ ?_
  refine mA ⟨by decide +kernel, rfl⟩ ?_
  refine mA ⟨by decide +kernel, rfl⟩ ?_
  refine mA ⟨by decide +kernel, rfl⟩ ?_
  refine mA ⟨by decide +kernel, rfl⟩ ?_
  refine mA ⟨by decide +kernel, rfl, rfl⟩ ?_
  refine mA ⟨by decide +kernel, rfl⟩ ?_
  refine mA ⟨by decide +kernel, rfl, RX9, TX9, 25, rfl, by decide +kernel, mIn_wsX90, Or.inl q440⟩ ?_
  refine mA ⟨by decide +kernel, rfl, by decide +kernel⟩ ?_
  refine mA ⟨by decide +kernel, rfl⟩ ?_
  refine mA ⟨by decide +kernel, rfl, RX9, TX9, 25, rfl, by decide +kernel, mIn_wsX90, Or.inl q440, rfl, Or.inl rfl⟩ ?_
  refine mA ⟨by decide +kernel, rfl, rfl, by decide +kernel⟩ ?_
  refine mA ⟨by decide +kernel, rfl, by decide +kernel⟩ ?_
  refine mA ⟨by decide +kernel, rfl, rfl⟩ ?_
  exact trivial
set_option maxRecDepth 100000 in
set_option maxHeartbeats 4000000 in
theorem okX9_ahead : mAllOk (mMt0 111) tbX9_ahead := by
  rw [mtX9_ahead]
  unfold tbX9_ahead
  refine mA ⟨by decide +kernel, rfl, by decide +kernel⟩ ?_
  refine mA ⟨by decide +kernel, rfl, rfl⟩ ?_
  refine mA ⟨by decide +kernel, rfl, rfl⟩ ?_
  refine mA ⟨by decide +kernel, rfl, by decide +kernel⟩ ?_
  refine mA ⟨by decide +kernel, rfl, by decide +kernel⟩ ?_
  refine mA ⟨by decide +kernel, rfl, rfl⟩ ?_
  refine mA ⟨by decide +kernel, rfl, by decide +kernel⟩ ?_
  refine mA ⟨by decide +kernel, rfl, rfl⟩ ?_
  refine mA ⟨by decide +kernel, rfl⟩ ?_
  refine mA ⟨by decide +kernel, rfl⟩ ?_
  refine mA ⟨by decide +kernel, rfl, by decide +kernel⟩ ?_
  refine mA ⟨by decide +kernel, rfl⟩ ?_
  refine mA ⟨by decide +kernel, rfl, by decide +kernel⟩ ?_
  refine mA ⟨by decide +kernel, rfl⟩ ?_
  refine mA ⟨by decide +kernel, rfl, by decide +kernel⟩ ?_
  refine mA ⟨by decide +kernel, rfl, rfl, by decide +kernel⟩ ?_
  refine mA ⟨by decide +kernel, rfl, by decide +kernel⟩ ?_
  refine mA ⟨by decide +kernel, rfl, rfl⟩ ?_
  refine mA ⟨by decide +kernel, rfl, rfl⟩ ?_
  exact trivial
set_option maxRecDepth 100000 in
set_option maxHeartbeats 4000000 in
theorem okX9_behind : mAllOk (mMt0 112) tbX9_behind := by
  rw [mtX9_behind]
  unfold tbX9_behind
  refine mA ⟨by decide +kernel, rfl, by decide +kernel⟩ ?_
  refine mA ⟨by decide +kernel, rfl, rfl⟩ ?_
  refine mA ⟨by decide +kernel, rfl, rfl⟩ ?_
  refine mA ⟨by decide +kernel, rfl, by decide +kernel⟩ ?_
  refine mA ⟨by decide +kernel, rfl, by decide +kernel⟩ ?_
  refine mA ⟨by decide +kernel, rfl, rfl⟩ ?_
  refine mA ⟨by decide +kernel, rfl, rfl⟩ ?_
  refine mA ⟨by decide +kernel, rfl⟩ ?_
  refine mA ⟨by decide +kernel, rfl, by decide +kernel⟩ ?_
  refine mA ⟨by decide +kernel, rfl⟩ ?_
  refine mA ⟨by decide +kernel, rfl, by decide +kernel⟩ ?_
  refine mA ⟨by decide +kernel, rfl⟩ ?_
  refine mA ⟨by decide +kernel, rfl, by decide +kernel⟩ ?_
  refine mA ⟨by decide +kernel, rfl, rfl, by decide +kernel⟩ ?_
  refine mA ⟨by decide +kernel, rfl, by decide +kernel⟩ ?_
  refine mA ⟨by decide +kernel, rfl, rfl⟩ ?_
  refine mA ⟨by decide +kernel, rfl, rfl⟩ ?_
  exact trivial
set_option maxRecDepth 100000 in
set_option maxHeartbeats 4000000 in
theorem okX9_restOf : mAllOk (mMt0 113) tbX9_restOf := by
  rw [mtX9_restOf]
  unfold tbX9_restOf
  refine mA ⟨by decide +kernel, rfl, rfl⟩ ?_
  refine mA ⟨by decide +kernel, rfl, by decide +kernel⟩ ?_
  refine mA ⟨by decide +kernel, rfl, by decide +kernel⟩ ?_
  refine mA ⟨by decide +kernel, rfl, rfl⟩ ?_
  refine mA ⟨by decide +kernel, rfl, RX9, TX9, 25, rfl, by decide +kernel, mIn_wsX90, Or.inl q382⟩ ?_
  refine mA ⟨by decide +kernel, rfl, rfl⟩ ?_
  refine mA ⟨by decide +kernel, rfl⟩ ?_
  refine mA ⟨by decide +kernel, rfl, rfl⟩ ?_
  refine mA ⟨by decide +kernel, rfl, rfl⟩ ?_
  refine mA ⟨by decide +kernel, rfl, by decide +kernel⟩ ?_
  refine mA ⟨by decide +kernel, rfl, by decide +kernel⟩ ?_
  refine mA ⟨by decide +kernel, rfl, rfl⟩ ?_
  refine mA ⟨by decide +kernel, rfl, RX9, TX9, 25, rfl, by decide +kernel, mIn_wsX90, Or.inl q383⟩ ?_
  refine mA ⟨by decide +kernel, rfl, rfl⟩ ?_
  refine mA ⟨by decide +kernel, rfl⟩ ?_
  refine mA ⟨by decide +kernel, rfl, rfl⟩ ?_
  refine mA ⟨by decide +kernel, rfl, rfl⟩ ?_
  refine mA ⟨by decide +kernel, rfl, RX9, TX9, 25, rfl, by decide +kernel, mIn_wsX90, Or.inl q375⟩ ?_
  refine mA ⟨by decide +kernel, rfl, rfl⟩ ?_
  refine mA ⟨by decide +kernel, rfl⟩ ?_
  refine mA ⟨by decide +kernel, rfl, rfl⟩ ?_
  refine mA ⟨by decide +kernel, rfl, rfl⟩ ?_
  refine mA ⟨by decide +kernel, rfl, RX9, TX9, 25, rfl, by decide +kernel, mIn_wsX90, Or.inl q375⟩ ?_
  refine mA ⟨by decide +kernel, rfl, rfl⟩ ?_
  refine mA ⟨by decide +kernel, rfl, rfl⟩ ?_
  refine mA ⟨by decide +kernel, rfl, rfl⟩ ?_
  refine mA ⟨by decide +kernel, rfl, rfl, ⟨TX9, 25, rfl⟩, q435, cV108⟩ ?_
  refine mA ⟨by decide +kernel, rfl⟩ ?_
  refine mA ⟨by decide +kernel, rfl, rfl⟩ ?_
  exact trivial
set_option maxRecDepth 100000 in
set_option maxHeartbeats 4000000 in
theorem okX9_rests : mAllOk (mMt0 114) tbX9_rests := by
  rw [mtX9_rests]
  unfold tbX9_rests
  refine mA ⟨by decide +kernel, rfl, by decide +kernel⟩ ?_
  refine mA ⟨by decide +kernel, rfl, rfl⟩ ?_
  refine mA ⟨by decide +kernel, rfl, rfl⟩ ?_
  refine mA ⟨by decide +kernel, rfl, rfl⟩ ?_
  refine mA ⟨by decide +kernel, rfl⟩ ?_
  refine mA ⟨by decide +kernel, rfl, by decide +kernel⟩ ?_
  refine mA ⟨by decide +kernel, rfl, rfl, ⟨TX9, 25, rfl⟩, q441, cV110⟩ ?_
  refine mA ⟨by decide +kernel, rfl, rfl⟩ ?_
  refine mA ⟨by decide +kernel, rfl, by decide +kernel⟩ ?_
  refine mA ⟨by decide +kernel, rfl, by decide +kernel⟩ ?_
  refine mA ⟨by decide +kernel, rfl, rfl⟩ ?_
  refine mA ⟨by decide +kernel, rfl, by decide +kernel⟩ ?_
  refine mA ⟨by decide +kernel, rfl⟩ ?_
  refine mA ⟨by decide +kernel, rfl, rfl⟩ ?_
  refine mA ⟨by decide +kernel, rfl, rfl⟩ ?_
  refine mA ⟨by decide +kernel, rfl, rfl⟩ ?_
  refine mA ⟨by decide +kernel, rfl, by decide +kernel⟩ ?_
  refine mA ⟨by decide +kernel, rfl⟩ ?_
  refine mA ⟨by decide +kernel, rfl⟩ ?_
  refine mA ⟨by decide +kernel, rfl, by decide +kernel⟩ ?_
  refine mA ⟨by decide +kernel, rfl, rfl, ⟨TX9, 25, rfl⟩, q441, cV110⟩ ?_
  refine mA ⟨by decide +kernel, rfl, by decide +kernel⟩ ?_
  refine mA ⟨by decide +kernel, rfl, rfl⟩ ?_
  refine mA ⟨by decide +kernel, rfl, by decide +kernel⟩ ?_
  refine mA ⟨by decide +kernel, rfl, rfl⟩ ?_
  refine mA ⟨by decide +kernel, rfl, rfl⟩ ?_
  refine mA ⟨by decide +kernel, rfl, rfl⟩ ?_
  refine mA ⟨by decide +kernel, rfl, rfl⟩ ?_
  refine mA ⟨by decide +kernel, rfl, rfl⟩ ?_
  refine mA ⟨by decide +kernel, rfl, by decide +kernel⟩ ?_
  refine mA ⟨by decide +kernel, rfl, rfl⟩ ?_
  refine mA ⟨by decide +kernel, rfl, rfl⟩ ?_
  refine mA ⟨by decide +kernel, rfl, rfl⟩ ?_
  refine mA ⟨by decide +kernel, rfl, rfl⟩ ?_
  refine mA ⟨by decide +kernel, rfl, rfl, ⟨TX9, 25, rfl⟩, q445, cV113⟩ ?_
  refine mA ⟨by decide +kernel, rfl, rfl⟩ ?_
  refine mA ⟨by decide +kernel, rfl, rfl⟩ ?_
  refine mA ⟨by decide +kernel, rfl, by decide +kernel⟩ ?_
  refine mA ⟨by decide +kernel, rfl⟩ ?_
  refine mA ⟨by decide +kernel, rfl, by decide +kernel⟩ ?_
  refine mA ⟨by decide +kernel, rfl, rfl⟩ ?_
  refine mA ⟨by decide +kernel, rfl, by decide +kernel⟩ ?_
  refine mA ⟨by decide +kernel, rfl, by decide +kernel⟩ ?_
  refine mA ⟨by decide +kernel, rfl, rfl, ⟨TX9, 25, rfl⟩, q441, cV110⟩ ?_
  refine mA ⟨by decide +kernel, rfl, rfl⟩ ?_
  refine mA ⟨by decide +kernel, rfl, by decide +kernel⟩ ?_
  refine mA ⟨by decide +kernel, rfl⟩ ?_
  refine mA ⟨by decide +kernel, rfl, rfl⟩ ?_
  refine mA ⟨by decide +kernel, rfl, by decide +kernel⟩ ?_
  refine mA ⟨by decide +kernel, rfl, rfl⟩ ?_
  refine mA ⟨by decide +kernel, rfl, by decide +kernel⟩ ?_
  refine mA ⟨by decide +kernel, rfl, by decide +kernel⟩ ?_
  refine mA ⟨by decide +kernel, rfl, rfl, ⟨TX9, 25, rfl⟩, q441, cV110⟩ ?_
  refine mA ⟨by decide +kernel, rfl, rfl⟩ ?_
  refine mA ⟨by decide +kernel, rfl, by decide +kernel⟩ ?_
  refine mA ⟨by decide +kernel, rfl⟩ ?_
  refine mA ⟨by decide +kernel, rfl, rfl⟩ ?_
  refine mA ⟨by decide +kernel, rfl, rfl⟩ ?_
  refine mA ⟨by decide +kernel, rfl, q449, cS111⟩ ?_
  refine mA ⟨by decide +kernel, rfl, rfl⟩ ?_
  refine mA ⟨by decide +kernel, rfl, rfl⟩ ?_
  refine mA ⟨by decide +kernel, rfl, q452, cS112⟩ ?_
  refine mA ⟨by decide +kernel, rfl, rfl⟩ ?_
  refine mA ⟨by decide +kernel, rfl, by decide +kernel⟩ ?_
  refine mA ⟨by decide +kernel, rfl, rfl⟩ ?_
  refine mA ⟨by decide +kernel, rfl⟩ ?_
  refine mA ⟨by decide +kernel, rfl, rfl⟩ ?_
  refine mA ⟨by decide +kernel, rfl⟩ ?_
  refine mA ⟨by decide +kernel, rfl, rfl⟩ ?_
  refine mA ⟨by decide +kernel, rfl, rfl⟩ ?_
  refine mA ⟨by decide +kernel, rfl, by decide +kernel⟩ ?_
  refine mA ⟨by decide +kernel, rfl, rfl⟩ ?_
  refine mA ⟨by decide +kernel, rfl, rfl⟩ ?_
  refine mA ⟨by decide +kernel, rfl, by decide +kernel⟩ ?_
  refine mA ⟨by decide +kernel, rfl, rfl⟩ ?_
  refine mA ⟨by decide +kernel, rfl, by decide +kernel⟩ ?_
  refine mA ⟨by decide +kernel, rfl, rfl⟩ ?_
  refine mA ⟨by decide +kernel, rfl⟩ ?_
  refine mA ⟨by decide +kernel, rfl, rfl⟩ ?_
  refine mA ⟨by decide +kernel, rfl⟩ ?_
  refine mA ⟨by decide +kernel, rfl, by decide +kernel⟩ ?_
  refine mA ⟨by decide +kernel, rfl, by decide +kernel⟩ ?_
  refine mA ⟨by decide +kernel, rfl, by decide +kernel⟩ ?_
  refine mA ⟨by decide +kernel, rfl, by decide +kernel⟩ ?_
  refine mA ⟨by decide +kernel, rfl, rfl⟩ ?_
  refine mA ⟨by decide +kernel, rfl, rfl⟩ ?_
  refine mA ⟨by decide +kernel, rfl, by decide +kernel⟩ ?_
  refine mA ⟨by decide +kernel, rfl, rfl⟩ ?_
  refine mA ⟨by decide +kernel, rfl, by decide +kernel⟩ ?_
  refine mA ⟨by decide +kernel, rfl⟩ ?_
  refine mA ⟨by decide +kernel, rfl, by decide +kernel⟩ ?_
  refine mA ⟨by decide +kernel, rfl, rfl⟩ ?_
  refine mA ⟨by decide +kernel, rfl⟩ ?_
  refine mA ⟨by decide +kernel, rfl, by decide +kernel⟩ ?_
  refine mA ⟨by decide +kernel, rfl, rfl⟩ ?_
  refine mA ⟨by decide +kernel, rfl, by decide +kernel⟩ ?_
  refine mA ⟨by decide +kernel, rfl, by decide +kernel⟩ ?_
  refine mA ⟨by decide +kernel, rfl, rfl, ⟨TX9, 25, rfl⟩, q441, cV110⟩ ?_
  refine mA ⟨by decide +kernel, rfl, rfl⟩ ?_
  refine mA ⟨by decide +kernel, rfl, rfl⟩ ?_
  refine mA ⟨by decide +kernel, rfl, by decide +kernel⟩ ?_
  refine mA ⟨by decide +kernel, rfl, rfl⟩ ?_
  refine mA ⟨by decide +kernel, rfl⟩ ?_
  refine mA ⟨by decide +kernel, rfl, rfl⟩ ?_
  refine mA ⟨by decide +kernel, rfl⟩ ?_
  refine mA ⟨by decide +kernel, rfl⟩ ?_
  refine mA ⟨by decide +kernel, rfl, rfl⟩ ?_
  refine mA ⟨by decide +kernel, rfl, rfl, ⟨TX9, 25, rfl⟩, q441, cV110⟩ ?_
  refine mA ⟨by decide +kernel, rfl, rfl⟩ ?_
  refine mA ⟨by decide +kernel, rfl, by decide +kernel⟩ ?_
  refine mA ⟨by decide +kernel, rfl⟩ ?_
  refine mA ⟨by decide +kernel, rfl, rfl⟩ ?_
  refine mA ⟨by decide +kernel, rfl⟩ ?_
  refine mA ⟨by decide +kernel, rfl, rfl⟩ ?_
  refine mA ⟨by decide +kernel, rfl, by decide +kernel⟩ ?_
  refine mA ⟨by decide +kernel, rfl, rfl⟩ ?_
  refine mA ⟨by decide +kernel, rfl, by decide +kernel⟩ ?_
  refine mA ⟨by decide +kernel, rfl, by decide +kernel⟩ ?_
  refine mA ⟨by decide +kernel, rfl, rfl, ⟨TX9, 25, rfl⟩, q441, cV110⟩ ?_
  refine mA ⟨by decide +kernel, rfl, rfl⟩ ?_
  refine mA ⟨by decide +kernel, rfl, rfl⟩ ?_
  refine mA ⟨by decide +kernel, rfl⟩ ?_
  refine mA ⟨by decide +kernel, rfl, by decide +kernel⟩ ?_
  refine mA ⟨by decide +kernel, rfl, rfl, ⟨TX9, 25, rfl⟩, q441, cV110⟩ ?_
  refine mA ⟨by decide +kernel, rfl, rfl⟩ ?_
  refine mA ⟨by decide +kernel, rfl, rfl⟩ ?_
  refine mA ⟨by decide +kernel, rfl, by decide +kernel⟩ ?_
  refine mA ⟨by decide +kernel, rfl⟩ ?_
  refine mA ⟨by decide +kernel, rfl⟩ ?_
  refine mA ⟨by decide +kernel, rfl, by decide +kernel⟩ ?_
  refine mA ⟨by decide +kernel, rfl, rfl, ⟨TX9, 25, rfl⟩, q441, cV110⟩ ?_
  refine mA ⟨by decide +kernel, rfl, rfl⟩ ?_
  refine mA ⟨by decide +kernel, rfl, rfl⟩ ?_
  refine mA ⟨by decide +kernel, rfl, rfl⟩ ?_
  refine mA ⟨by decide +kernel, rfl⟩ ?_
  refine mA ⟨by decide +kernel, rfl, rfl⟩ ?_
  refine mA ⟨by decide +kernel, rfl, rfl, ⟨TX9, 25, rfl⟩, q441, cV110⟩ ?_
  refine mA ⟨by decide +kernel, rfl, rfl⟩ ?_
  refine mA ⟨by decide +kernel, rfl, by decide +kernel⟩ ?_
  refine mA ⟨by decide +kernel, rfl⟩ ?_
  refine mA ⟨by decide +kernel, rfl, rfl⟩ ?_
  refine mA ⟨by decide +kernel, rfl⟩ ?_
  refine mA ⟨by decide +kernel, rfl, rfl⟩ ?_
  refine mA ⟨by decide +kernel, rfl, rfl⟩ ?_
  refine mA ⟨by decide +kernel, rfl, rfl⟩ ?_
  refine mA ⟨by decide +kernel, rfl, rfl⟩ ?_
  refine mA ⟨by decide +kernel, rfl, rfl⟩ ?_
  refine mA ⟨by decide +kernel, rfl, rfl, by decide +kernel⟩ ?_
  refine mA ⟨by decide +kernel, rfl, by decide +kernel⟩ ?_
  refine mA ⟨by decide +kernel, rfl, rfl⟩ ?_
  refine mA ⟨by decide +kernel, rfl, rfl⟩ ?_
  exact trivial
set_option maxRecDepth 100000 in
set_option maxHeartbeats 4000000 in
theorem okX9_bestStride : mAllOk (mMt0 115) tbX9_bestStride := by
  rw [mtX9_bestStride]
  unfold tbX9_bestStride
  refine mA ⟨by decide +kernel, rfl, by decide +kernel⟩ ?_
  refine mA ⟨by decide +kernel, rfl, rfl⟩ ?_
  refine mA ⟨by decide +kernel, rfl, rfl⟩ ?_
  refine mA ⟨by decide +kernel, rfl, rfl⟩ ?_
  refine mA ⟨by decide +kernel, rfl, rfl⟩ ?_
  refine mA ⟨by decide +kernel, rfl, by decide +kernel⟩ ?_
  refine mA ⟨by decide +kernel, rfl, by decide +kernel⟩ ?_
  refine mA ⟨by decide +kernel, rfl, rfl, ⟨TX9, 25, rfl⟩, q455, cV114⟩ ?_
  refine mA ⟨by decide +kernel, rfl, rfl⟩ ?_
  refine mA ⟨by decide +kernel, rfl, by decide +kernel⟩ ?_
  refine mA ⟨by decide +kernel, rfl, rfl⟩ ?_
  refine mA ⟨by decide +kernel, rfl, rfl⟩ ?_
  refine mA ⟨by decide +kernel, rfl, by decide +kernel⟩ ?_
  refine mA ⟨by decide +kernel, rfl, by decide +kernel⟩ ?_
  refine mA ⟨by decide +kernel, rfl, rfl⟩ ?_
  refine mA ⟨by decide +kernel, rfl, rfl⟩ ?_
  refine mA ⟨by decide +kernel, rfl, rfl⟩ ?_
  refine mA ⟨by decide +kernel, rfl, by decide +kernel⟩ ?_
  refine mA ⟨by decide +kernel, rfl, rfl⟩ ?_
  refine mA ⟨by decide +kernel, rfl, rfl, ⟨TX9, 25, rfl⟩, q455, cV114⟩ ?_
  refine mA ⟨by decide +kernel, rfl, rfl⟩ ?_
  refine mA ⟨by decide +kernel, rfl, rfl⟩ ?_
  refine mA ⟨by decide +kernel, rfl, rfl⟩ ?_
  refine mA ⟨by decide +kernel, rfl, by decide +kernel⟩ ?_
  refine mA ⟨by decide +kernel, rfl, rfl⟩ ?_
  refine mA ⟨by decide +kernel, rfl, rfl⟩ ?_
  refine mA ⟨by decide +kernel, rfl, rfl⟩ ?_
  refine mA ⟨by decide +kernel, rfl, rfl⟩ ?_
  refine mA ⟨by decide +kernel, rfl, rfl, by decide +kernel⟩ ?_
  refine mA ⟨by decide +kernel, rfl, by decide +kernel⟩ ?_
  refine mA ⟨by decide +kernel, rfl, rfl⟩ ?_
  refine mA ⟨by decide +kernel, rfl, rfl⟩ ?_
  exact trivial
set_option maxRecDepth 100000 in
set_option maxHeartbeats 4000000 in
theorem okX9_code : mAllOk (mMt0 116) tbX9_code := by
  rw [mtX9_code]
  unfold tbX9_code
  refine mA ⟨by decide +kernel, rfl, rfl⟩ ?_
  refine mA ⟨by decide +kernel, rfl, by decide +kernel⟩ ?_
  refine mA ⟨by decide +kernel, rfl⟩ ?_
  refine mA ⟨by decide +kernel, rfl, by decide +kernel⟩ ?_
  refine mA ⟨by decide +kernel, rfl, _, rfl, q459⟩ ?_
  refine mA ⟨by decide +kernel, rfl, rfl⟩ ?_
  refine mA ⟨by decide +kernel, rfl⟩ ?_
  refine mA ⟨by decide +kernel, rfl, by decide +kernel⟩ ?_
  refine mA ⟨by decide +kernel, rfl⟩ ?_
  refine mA ⟨by decide +kernel, rfl, by decide +kernel⟩ ?_
  refine mA ⟨by decide +kernel, rfl, _, rfl, q411⟩ ?_
  refine mA ⟨by decide +kernel, rfl, rfl⟩ ?_
  refine mA ⟨by decide +kernel, rfl⟩ ?_
  refine mA ⟨by decide +kernel, rfl, rfl⟩ ?_
  exact trivial
set_option maxRecDepth 100000 in
set_option maxHeartbeats 4000000 in
theorem okX9_decimals : mAllOk (mMt0 117) tbX9_decimals := by
  rw [mtX9_decimals]
  unfold tbX9_decimals
  refine mA ⟨by decide +kernel, rfl, by decide +kernel⟩ ?_
  refine mA ⟨by decide +kernel, rfl, rfl⟩ ?_
  refine mA ⟨by decide +kernel, rfl, rfl⟩ ?_
  refine mA ⟨by decide +kernel, rfl, by decide +kernel⟩ ?_
  refine mA ⟨by decide +kernel, rfl, by decide +kernel⟩ ?_
  refine mA ⟨by decide +kernel, rfl, by decide +kernel⟩ ?_
  refine mA ⟨by decide +kernel, rfl, rfl⟩ ?_
  refine mA ⟨by decide +kernel, rfl, rfl⟩ ?_
  refine mA ⟨by decide +kernel, rfl, rfl⟩ ?_
  refine mA ⟨by decide +kernel, rfl, rfl⟩ ?_
  refine mA ⟨by decide +kernel, rfl, rfl⟩ ?_
  refine mA ⟨by decide +kernel, rfl, by decide +kernel⟩ ?_
  refine mA ⟨by decide +kernel, rfl, rfl⟩ ?_
  refine mA ⟨by decide +kernel, rfl, by decide +kernel⟩ ?_
  refine mA ⟨by decide +kernel, rfl, rfl⟩ ?_
  refine mA ⟨by decide +kernel, rfl, RX9, TX9, 25, rfl, by decide +kernel, mIn_wsX90, Or.inl q375⟩ ?_
  refine mA ⟨by decide +kernel, rfl, rfl⟩ ?_
  refine mA ⟨by decide +kernel, rfl⟩ ?_
  refine mA ⟨by decide +kernel, rfl, rfl⟩ ?_
  refine mA ⟨by decide +kernel, rfl, q418, cS102⟩ ?_
  refine mA ⟨by decide +kernel, rfl, _, rfl, q417⟩ ?_
  refine mA ⟨by decide +kernel, rfl⟩ ?_
  refine mA ⟨by decide +kernel, rfl, by decide +kernel⟩ ?_
  refine mA ⟨by decide +kernel, rfl, by decide +kernel⟩ ?_
  refine mA ⟨by decide +kernel, rfl, by decide +kernel⟩ ?_
  refine mA ⟨by decide +kernel, rfl, by decide +kernel⟩ ?_
  refine mA ⟨by decide +kernel, rfl, rfl⟩ ?_
  refine mA ⟨by decide +kernel, rfl, rfl, by decide +kernel⟩ ?_
  refine mA ⟨by decide +kernel, rfl, by decide +kernel⟩ ?_
  refine mA ⟨by decide +kernel, rfl, rfl⟩ ?_
  refine mA ⟨by decide +kernel, rfl, by decide +kernel⟩ ?_
  refine mA ⟨by decide +kernel, rfl, rfl⟩ ?_
  refine mA ⟨by decide +kernel, rfl, rfl⟩ ?_
  refine mA ⟨by decide +kernel, rfl, rfl⟩ ?_
  refine mA ⟨by decide +kernel, rfl, rfl⟩ ?_
  refine mA ⟨by decide +kernel, rfl, rfl, ⟨TX9, 25, rfl⟩, q460, cV118⟩ ?_
  refine mA ⟨by decide +kernel, rfl, rfl⟩ ?_
  refine mA ⟨by decide +kernel, rfl, rfl, by decide +kernel⟩ ?_
  refine mA ⟨by decide +kernel, rfl, by decide +kernel⟩ ?_
  refine mA ⟨by decide +kernel, rfl, by decide +kernel⟩ ?_
  refine mA ⟨by decide +kernel, rfl, rfl⟩ ?_
  exact trivial
set_option maxRecDepth 100000 in
set_option maxHeartbeats 4000000 in
theorem okX9_tens : mAllOk (mMt0 118) tbX9_tens := by
  rw [mtX9_tens]
  unfold tbX9_tens
  refine mA ⟨by decide +kernel, rfl, by decide +kernel⟩ ?_
  refine mA ⟨by decide +kernel, rfl, rfl⟩ ?_
  refine mA ⟨by decide +kernel, rfl, by decide +kernel⟩ ?_
  refine mA ⟨by decide +kernel, rfl, rfl⟩ ?_
  refine mA ⟨by decide +kernel, rfl, rfl⟩ ?_
  refine mA ⟨by decide +kernel, rfl, rfl⟩ ?_
  refine mA ⟨by decide +kernel, rfl, rfl⟩ ?_
  refine mA ⟨by decide +kernel, rfl, rfl⟩ ?_
  refine mA ⟨by decide +kernel, rfl, by decide +kernel⟩ ?_
  refine mA ⟨by decide +kernel, rfl, rfl⟩ ?_
  refine mA ⟨by decide +kernel, rfl, RX9, TX9, 25, rfl, by decide +kernel, mIn_wsX90, Or.inl q375⟩ ?_
  refine mA ⟨by decide +kernel, rfl, rfl⟩ ?_
  refine mA ⟨by decide +kernel, rfl⟩ ?_
  refine mA ⟨by decide +kernel, rfl, rfl⟩ ?_
  refine mA ⟨by decide +kernel, rfl, q418, cS102⟩ ?_
  refine mA ⟨by decide +kernel, rfl, rfl⟩ ?_
  refine mA ⟨by decide +kernel, rfl, rfl⟩ ?_
  refine mA ⟨by decide +kernel, rfl, rfl⟩ ?_
  refine mA ⟨by decide +kernel, rfl⟩ ?_
  refine mA ⟨by decide +kernel, rfl, q464, cS116⟩ ?_
  refine mA ⟨by decide +kernel, rfl, rfl⟩ ?_
  refine mA ⟨by decide +kernel, rfl, rfl⟩ ?_
  refine mA ⟨by decide +kernel, rfl, rfl⟩ ?_
  refine mA ⟨by decide +kernel, rfl⟩ ?_
  refine mA ⟨by decide +kernel, rfl, by decide +kernel⟩ ?_
  refine mA ⟨by decide +kernel, rfl⟩ ?_
  refine mA ⟨by decide +kernel, rfl, by decide +kernel⟩ ?_
  refine mA ⟨by decide +kernel, rfl, rfl, by decide +kernel⟩ ?_
  refine mA ⟨by decide +kernel, rfl, by decide +kernel⟩ ?_
  refine mA ⟨by decide +kernel, rfl, rfl⟩ ?_
  refine mA ⟨by decide +kernel, rfl, rfl⟩ ?_
  refine mA ⟨by decide +kernel, rfl, rfl, by decide +kernel⟩ ?_
  refine mA ⟨by decide +kernel, rfl, by decide +kernel⟩ ?_
  refine mA ⟨by decide +kernel, rfl, rfl⟩ ?_
  refine mA ⟨by decide +kernel, rfl, _, rfl, q467⟩ ?_
  refine mA ⟨by decide +kernel, rfl, by decide +kernel⟩ ?_
  refine mA ⟨by decide +kernel, rfl, rfl, ⟨TX9, 25, rfl⟩, q441, cV110⟩ ?_
  refine mA ⟨by decide +kernel, rfl, rfl⟩ ?_
  refine mA ⟨by decide +kernel, rfl, rfl⟩ ?_
  refine mA ⟨by decide +kernel, rfl⟩ ?_
  refine mA ⟨by decide +kernel, rfl, by decide +kernel⟩ ?_
  refine mA ⟨by decide +kernel, rfl, rfl, ⟨TX9, 25, rfl⟩, q441, cV110⟩ ?_
  refine mA ⟨by decide +kernel, rfl, rfl⟩ ?_
  refine mA ⟨by decide +kernel, rfl, rfl⟩ ?_
  refine mA ⟨by decide +kernel, rfl⟩ ?_
  refine mA ⟨by decide +kernel, rfl, by decide +kernel⟩ ?_
  refine mA ⟨by decide +kernel, rfl, rfl, ⟨TX9, 25, rfl⟩, q441, cV110⟩ ?_
  refine mA ⟨by decide +kernel, rfl, by decide +kernel⟩ ?_
  refine mA ⟨by decide +kernel, rfl, rfl⟩ ?_
  refine mA ⟨by decide +kernel, rfl, rfl⟩ ?_
  refine mA ⟨by decide +kernel, rfl, rfl⟩ ?_
  refine mA ⟨by decide +kernel, rfl, rfl⟩ ?_
  refine mA ⟨by decide +kernel, rfl, rfl⟩ ?_
  refine mA ⟨by decide +kernel, rfl, by decide +kernel⟩ ?_
  refine mA ⟨by decide +kernel, rfl, rfl⟩ ?_
  refine mA ⟨by decide +kernel, rfl, RX9, TX9, 25, rfl, by decide +kernel, mIn_wsX90, Or.inl q439⟩ ?_
  refine mA ⟨by decide +kernel, rfl, by decide +kernel⟩ ?_
  refine mA ⟨by decide +kernel, rfl, rfl⟩ ?_
  refine mA ⟨by decide +kernel, rfl, RX9, TX9, 25, rfl, by decide +kernel, mIn_wsX90, Or.inl q375⟩ ?_
  refine mA ⟨by decide +kernel, rfl, rfl⟩ ?_
  refine mA ⟨by decide +kernel, rfl⟩ ?_
  refine mA ⟨by decide +kernel, rfl, rfl⟩ ?_
  refine mA ⟨by decide +kernel, rfl, q418, cS102⟩ ?_
  refine mA ⟨by decide +kernel, rfl, rfl⟩ ?_
  refine mA ⟨by decide +kernel, rfl, rfl⟩ ?_
  refine mA ⟨by decide +kernel, rfl, rfl⟩ ?_
  refine mA ⟨by decide +kernel, rfl, rfl⟩ ?_
  refine mA ⟨by decide +kernel, rfl⟩ ?_
  refine mA ⟨by decide +kernel, rfl, q464, cS116⟩ ?_
  refine mA ⟨by decide +kernel, rfl, rfl⟩ ?_
  refine mA ⟨by decide +kernel, rfl, rfl, ⟨TX9, 25, rfl⟩, q441, cV110⟩ ?_
  refine mA ⟨by decide +kernel, rfl, rfl⟩ ?_
  refine mA ⟨by decide +kernel, rfl, rfl⟩ ?_
  refine mA ⟨by decide +kernel, rfl, rfl, by decide +kernel⟩ ?_
  refine mA ⟨by decide +kernel, rfl, by decide +kernel⟩ ?_
  refine mA ⟨by decide +kernel, rfl, by decide +kernel⟩ ?_
  refine mA ⟨by decide +kernel, rfl, rfl⟩ ?_
  refine mA ⟨by decide +kernel, rfl, rfl⟩ ?_
  refine mA ⟨by decide +kernel, rfl, rfl⟩ ?_
  refine mA ⟨by decide +kernel, rfl⟩ ?_
  refine mA ⟨by decide +kernel, rfl⟩ ?_
  refine mA ⟨by decide +kernel, rfl⟩ ?_
  refine mA ⟨by decide +kernel, rfl, rfl⟩ ?_
  exact trivial
set_option maxRecDepth 100000 in
set_option maxHeartbeats 4000000 in
theorem okX9_parts : mAllOk (mMt0 119) tbX9_parts := by
  rw [mtX9_parts]
  unfold tbX9_parts
  refine mA ⟨by decide +kernel, rfl, by decide +kernel⟩ ?_
  refine mA ⟨by decide +kernel, rfl, rfl⟩ ?_
  refine mA ⟨by decide +kernel, rfl, rfl⟩ ?_
  refine mA ⟨by decide +kernel, rfl, rfl⟩ ?_
  refine mA ⟨by decide +kernel, rfl, rfl⟩ ?_
  refine mA ⟨by decide +kernel, rfl, rfl⟩ ?_
  refine mA ⟨by decide +kernel, rfl, by decide +kernel⟩ ?_
  refine mA ⟨by decide +kernel, rfl, rfl⟩ ?_
  refine mA ⟨by decide +kernel, rfl, RX9, TX9, 25, rfl, by decide +kernel, mIn_wsX90, Or.inl q375⟩ ?_
  refine mA ⟨by decide +kernel, rfl, rfl⟩ ?_
  refine mA ⟨by decide +kernel, rfl⟩ ?_
  refine mA ⟨by decide +kernel, rfl, _, rfl, q413⟩ ?_
  refine mA ⟨by decide +kernel, rfl⟩ ?_
  refine mA ⟨by decide +kernel, rfl, q452, cS112⟩ ?_
  refine mA ⟨by decide +kernel, rfl, rfl⟩ ?_
  refine mA ⟨by decide +kernel, rfl, rfl⟩ ?_
  refine mA ⟨by decide +kernel, rfl, rfl⟩ ?_
  refine mA ⟨by decide +kernel, rfl, by decide +kernel⟩ ?_
  refine mA ⟨by decide +kernel, rfl, rfl⟩ ?_
  refine mA ⟨by decide +kernel, rfl, by decide +kernel⟩ ?_
  refine mA ⟨by decide +kernel, rfl, rfl⟩ ?_
  refine mA ⟨by decide +kernel, rfl, rfl⟩ ?_
  refine mA ⟨by decide +kernel, rfl, rfl, by decide +kernel⟩ ?_
  refine mA ⟨by decide +kernel, rfl, by decide +kernel⟩ ?_
  refine mA ⟨by decide +kernel, rfl, rfl⟩ ?_
  refine mA ⟨by decide +kernel, rfl, _, rfl, q468⟩ ?_
  refine mA ⟨by decide +kernel, rfl, by decide +kernel⟩ ?_
  refine mA ⟨by decide +kernel, rfl, rfl, ⟨TX9, 25, rfl⟩, q441, cV110⟩ ?_
  refine mA ⟨by decide +kernel, rfl, rfl⟩ ?_
  refine mA ⟨by decide +kernel, rfl, rfl⟩ ?_
  refine mA ⟨by decide +kernel, rfl, RX9, TX9, 25, rfl, by decide +kernel, mIn_wsX90, Or.inl q375⟩ ?_
  refine mA ⟨by decide +kernel, rfl, rfl⟩ ?_
  refine mA ⟨by decide +kernel, rfl⟩ ?_
  refine mA ⟨by decide +kernel, rfl, by decide +kernel⟩ ?_
  refine mA ⟨by decide +kernel, rfl⟩ ?_
  refine mA ⟨by decide +kernel, rfl, by decide +kernel⟩ ?_
  refine mA ⟨by decide +kernel, rfl, rfl, ⟨TX9, 25, rfl⟩, q441, cV110⟩ ?_
  refine mA ⟨by decide +kernel, rfl, by decide +kernel⟩ ?_
  refine mA ⟨by decide +kernel, rfl, rfl⟩ ?_
  refine mA ⟨by decide +kernel, rfl, rfl⟩ ?_
  refine mA ⟨by decide +kernel, rfl, by decide +kernel⟩ ?_
  refine mA ⟨by decide +kernel, rfl⟩ ?_
  refine mA ⟨by decide +kernel, rfl, rfl⟩ ?_
  refine mA ⟨by decide +kernel, rfl, rfl⟩ ?_
  refine mA ⟨by decide +kernel, rfl, rfl⟩ ?_
  refine mA ⟨by decide +kernel, rfl, by decide +kernel⟩ ?_
  refine mA ⟨by decide +kernel, rfl, rfl⟩ ?_
  refine mA ⟨by decide +kernel, rfl, RX9, TX9, 25, rfl, by decide +kernel, mIn_wsX90, Or.inl q375⟩ ?_
  refine mA ⟨by decide +kernel, rfl, rfl⟩ ?_
  refine mA ⟨by decide +kernel, rfl⟩ ?_
  refine mA ⟨by decide +kernel, rfl, by decide +kernel⟩ ?_
  refine mA ⟨by decide +kernel, rfl⟩ ?_
  refine mA ⟨by decide +kernel, rfl, rfl⟩ ?_
  refine mA ⟨by decide +kernel, rfl, RX9, TX9, 25, rfl, by decide +kernel, mIn_wsX90, Or.inl q375⟩ ?_
  refine mA ⟨by decide +kernel, rfl, rfl⟩ ?_
  refine mA ⟨by decide +kernel, rfl, by decide +kernel⟩ ?_
  refine mA ⟨by decide +kernel, rfl⟩ ?_
  refine mA ⟨by decide +kernel, rfl⟩ ?_
  refine mA ⟨by decide +kernel, rfl, by decide +kernel⟩ ?_
  refine mA ⟨by decide +kernel, rfl⟩ ?_
  refine mA ⟨by decide +kernel, rfl⟩ ?_
  refine mA ⟨by decide +kernel, rfl, by decide +kernel⟩ ?_
  refine mA ⟨by decide +kernel, rfl, by decide +kernel⟩ ?_
  refine mA ⟨by decide +kernel, rfl, by decide +kernel⟩ ?_
  refine mA ⟨by decide +kernel, rfl, by decide +kernel⟩ ?_
  refine mA ⟨by decide +kernel, rfl, rfl⟩ ?_
  refine mA ⟨by decide +kernel, rfl, rfl⟩ ?_
  refine mA ⟨by decide +kernel, rfl, rfl⟩ ?_
  refine mA ⟨by decide +kernel, rfl, by decide +kernel⟩ ?_
  refine mA ⟨by decide +kernel, rfl, by decide +kernel⟩ ?_
  refine mA ⟨by decide +kernel, rfl, by decide +kernel⟩ ?_
  refine mA ⟨by decide +kernel, rfl, by decide +kernel⟩ ?_
  refine mA ⟨by decide +kernel, rfl, by decide +kernel⟩ ?_
  refine mA ⟨by decide +kernel, rfl, rfl, ⟨TX9, 25, rfl⟩, q441, cV110⟩ ?_
  refine mA ⟨by decide +kernel, rfl, rfl⟩ ?_
  refine mA ⟨by decide +kernel, rfl, by decide +kernel⟩ ?_
  refine mA ⟨by decide +kernel, rfl⟩ ?_
  refine mA ⟨by decide +kernel, rfl, rfl⟩ ?_
  refine mA ⟨by decide +kernel, rfl, rfl⟩ ?_
  refine mA ⟨by decide +kernel, rfl, by decide +kernel⟩ ?_
  refine mA ⟨by decide +kernel, rfl, rfl⟩ ?_
  refine mA ⟨by decide +kernel, rfl, rfl⟩ ?_
  refine mA ⟨by decide +kernel, rfl, RX9, TX9, 25, rfl, by decide +kernel, mIn_wsX90, Or.inl q375⟩ ?_
  refine mA ⟨by decide +kernel, rfl, rfl⟩ ?_
  refine mA ⟨by decide +kernel, rfl⟩ ?_
  refine mA ⟨by decide +kernel, rfl, by decide +kernel⟩ ?_
  refine mA ⟨by decide +kernel, rfl⟩ ?_
  refine mA ⟨by decide +kernel, rfl, by decide +kernel⟩ ?_
  refine mA ⟨by decide +kernel, rfl, rfl, ⟨TX9, 25, rfl⟩, q441, cV110⟩ ?_
  refine mA ⟨by decide +kernel, rfl, rfl⟩ ?_
  refine mA ⟨by decide +kernel, rfl, by decide +kernel⟩ ?_
  refine mA ⟨by decide +kernel, rfl⟩ ?_
  refine mA ⟨by decide +kernel, rfl, rfl⟩ ?_
  refine mA ⟨by decide +kernel, rfl, rfl, by decide +kernel⟩ ?_
  refine mA ⟨by decide +kernel, rfl, by decide +kernel⟩ ?_
  refine mA ⟨by decide +kernel, rfl, rfl⟩ ?_
  refine mA ⟨by decide +kernel, rfl, rfl⟩ ?_
  refine mA ⟨by decide +kernel, rfl⟩ ?_
  refine mA ⟨by decide +kernel, rfl, by decide +kernel⟩ ?_
  refine mA ⟨by decide +kernel, rfl, rfl, ⟨TX9, 25, rfl⟩, q441, cV110⟩ ?_
  refine mA ⟨by decide +kernel, rfl, rfl⟩ ?_
  refine mA ⟨by decide +kernel, rfl, rfl⟩ ?_
  refine mA ⟨by decide +kernel, rfl, rfl⟩ ?_
  refine mA ⟨by decide +kernel, rfl, rfl⟩ ?_
  refine mA ⟨by decide +kernel, rfl, by decide +kernel⟩ ?_
  refine mA ⟨by decide +kernel, rfl, rfl⟩ ?_
  refine mA ⟨by decide +kernel, rfl, rfl⟩ ?_
  refine mA ⟨by decide +kernel, rfl, RX9, TX9, 25, rfl, by decide +kernel, mIn_wsX90, Or.inl q375⟩ ?_
  refine mA ⟨by decide +kernel, rfl, rfl⟩ ?_
  refine mA ⟨by decide +kernel, rfl⟩ ?_
  refine mA ⟨by decide +kernel, rfl, _, rfl, q413⟩ ?_
  refine mA ⟨by decide +kernel, rfl⟩ ?_
  refine mA ⟨by decide +kernel, rfl, rfl⟩ ?_
  refine mA ⟨by decide +kernel, rfl⟩ ?_
  refine mA ⟨by decide +kernel, rfl, by decide +kernel⟩ ?_
  refine mA ⟨by decide +kernel, rfl, rfl⟩ ?_
  refine mA ⟨by decide +kernel, rfl⟩ ?_
  refine mA ⟨by decide +kernel, rfl, rfl, ⟨TX9, 25, rfl⟩, q441, cV110⟩ ?_
  refine mA ⟨by decide +kernel, rfl, rfl, by decide +kernel⟩ ?_
  refine mA ⟨by decide +kernel, rfl, by decide +kernel⟩ ?_
  refine mA ⟨by decide +kernel, rfl, rfl⟩ ?_
  refine mA ⟨by decide +kernel, rfl, by decide +kernel⟩ ?_
  refine mA ⟨by decide +kernel, rfl⟩ ?_
  refine mA ⟨by decide +kernel, rfl, by decide +kernel⟩ ?_
  refine mA ⟨by decide +kernel, rfl, rfl⟩ ?_
  refine mA ⟨by decide +kernel, rfl⟩ ?_
  refine mA ⟨by decide +kernel, rfl, rfl⟩ ?_
  refine mA ⟨by decide +kernel, rfl, rfl⟩ ?_
  refine mA ⟨by decide +kernel, rfl⟩ ?_
  refine mA ⟨by decide +kernel, rfl⟩ ?_
  refine mA ⟨by decide +kernel, rfl⟩ ?_
  refine mA ⟨by decide +kernel, rfl, rfl⟩ ?_
  exact trivial
set_option maxRecDepth 100000 in
set_option maxHeartbeats 4000000 in
theorem okX9_plain : mAllOk (mMt0 120) tbX9_plain := by
  rw [mtX9_plain]
  unfold tbX9_plain
  refine mA ⟨by decide +kernel, rfl, rfl⟩ ?_
  refine mA ⟨by decide +kernel, rfl, by decide +kernel⟩ ?_
  refine mA ⟨by decide +kernel, rfl, by decide +kernel⟩ ?_
  refine mA ⟨by decide +kernel, rfl, rfl, ⟨TX9, 25, rfl⟩, q441, cV110⟩ ?_
  refine mA ⟨by decide +kernel, rfl, rfl⟩ ?_
  refine mA ⟨by decide +kernel, rfl, rfl⟩ ?_
  refine mA ⟨by decide +kernel, rfl, rfl⟩ ?_
  refine mA ⟨by decide +kernel, rfl, rfl⟩ ?_
  refine mA ⟨by decide +kernel, rfl, by decide +kernel⟩ ?_
  refine mA ⟨by decide +kernel, rfl, rfl⟩ ?_
  refine mA ⟨by decide +kernel, rfl, rfl⟩ ?_
  refine mA ⟨by decide +kernel, rfl, RX9, TX9, 25, rfl, by decide +kernel, mIn_wsX90, Or.inl q375⟩ ?_
  refine mA ⟨by decide +kernel, rfl, rfl⟩ ?_
  refine mA ⟨by decide +kernel, rfl⟩ ?_
  refine mA ⟨by decide +kernel, rfl, by decide +kernel⟩ ?_
  refine mA ⟨by decide +kernel, rfl, rfl, ⟨TX9, 25, rfl⟩, q441, cV110⟩ ?_
  refine mA ⟨by decide +kernel, rfl, rfl, by decide +kernel⟩ ?_
  refine mA ⟨by decide +kernel, rfl, by decide +kernel⟩ ?_
  refine mA ⟨by decide +kernel, rfl, by decide +kernel⟩ ?_
  refine mA ⟨by decide +kernel, rfl, by decide +kernel⟩ ?_
  refine mA ⟨by decide +kernel, rfl, rfl⟩ ?_
  refine mA ⟨by decide +kernel, rfl, rfl⟩ ?_
  refine mA ⟨by decide +kernel, rfl⟩ ?_
  refine mA ⟨by decide +kernel, rfl⟩ ?_
  refine mA ⟨by decide +kernel, rfl⟩ ?_
  refine mA ⟨by decide +kernel, rfl, rfl⟩ ?_
  exact trivial
set_option maxRecDepth 100000 in
set_option maxHeartbeats 4000000 in
theorem okX9_byWay : mAllOk (mMt0 121) tbX9_byWay := by
  rw [mtX9_byWay]
  unfold tbX9_byWay
  refine mA ⟨by decide +kernel, rfl, rfl⟩ ?_
  refine mA ⟨by decide +kernel, rfl, by decide +kernel⟩ ?_
  refine mA ⟨by decide +kernel, rfl, rfl⟩ ?_
  refine mA ⟨by decide +kernel, rfl, rfl⟩ ?_
  refine mA ⟨by decide +kernel, rfl, rfl⟩ ?_
  refine mA ⟨by decide +kernel, rfl, rfl, ⟨TX9, 25, rfl⟩, q469, cV120⟩ ?_
  refine mA ⟨by decide +kernel, rfl, by decide +kernel⟩ ?_
  refine mA ⟨by decide +kernel, rfl, rfl⟩ ?_
  refine mA ⟨by decide +kernel, rfl, by decide +kernel⟩ ?_
  refine mA ⟨by decide +kernel, rfl, by decide +kernel⟩ ?_
  refine mA ⟨by decide +kernel, rfl, rfl⟩ ?_
  refine mA ⟨by decide +kernel, rfl, rfl⟩ ?_
  refine mA ⟨by decide +kernel, rfl, rfl⟩ ?_
  refine mA ⟨by decide +kernel, rfl, rfl, ⟨TX9, 25, rfl⟩, q473, cV117⟩ ?_
  refine mA ⟨by decide +kernel, rfl, by decide +kernel⟩ ?_
  refine mA ⟨by decide +kernel, rfl, rfl⟩ ?_
  refine mA ⟨by decide +kernel, rfl, by decide +kernel⟩ ?_
  refine mA ⟨by decide +kernel, rfl, by decide +kernel⟩ ?_
  refine mA ⟨by decide +kernel, rfl, rfl⟩ ?_
  refine mA ⟨by decide +kernel, rfl, rfl⟩ ?_
  refine mA ⟨by decide +kernel, rfl, rfl⟩ ?_
  refine mA ⟨by decide +kernel, rfl, rfl, ⟨TX9, 25, rfl⟩, q477, cV119⟩ ?_
  refine mA ⟨by decide +kernel, rfl, by decide +kernel⟩ ?_
  refine mA ⟨by decide +kernel, rfl, rfl⟩ ?_
  refine mA ⟨by decide +kernel, rfl, rfl⟩ ?_
  refine mA ⟨by decide +kernel, rfl, rfl⟩ ?_
  refine mA ⟨by decide +kernel, rfl, rfl⟩ ?_
  refine mA ⟨by decide +kernel, rfl, rfl⟩ ?_
  refine mA ⟨by decide +kernel, rfl, by decide +kernel⟩ ?_
  refine mA ⟨by decide +kernel, rfl, by decide +kernel⟩ ?_
  refine mA ⟨by decide +kernel, rfl, rfl⟩ ?_
  refine mA ⟨by decide +kernel, rfl, RX9, TX9, 25, rfl, by decide +kernel, mIn_wsX90, Or.inl q481⟩ ?_
  refine mA ⟨by decide +kernel, rfl, by decide +kernel⟩ ?_
  refine mA ⟨by decide +kernel, rfl, by decide +kernel⟩ ?_
  refine mA ⟨by decide +kernel, rfl, rfl, ⟨TX9, 25, rfl⟩, q455, cV114⟩ ?_
  refine mA ⟨by decide +kernel, rfl, rfl⟩ ?_
  exact trivial
set_option maxRecDepth 100000 in
set_option maxHeartbeats 4000000 in
theorem okX9_pack : mAllOk (mMt0 122) tbX9_pack := by
  rw [mtX9_pack]
  unfold tbX9_pack
  refine mA ⟨by decide +kernel, rfl, rfl⟩ ?_
  refine mA ⟨by decide +kernel, rfl, by decide +kernel⟩ ?_
  refine mA ⟨by decide +kernel, rfl, RX9, TX9, 25, rfl, by decide +kernel, mIn_wsX90, Or.inl q388, rfl, Or.inl rfl⟩ ?_
  refine mA ⟨by decide +kernel, rfl, rfl⟩ ?_
  refine mA ⟨by decide +kernel, rfl, by decide +kernel⟩ ?_
  refine mA ⟨by decide +kernel, rfl, by decide +kernel⟩ ?_
  refine mA ⟨by decide +kernel, rfl, rfl⟩ ?_
  refine mA ⟨by decide +kernel, rfl, by decide +kernel⟩ ?_
  refine mA ⟨by decide +kernel, rfl, by decide +kernel⟩ ?_
  refine mA ⟨by decide +kernel, rfl, rfl⟩ ?_
  refine mA ⟨by decide +kernel, rfl, by decide +kernel⟩ ?_
  refine mA ⟨by decide +kernel, rfl, rfl, ⟨TX9, 25, rfl⟩, q390, cV89⟩ ?_
  refine mA ⟨by decide +kernel, rfl, rfl⟩ ?_
  refine mA ⟨by decide +kernel, rfl, rfl⟩ ?_
  refine mA ⟨by decide +kernel, rfl, rfl, ⟨TX9, 25, rfl⟩, q427, cV105⟩ ?_
  refine mA ⟨by decide +kernel, rfl, by decide +kernel⟩ ?_
  refine mA ⟨by decide +kernel, rfl, rfl⟩ ?_
  refine mA ⟨by decide +kernel, rfl, rfl⟩ ?_
  refine mA ⟨by decide +kernel, rfl, rfl⟩ ?_
  refine mA ⟨by decide +kernel, rfl, RX9, TX9, 25, rfl, by decide +kernel, mIn_wsX90, Or.inl q389⟩ ?_
  refine mA ⟨by decide +kernel, rfl, by decide +kernel⟩ ?_
  refine mA ⟨by decide +kernel, rfl, rfl⟩ ?_
  refine mA ⟨by decide +kernel, rfl, RX9, TX9, 25, rfl, by decide +kernel, mIn_wsX90, Or.inl q382⟩ ?_
  refine mA ⟨by decide +kernel, rfl, rfl⟩ ?_
  refine mA ⟨by decide +kernel, rfl, rfl⟩ ?_
  refine mA ⟨by decide +kernel, rfl, RX9, TX9, 25, rfl, by decide +kernel, mIn_wsX90, Or.inl q375⟩ ?_
  refine mA ⟨by decide +kernel, rfl, rfl⟩ ?_
  refine mA ⟨by decide +kernel, rfl⟩ ?_
  refine mA ⟨by decide +kernel, rfl, rfl⟩ ?_
  refine mA ⟨by decide +kernel, rfl, rfl⟩ ?_
  refine mA ⟨by decide +kernel, rfl, RX9, TX9, 25, rfl, by decide +kernel, mIn_wsX90, Or.inl q375⟩ ?_
  refine mA ⟨by decide +kernel, rfl, rfl⟩ ?_
  refine mA ⟨by decide +kernel, rfl, by decide +kernel⟩ ?_
  refine mA ⟨by decide +kernel, rfl, by decide +kernel⟩ ?_
  refine mA ⟨by decide +kernel, rfl, rfl, ⟨TX9, 25, rfl⟩, q435, cV108⟩ ?_
  refine mA ⟨by decide +kernel, rfl⟩ ?_
  refine mA ⟨by decide +kernel, rfl⟩ ?_
  refine mA ⟨by decide +kernel, rfl, rfl⟩ ?_
  refine mA ⟨by decide +kernel, rfl, RX9, TX9, 25, rfl, by decide +kernel, mIn_wsX90, Or.inl q383⟩ ?_
  refine mA ⟨by decide +kernel, rfl, rfl⟩ ?_
  refine mA ⟨by decide +kernel, rfl, rfl⟩ ?_
  refine mA ⟨by decide +kernel, rfl, RX9, TX9, 25, rfl, by decide +kernel, mIn_wsX90, Or.inl q375⟩ ?_
  refine mA ⟨by decide +kernel, rfl, rfl⟩ ?_
  refine mA ⟨by decide +kernel, rfl⟩ ?_
  refine mA ⟨by decide +kernel, rfl, rfl⟩ ?_
  refine mA ⟨by decide +kernel, rfl, rfl⟩ ?_
  refine mA ⟨by decide +kernel, rfl, RX9, TX9, 25, rfl, by decide +kernel, mIn_wsX90, Or.inl q375⟩ ?_
  refine mA ⟨by decide +kernel, rfl, rfl⟩ ?_
  refine mA ⟨by decide +kernel, rfl, by decide +kernel⟩ ?_
  refine mA ⟨by decide +kernel, rfl, by decide +kernel⟩ ?_
  refine mA ⟨by decide +kernel, rfl, rfl, ⟨TX9, 25, rfl⟩, q435, cV108⟩ ?_
  refine mA ⟨by decide +kernel, rfl⟩ ?_
  refine mA ⟨by decide +kernel, rfl⟩ ?_
  refine mA ⟨by decide +kernel, rfl, rfl⟩ ?_
  refine mA ⟨by decide +kernel, rfl, rfl⟩ ?_
  refine mA ⟨by decide +kernel, rfl, RX9, TX9, 25, rfl, by decide +kernel, mIn_wsX90, Or.inl q375⟩ ?_
  refine mA ⟨by decide +kernel, rfl, rfl⟩ ?_
  refine mA ⟨by decide +kernel, rfl, rfl, ⟨TX9, 25, rfl⟩, q431, cV107⟩ ?_
  refine mA ⟨by decide +kernel, rfl, rfl, by decide +kernel⟩ ?_
  refine mA ⟨by decide +kernel, rfl, by decide +kernel⟩ ?_
  refine mA ⟨by decide +kernel, rfl, rfl⟩ ?_
  refine mA ⟨by decide +kernel, rfl, by decide +kernel⟩ ?_
  refine mA ⟨by decide +kernel, rfl, RX9, TX9, 25, rfl, by decide +kernel, mIn_wsX90, Or.inl q440, rfl, Or.inl rfl⟩ ?_
  refine mA ⟨by decide +kernel, rfl, rfl⟩ ?_
  refine mA ⟨by decide +kernel, rfl, by decide +kernel⟩ ?_
  refine mA ⟨by decide +kernel, rfl, RX9, TX9, 25, rfl, by decide +kernel, mIn_wsX90, Or.inl q439, rfl, Or.inl rfl⟩ ?_
  refine mA ⟨by decide +kernel, rfl, rfl⟩ ?_
  refine mA ⟨by decide +kernel, rfl, rfl⟩ ?_
  refine mA ⟨by decide +kernel, rfl, RX9, TX9, 25, rfl, by decide +kernel, mIn_wsX90, Or.inl q389⟩ ?_
  refine mA ⟨by decide +kernel, rfl⟩ ?_
  refine mA ⟨by decide +kernel, rfl, by decide +kernel⟩ ?_
  refine mA ⟨by decide +kernel, rfl, rfl, ⟨TX9, 25, rfl⟩, q441, cV110⟩ ?_
  refine mA ⟨by decide +kernel, rfl, rfl⟩ ?_
  refine mA ⟨by decide +kernel, rfl, rfl⟩ ?_
  refine mA ⟨by decide +kernel, rfl⟩ ?_
  refine mA ⟨by decide +kernel, rfl, by decide +kernel⟩ ?_
  refine mA ⟨by decide +kernel, rfl, rfl, ⟨TX9, 25, rfl⟩, q441, cV110⟩ ?_
  refine mA ⟨by decide +kernel, rfl, rfl⟩ ?_
  refine mA ⟨by decide +kernel, rfl, by decide +kernel⟩ ?_
  refine mA ⟨by decide +kernel, rfl, RX9, TX9, 25, rfl, by decide +kernel, mIn_wsX90, Or.inl q482, rfl, Or.inl rfl⟩ ?_
  refine mA ⟨by decide +kernel, rfl, by decide +kernel⟩ ?_
  refine mA ⟨by decide +kernel, rfl, rfl⟩ ?_
  refine mA ⟨by decide +kernel, rfl, rfl⟩ ?_
  refine mA ⟨by decide +kernel, rfl, rfl⟩ ?_
  refine mA ⟨by decide +kernel, rfl, RX9, TX9, 25, rfl, by decide +kernel, mIn_wsX90, Or.inl q389⟩ ?_
  refine mA ⟨by decide +kernel, rfl, by decide +kernel⟩ ?_
  refine mA ⟨by decide +kernel, rfl, rfl⟩ ?_
  refine mA ⟨by decide +kernel, rfl, rfl⟩ ?_
  refine mA ⟨by decide +kernel, rfl⟩ ?_
  refine mA ⟨by decide +kernel, rfl, rfl⟩ ?_
  refine mA ⟨by decide +kernel, rfl, RX9, TX9, 25, rfl, by decide +kernel, mIn_wsX90, Or.inl q389⟩ ?_
  refine mA ⟨by decide +kernel, rfl, by decide +kernel⟩ ?_
  refine mA ⟨by decide +kernel, rfl, rfl⟩ ?_
  refine mA ⟨by decide +kernel, rfl, rfl⟩ ?_
  refine mA ⟨by decide +kernel, rfl⟩ ?_
  refine mA ⟨by decide +kernel, rfl, by decide +kernel⟩ ?_
  refine mA ⟨by decide +kernel, rfl, rfl⟩ ?_
  refine mA ⟨by decide +kernel, rfl, RX9, TX9, 25, rfl, by decide +kernel, mIn_wsX90, Or.inl q389⟩ ?_
  refine mA ⟨by decide +kernel, rfl, rfl⟩ ?_
  refine mA ⟨by decide +kernel, rfl, rfl⟩ ?_
  refine mA ⟨by decide +kernel, rfl, by decide +kernel⟩ ?_
  refine mA ⟨by decide +kernel, rfl, RX9, TX9, 25, rfl, by decide +kernel, mIn_wsX90, Or.inl q439, rfl, Or.inl rfl⟩ ?_
  refine mA ⟨by decide +kernel, rfl, rfl⟩ ?_
  refine mA ⟨by decide +kernel, rfl, rfl⟩ ?_
  refine mA ⟨by decide +kernel, rfl, rfl⟩ ?_
  refine mA ⟨by decide +kernel, rfl, rfl⟩ ?_
  refine mA ⟨by decide +kernel, rfl, rfl, ⟨TX9, 25, rfl⟩, q483, cV115⟩ ?_
  refine mA ⟨by decide +kernel, rfl, RX9, TX9, 25, rfl, by decide +kernel, mIn_wsX90, Or.inl q481, rfl, Or.inl rfl⟩ ?_
  refine mA ⟨by decide +kernel, rfl, by decide +kernel⟩ ?_
  refine mA ⟨by decide +kernel, rfl, rfl⟩ ?_
  refine mA ⟨by decide +kernel, rfl, by decide +kernel⟩ ?_
  refine mA ⟨by decide +kernel, rfl, rfl⟩ ?_
  refine mA ⟨by decide +kernel, rfl, rfl⟩ ?_
  refine mA ⟨by decide +kernel, rfl, by decide +kernel⟩ ?_
  refine mA ⟨by decide +kernel, rfl, by decide +kernel⟩ ?_
  refine mA ⟨by decide +kernel, rfl, rfl⟩ ?_
  refine mA ⟨by decide +kernel, rfl, rfl⟩ ?_
  refine mA ⟨by decide +kernel, rfl, rfl⟩ ?_
  refine mA ⟨by decide +kernel, rfl, rfl⟩ ?_
  refine mA ⟨by decide +kernel, rfl, rfl, ⟨TX9, 25, rfl⟩, q487, cV121⟩ ?_
  refine mA ⟨by decide +kernel, rfl, rfl⟩ ?_
  refine mA ⟨by decide +kernel, rfl, rfl⟩ ?_
  refine mA ⟨by decide +kernel, rfl, RX9, TX9, 25, rfl, by decide +kernel, mIn_wsX90, Or.inl q381⟩ ?_
  refine mA ⟨by decide +kernel, rfl, by decide +kernel⟩ ?_
  refine mA ⟨by decide +kernel, rfl, rfl⟩ ?_
  refine mA ⟨by decide +kernel, rfl, RX9, TX9, 25, rfl, by decide +kernel, mIn_wsX90, Or.inl q482⟩ ?_
  refine mA ⟨by decide +kernel, rfl⟩ ?_
  refine mA ⟨by decide +kernel, rfl, rfl⟩ ?_
  refine mA ⟨by decide +kernel, rfl⟩ ?_
  refine mA ⟨by decide +kernel, rfl, rfl⟩ ?_
  refine mA ⟨by decide +kernel, rfl⟩ ?_
  refine mA ⟨by decide +kernel, rfl, rfl⟩ ?_
  refine mA ⟨by decide +kernel, rfl, by decide +kernel⟩ ?_
  refine mA ⟨by decide +kernel, rfl, rfl⟩ ?_
  refine mA ⟨by decide +kernel, rfl, rfl⟩ ?_
  refine mA ⟨by decide +kernel, rfl, RX9, TX9, 25, rfl, by decide +kernel, mIn_wsX90, Or.inl q381⟩ ?_
  refine mA ⟨by decide +kernel, rfl, by decide +kernel⟩ ?_
  refine mA ⟨by decide +kernel, rfl, rfl⟩ ?_
  refine mA ⟨by decide +kernel, rfl, RX9, TX9, 25, rfl, by decide +kernel, mIn_wsX90, Or.inl q482⟩ ?_
  refine mA ⟨by decide +kernel, rfl⟩ ?_
  refine mA ⟨by decide +kernel, rfl, rfl⟩ ?_
  refine mA ⟨by decide +kernel, rfl⟩ ?_
  refine mA ⟨by decide +kernel, rfl⟩ ?_
  refine mA ⟨by decide +kernel, rfl, by decide +kernel⟩ ?_
  refine mA ⟨by decide +kernel, rfl, rfl⟩ ?_
  refine mA ⟨by decide +kernel, rfl, rfl⟩ ?_
  refine mA ⟨by decide +kernel, rfl, rfl, by decide +kernel⟩ ?_
  refine mA ⟨by decide +kernel, rfl, by decide +kernel⟩ ?_
  refine mA ⟨by decide +kernel, rfl, rfl⟩ ?_
  refine mA ⟨by decide +kernel, rfl, RX9, TX9, 25, rfl, by decide +kernel, mIn_wsX90, Or.inl q380⟩ ?_
  refine mA ⟨by decide +kernel, rfl, rfl⟩ ?_
  refine mA ⟨by decide +kernel, rfl, RX9, TX9, 25, rfl, by decide +kernel, mIn_wsX90, Or.inl q482⟩ ?_
  refine mA ⟨by decide +kernel, rfl, rfl⟩ ?_
  refine mA ⟨by decide +kernel, rfl⟩ ?_
  refine mA ⟨by decide +kernel, rfl, rfl⟩ ?_
  refine mA ⟨by decide +kernel, rfl⟩ ?_
  refine mA ⟨by decide +kernel, rfl, RX9, TX9, 25, rfl, by decide +kernel, mIn_wsX90, Or.inl q482⟩ ?_
  refine mA ⟨by decide +kernel, rfl, by decide +kernel⟩ ?_
  refine mA ⟨by decide +kernel, rfl⟩ ?_
  refine mA ⟨by decide +kernel, rfl, RX9, TX9, 25, rfl, by decide +kernel, mIn_wsX90, Or.inl q482, rfl, Or.inl rfl⟩ ?_
  refine mA ⟨by decide +kernel, rfl, rfl⟩ ?_
  refine mA ⟨by decide +kernel, rfl, by decide +kernel⟩ ?_
  refine mA ⟨by decide +kernel, rfl, RX9, TX9, 25, rfl, by decide +kernel, mIn_wsX90, Or.inl q439, rfl, Or.inl rfl⟩ ?_
  refine mA ⟨by decide +kernel, rfl, rfl⟩ ?_
  refine mA ⟨by decide +kernel, rfl, rfl⟩ ?_
  refine mA ⟨by decide +kernel, rfl, rfl⟩ ?_
  refine mA ⟨by decide +kernel, rfl, rfl⟩ ?_
  refine mA ⟨by decide +kernel, rfl, rfl, ⟨TX9, 25, rfl⟩, q487, cV121⟩ ?_
  refine mA ⟨by decide +kernel, rfl, rfl⟩ ?_
  refine mA ⟨by decide +kernel, rfl, rfl⟩ ?_
  refine mA ⟨by decide +kernel, rfl, rfl⟩ ?_
  refine mA ⟨by decide +kernel, rfl⟩ ?_
  refine mA ⟨by decide +kernel, rfl, rfl⟩ ?_
  refine mA ⟨by decide +kernel, rfl, by decide +kernel⟩ ?_
  refine mA ⟨by decide +kernel, rfl, rfl⟩ ?_
  refine mA ⟨by decide +kernel, rfl, RX9, TX9, 25, rfl, by decide +kernel, mIn_wsX90, Or.inl q440⟩ ?_
  refine mA ⟨by decide +kernel, rfl, by decide +kernel⟩ ?_
  refine mA ⟨by decide +kernel, rfl⟩ ?_
  refine mA ⟨by decide +kernel, rfl, by decide +kernel⟩ ?_
  refine mA ⟨by decide +kernel, rfl, rfl⟩ ?_
  refine mA ⟨by decide +kernel, rfl, by decide +kernel⟩ ?_
  refine mA ⟨by decide +kernel, rfl, by decide +kernel⟩ ?_
  refine mA ⟨by decide +kernel, rfl, rfl, ⟨TX9, 25, rfl⟩, q441, cV110⟩ ?_
  refine mA ⟨by decide +kernel, rfl, by decide +kernel⟩ ?_
  refine mA ⟨by decide +kernel, rfl, by decide +kernel⟩ ?_
  refine mA ⟨by decide +kernel, rfl, rfl⟩ ?_
  refine mA ⟨by decide +kernel, rfl, by decide +kernel⟩ ?_
  refine mA ⟨by decide +kernel, rfl, rfl⟩ ?_
  refine mA ⟨by decide +kernel, rfl, rfl⟩ ?_
  refine mA ⟨by decide +kernel, rfl, rfl⟩ ?_
  refine mA ⟨by decide +kernel, rfl, RX9, TX9, 25, rfl, by decide +kernel, mIn_wsX90, Or.inl q440⟩ ?_
  refine mA ⟨by decide +kernel, rfl, by decide +kernel⟩ ?_
  refine mA ⟨by decide +kernel, rfl⟩ ?_
  refine mA ⟨by decide +kernel, rfl, by decide +kernel⟩ ?_
  refine mA ⟨by decide +kernel, rfl, by decide +kernel⟩ ?_
  refine mA ⟨by decide +kernel, rfl, rfl⟩ ?_
  refine mA ⟨by decide +kernel, rfl⟩ ?_
  refine mA ⟨by decide +kernel, rfl, rfl⟩ ?_
  refine mA ⟨by decide +kernel, rfl, RX9, TX9, 25, rfl, by decide +kernel, mIn_wsX90, Or.inl q379⟩ ?_
  refine mA ⟨by decide +kernel, rfl, rfl⟩ ?_
  refine mA ⟨by decide +kernel, rfl⟩ ?_
  refine mA ⟨by decide +kernel, rfl, by decide +kernel⟩ ?_
  refine mA ⟨by decide +kernel, rfl⟩ ?_
  refine mA ⟨by decide +kernel, rfl⟩ ?_
  refine mA ⟨by decide +kernel, rfl, _, rfl, q491⟩ ?_
  refine mA ⟨by decide +kernel, rfl⟩ ?_
  refine mA ⟨by decide +kernel, rfl, rfl⟩ ?_
  refine mA ⟨by decide +kernel, rfl, rfl, by decide +kernel⟩ ?_
  refine mA ⟨by decide +kernel, rfl, by decide +kernel⟩ ?_
  refine mA ⟨by decide +kernel, rfl, rfl⟩ ?_
  refine mA ⟨by decide +kernel, rfl, rfl⟩ ?_
  refine mA ⟨by decide +kernel, rfl⟩ ?_
  refine mA ⟨by decide +kernel, rfl, by decide +kernel⟩ ?_
  refine mA ⟨by decide +kernel, rfl, rfl, ⟨TX9, 25, rfl⟩, q441, cV110⟩ ?_
  refine mA ⟨by decide +kernel, rfl, rfl⟩ ?_
  refine mA ⟨by decide +kernel, rfl, RX9, TX9, 25, rfl, by decide +kernel, mIn_wsX90, Or.inl q440⟩ ?_
  refine mA ⟨by decide +kernel, rfl, by decide +kernel⟩ ?_
  refine mA ⟨by decide +kernel, rfl⟩ ?_
  refine mA ⟨by decide +kernel, rfl, rfl⟩ ?_
  exact trivial
set_option maxRecDepth 100000 in
set_option maxHeartbeats 4000000 in
theorem okX9_blocks : mAllOk (mMt0 123) tbX9_blocks := by
  rw [mtX9_blocks]
  unfold tbX9_blocks
  refine mA ⟨by decide +kernel, rfl, rfl⟩ ?_
  refine mA ⟨by decide +kernel, rfl, by decide +kernel⟩ ?_
  refine mA ⟨by decide +kernel, rfl, RX9, TX9, 25, rfl, by decide +kernel, mIn_wsX90, Or.inl q388, rfl, Or.inl rfl⟩ ?_
  refine mA ⟨by decide +kernel, rfl, rfl⟩ ?_
  refine mA ⟨by decide +kernel, rfl, RX9, TX9, 25, rfl, by decide +kernel, mIn_wsX90, Or.inl q482⟩ ?_
  refine mA ⟨by decide +kernel, rfl, rfl⟩ ?_
  exact trivial
set_option maxRecDepth 100000 in
set_option maxHeartbeats 4000000 in
theorem okX9_way : mAllOk (mMt0 124) tbX9_way := by
  rw [mtX9_way]
  unfold tbX9_way
  refine mA ⟨by decide +kernel, rfl, rfl⟩ ?_
  refine mA ⟨by decide +kernel, rfl, by decide +kernel⟩ ?_
  refine mA ⟨by decide +kernel, rfl, RX9, TX9, 25, rfl, by decide +kernel, mIn_wsX90, Or.inl q388, rfl, Or.inl rfl⟩ ?_
  refine mA ⟨by decide +kernel, rfl, rfl⟩ ?_
  refine mA ⟨by decide +kernel, rfl, by decide +kernel⟩ ?_
  refine mA ⟨by decide +kernel, rfl, rfl⟩ ?_
  refine mA ⟨by decide +kernel, rfl, rfl⟩ ?_
  refine mA ⟨by decide +kernel, rfl, RX9, TX9, 25, rfl, by decide +kernel, mIn_wsX90, Or.inl q482⟩ ?_
  refine mA ⟨by decide +kernel, rfl, by decide +kernel⟩ ?_
  refine mA ⟨by decide +kernel, rfl, rfl⟩ ?_
  refine mA ⟨by decide +kernel, rfl, by decide +kernel⟩ ?_
  refine mA ⟨by decide +kernel, rfl, rfl, ⟨TX9, 25, rfl⟩, q390, cV89⟩ ?_
  refine mA ⟨by decide +kernel, rfl, by decide +kernel⟩ ?_
  refine mA ⟨by decide +kernel, rfl, rfl⟩ ?_
  refine mA ⟨by decide +kernel, rfl, RX9, TX9, 25, rfl, by decide +kernel, mIn_wsX90, Or.inl q380⟩ ?_
  refine mA ⟨by decide +kernel, rfl, rfl⟩ ?_
  refine mA ⟨by decide +kernel, rfl⟩ ?_
  refine mA ⟨by decide +kernel, rfl, rfl⟩ ?_
  exact trivial
set_option maxRecDepth 100000 in
set_option maxHeartbeats 4000000 in
theorem okX9_bits : mAllOk (mMt0 125) tbX9_bits := by
  rw [mtX9_bits]
  unfold tbX9_bits
  refine mA ⟨by decide +kernel, rfl, rfl⟩ ?_
  refine mA ⟨by decide +kernel, rfl, by decide +kernel⟩ ?_
  refine mA ⟨by decide +kernel, rfl, RX9, TX9, 25, rfl, by decide +kernel, mIn_wsX90, Or.inl q388, rfl, Or.inl rfl⟩ ?_
  refine mA ⟨by decide +kernel, rfl, rfl⟩ ?_
  refine mA ⟨by decide +kernel, rfl, by decide +kernel⟩ ?_
  refine mA ⟨by decide +kernel, rfl, rfl⟩ ?_
  refine mA ⟨by decide +kernel, rfl, rfl⟩ ?_
  refine mA ⟨by decide +kernel, rfl, RX9, TX9, 25, rfl, by decide +kernel, mIn_wsX90, Or.inl q482⟩ ?_
  refine mA ⟨by decide +kernel, rfl, by decide +kernel⟩ ?_
  refine mA ⟨by decide +kernel, rfl, rfl⟩ ?_
  refine mA ⟨by decide +kernel, rfl, by decide +kernel⟩ ?_
  refine mA ⟨by decide +kernel, rfl, rfl, ⟨TX9, 25, rfl⟩, q390, cV89⟩ ?_
  refine mA ⟨by decide +kernel, rfl, rfl⟩ ?_
  refine mA ⟨by decide +kernel, rfl, rfl⟩ ?_
  refine mA ⟨by decide +kernel, rfl, by decide +kernel⟩ ?_
  refine mA ⟨by decide +kernel, rfl, rfl⟩ ?_
  refine mA ⟨by decide +kernel, rfl, by decide +kernel⟩ ?_
  refine mA ⟨by decide +kernel, rfl, by decide +kernel⟩ ?_
  refine mA ⟨by decide +kernel, rfl, rfl⟩ ?_
  refine mA ⟨by decide +kernel, rfl, by decide +kernel⟩ ?_
  refine mA ⟨by decide +kernel, rfl, rfl, ⟨TX9, 25, rfl⟩, q390, cV89⟩ ?_
  refine mA ⟨by decide +kernel, rfl, by decide +kernel⟩ ?_
  refine mA ⟨by decide +kernel, rfl, rfl⟩ ?_
  refine mA ⟨by decide +kernel, rfl, RX9, TX9, 25, rfl, by decide +kernel, mIn_wsX90, Or.inl q381⟩ ?_
  refine mA ⟨by decide +kernel, rfl, by decide +kernel⟩ ?_
  refine mA ⟨by decide +kernel, rfl, rfl⟩ ?_
  refine mA ⟨by decide +kernel, rfl⟩ ?_
  refine mA ⟨by decide +kernel, rfl, rfl⟩ ?_
  refine mA ⟨by decide +kernel, rfl⟩ ?_
  refine mA ⟨by decide +kernel, rfl⟩ ?_
  refine mA ⟨by decide +kernel, rfl, rfl⟩ ?_
  exact trivial
set_option maxRecDepth 100000 in
set_option maxHeartbeats 4000000 in
theorem okX9_size : mAllOk (mMt0 126) tbX9_size := by
  rw [mtX9_size]
  unfold tbX9_size
  refine mA ⟨by decide +kernel, rfl, rfl⟩ ?_
  refine mA ⟨by decide +kernel, rfl, by decide +kernel⟩ ?_
  refine mA ⟨by decide +kernel, rfl, RX9, TX9, 25, rfl, by decide +kernel, mIn_wsX90, Or.inl q388, rfl, Or.inl rfl⟩ ?_
  refine mA ⟨by decide +kernel, rfl, rfl⟩ ?_
  refine mA ⟨by decide +kernel, rfl, RX9, TX9, 25, rfl, by decide +kernel, mIn_wsX90, Or.inl q440⟩ ?_
  refine mA ⟨by decide +kernel, rfl, by decide +kernel⟩ ?_
  refine mA ⟨by decide +kernel, rfl⟩ ?_
  refine mA ⟨by decide +kernel, rfl, rfl⟩ ?_
  exact trivial
set_option maxRecDepth 100000 in
set_option maxHeartbeats 4000000 in
theorem okX9_out : mAllOk (mMt0 127) tbX9_out := by
  rw [mtX9_out]
  unfold tbX9_out
  refine mA ⟨by decide +kernel, rfl, rfl⟩ ?_
  refine mA ⟨by decide +kernel, rfl, by decide +kernel⟩ ?_
  refine mA ⟨by decide +kernel, rfl, RX9, TX9, 25, rfl, by decide +kernel, mIn_wsX90, Or.inl q388, rfl, Or.inl rfl⟩ ?_
  refine mA ⟨by decide +kernel, rfl, rfl⟩ ?_
  refine mA ⟨by decide +kernel, rfl, by decide +kernel⟩ ?_
  refine mA ⟨by decide +kernel, rfl, rfl⟩ ?_
  refine mA ⟨by decide +kernel, rfl, rfl⟩ ?_
  refine mA ⟨by decide +kernel, rfl, RX9, TX9, 25, rfl, by decide +kernel, mIn_wsX90, Or.inl q440⟩ ?_
  refine mA ⟨by decide +kernel, rfl, by decide +kernel⟩ ?_
  refine mA ⟨by decide +kernel, rfl⟩ ?_
  refine mA ⟨by decide +kernel, rfl, by decide +kernel⟩ ?_
  refine mA ⟨by decide +kernel, rfl, rfl⟩ ?_
  refine mA ⟨by decide +kernel, rfl, by decide +kernel⟩ ?_
  refine mA ⟨by decide +kernel, rfl, rfl, ⟨TX9, 25, rfl⟩, q390, cV89⟩ ?_
  refine mA ⟨by decide +kernel, rfl, by decide +kernel⟩ ?_
  refine mA ⟨by decide +kernel, rfl, rfl⟩ ?_
  refine mA ⟨by decide +kernel, rfl, RX9, TX9, 25, rfl, by decide +kernel, mIn_wsX90, Or.inl q379⟩ ?_
  refine mA ⟨by decide +kernel, rfl, rfl⟩ ?_
  refine mA ⟨by decide +kernel, rfl⟩ ?_
  refine mA ⟨by decide +kernel, rfl, by decide +kernel⟩ ?_
  refine mA ⟨by decide +kernel, rfl⟩ ?_
  refine mA ⟨by decide +kernel, rfl, rfl⟩ ?_
  exact trivial
set_option maxRecDepth 100000 in
set_option maxHeartbeats 4000000 in
theorem okX9_feed : mAllOk (mMt0 128) tbX9_feed := by
  rw [mtX9_feed]
  unfold tbX9_feed
  refine mA ⟨by decide +kernel, rfl, rfl⟩ ?_
  refine mA ⟨by decide +kernel, rfl, by decide +kernel⟩ ?_
  refine mA ⟨by decide +kernel, rfl, RX9, TX9, 25, rfl, by decide +kernel, mIn_wsX90, Or.inl q388, rfl, Or.inl rfl⟩ ?_
  refine mA ⟨by decide +kernel, rfl, rfl⟩ ?_
  refine mA ⟨by decide +kernel, rfl, by decide +kernel⟩ ?_
  refine mA ⟨by decide +kernel, rfl, by decide +kernel⟩ ?_
  refine mA ⟨by decide +kernel, rfl, rfl⟩ ?_
  refine mA ⟨by decide +kernel, rfl, by decide +kernel⟩ ?_
  refine mA ⟨by decide +kernel, rfl, by decide +kernel⟩ ?_
  refine mA ⟨by decide +kernel, rfl, rfl⟩ ?_
  refine mA ⟨by decide +kernel, rfl, by decide +kernel⟩ ?_
  refine mA ⟨by decide +kernel, rfl, rfl, ⟨TX9, 25, rfl⟩, q390, cV89⟩ ?_
  refine mA ⟨by decide +kernel, rfl, rfl⟩ ?_
  refine mA ⟨by decide +kernel, rfl, rfl⟩ ?_
  refine mA ⟨by decide +kernel, rfl, RX9, TX9, 25, rfl, by decide +kernel, mIn_wsX90, Or.inl q492⟩ ?_
  refine mA ⟨by decide +kernel, rfl, rfl⟩ ?_
  refine mA ⟨by decide +kernel, rfl⟩ ?_
  refine mA ⟨by decide +kernel, rfl, by decide +kernel⟩ ?_
  refine mA ⟨by decide +kernel, rfl, by decide +kernel⟩ ?_
  refine mA ⟨by decide +kernel, rfl, rfl⟩ ?_
  refine mA ⟨by decide +kernel, rfl, by decide +kernel⟩ ?_
  refine mA ⟨by decide +kernel, rfl, rfl, ⟨TX9, 25, rfl⟩, q390, cV89⟩ ?_
  refine mA ⟨by decide +kernel, rfl, rfl⟩ ?_
  refine mA ⟨by decide +kernel, rfl, rfl⟩ ?_
  refine mA ⟨by decide +kernel, rfl, by decide +kernel⟩ ?_
  refine mA ⟨by decide +kernel, rfl⟩ ?_
  refine mA ⟨by decide +kernel, rfl, rfl⟩ ?_
  refine mA ⟨by decide +kernel, rfl, rfl⟩ ?_
  refine mA ⟨by decide +kernel, rfl, by decide +kernel⟩ ?_
  refine mA ⟨by decide +kernel, rfl, rfl⟩ ?_
  refine mA ⟨by decide +kernel, rfl, RX9, TX9, 25, rfl, by decide +kernel, mIn_wsX90, Or.inl q384⟩ ?_
  refine mA ⟨by decide +kernel, rfl, rfl⟩ ?_
  refine mA ⟨by decide +kernel, rfl, RX9, TX9, 25, rfl, by decide +kernel, mIn_wsX90, Or.inl q492⟩ ?_
  refine mA ⟨by decide +kernel, rfl, rfl⟩ ?_
  refine mA ⟨by decide +kernel, rfl, by decide +kernel⟩ ?_
  refine mA ⟨by decide +kernel, rfl, rfl⟩ ?_
  refine mA ⟨by decide +kernel, rfl⟩ ?_
  refine mA ⟨by decide +kernel, rfl⟩ ?_
  refine mA ⟨by decide +kernel, rfl⟩ ?_
  refine mA ⟨by decide +kernel, rfl⟩ ?_
  refine mA ⟨by decide +kernel, rfl⟩ ?_
  refine mA ⟨by decide +kernel, rfl, rfl⟩ ?_
  refine mA ⟨by decide +kernel, rfl⟩ ?_
  refine mA ⟨by decide +kernel, rfl, RX9, TX9, 25, rfl, by decide +kernel, mIn_wsX90, Or.inl q492⟩ ?_
  refine mA ⟨by decide +kernel, rfl, by decide +kernel⟩ ?_
  refine mA ⟨by decide +kernel, rfl⟩ ?_
  refine mA ⟨by decide +kernel, rfl, RX9, TX9, 25, rfl, by decide +kernel, mIn_wsX90, Or.inl q492, rfl, Or.inl rfl⟩ ?_
  refine mA ⟨by decide +kernel, rfl, rfl, by decide +kernel⟩ ?_
  refine mA ⟨by decide +kernel, rfl, by decide +kernel⟩ ?_
  refine mA ⟨by decide +kernel, rfl, rfl⟩ ?_
  refine mA ⟨by decide +kernel, rfl, RX9, TX9, 25, rfl, by decide +kernel, mIn_wsX90, Or.inl q492⟩ ?_
  refine mA ⟨by decide +kernel, rfl, rfl⟩ ?_
  exact trivial
set_option maxRecDepth 100000 in
set_option maxHeartbeats 4000000 in
theorem okX9_cut : mAllOk (mMt0 129) tbX9_cut := by
  rw [mtX9_cut]
  unfold tbX9_cut
  refine mA ⟨by decide +kernel, rfl, rfl⟩ ?_
  refine mA ⟨by decide +kernel, rfl, by decide +kernel⟩ ?_
  refine mA ⟨by decide +kernel, rfl, RX9, TX9, 25, rfl, by decide +kernel, mIn_wsX90, Or.inl q388, rfl, Or.inl rfl⟩ ?_
  refine mA ⟨by decide +kernel, rfl, rfl⟩ ?_
  refine mA ⟨by decide +kernel, rfl, by decide +kernel⟩ ?_
  refine mA ⟨by decide +kernel, rfl, rfl⟩ ?_
  refine mA ⟨by decide +kernel, rfl, rfl⟩ ?_
  refine mA ⟨by decide +kernel, rfl, RX9, TX9, 25, rfl, by decide +kernel, mIn_wsX90, Or.inl q492⟩ ?_
  refine mA ⟨by decide +kernel, rfl, by decide +kernel⟩ ?_
  refine mA ⟨by decide +kernel, rfl, rfl⟩ ?_
  refine mA ⟨by decide +kernel, rfl, by decide +kernel⟩ ?_
  refine mA ⟨by decide +kernel, rfl, rfl, ⟨TX9, 25, rfl⟩, q390, cV89⟩ ?_
  refine mA ⟨by decide +kernel, rfl, rfl⟩ ?_
  refine mA ⟨by decide +kernel, rfl, rfl⟩ ?_
  refine mA ⟨by decide +kernel, rfl, RX9, TX9, 25, rfl, by decide +kernel, mIn_wsX90, Or.inl q492⟩ ?_
  refine mA ⟨by decide +kernel, rfl, rfl⟩ ?_
  refine mA ⟨by decide +kernel, rfl⟩ ?_
  refine mA ⟨by decide +kernel, rfl, rfl⟩ ?_
  refine mA ⟨by decide +kernel, rfl, rfl⟩ ?_
  refine mA ⟨by decide +kernel, rfl, rfl⟩ ?_
  refine mA ⟨by decide +kernel, rfl, RX9, TX9, 25, rfl, by decide +kernel, mIn_wsX90, Or.inl q492, rfl, Or.inl rfl⟩ ?_
  refine mA ⟨by decide +kernel, rfl, rfl⟩ ?_
  refine mA ⟨by decide +kernel, rfl, rfl⟩ ?_
  exact trivial
set_option maxRecDepth 100000 in
set_option maxHeartbeats 4000000 in
theorem okX9_turn_ : mAllOk (mMt0 130) tbX9_turn_ := by
  rw [mtX9_turn_]
  unfold tbX9_turn_
  refine mA ⟨by decide +kernel, rfl, rfl⟩ ?_
  refine mA ⟨by decide +kernel, rfl, by decide +kernel⟩ ?_
  refine mA ⟨by decide +kernel, rfl, RX9, TX9, 25, rfl, by decide +kernel, mIn_wsX90, Or.inl q388, rfl, Or.inl rfl⟩ ?_
  refine mA ⟨by decide +kernel, rfl, rfl⟩ ?_
  refine mA ⟨by decide +kernel, rfl, rfl⟩ ?_
  refine mA ⟨by decide +kernel, rfl, RX9, TX9, 25, rfl, by decide +kernel, mIn_wsX90, Or.inl q440⟩ ?_
  refine mA ⟨by decide +kernel, rfl, by decide +kernel⟩ ?_
  refine mA ⟨by decide +kernel, rfl⟩ ?_
  refine mA ⟨by decide +kernel, rfl, RX9, TX9, 25, rfl, by decide +kernel, mIn_wsX90, Or.inl q492, rfl, Or.inl rfl⟩ ?_
  refine mA ⟨by decide +kernel, rfl, by decide +kernel⟩ ?_
  refine mA ⟨by decide +kernel, rfl, rfl⟩ ?_
  refine mA ⟨by decide +kernel, rfl, rfl⟩ ?_
  refine mA ⟨by decide +kernel, rfl, rfl⟩ ?_
  refine mA ⟨by decide +kernel, rfl, RX9, TX9, 25, rfl, by decide +kernel, mIn_wsX90, Or.inl q492⟩ ?_
  refine mA ⟨by decide +kernel, rfl, by decide +kernel⟩ ?_
  refine mA ⟨by decide +kernel, rfl, rfl⟩ ?_
  refine mA ⟨by decide +kernel, rfl, RX9, TX9, 25, rfl, by decide +kernel, mIn_wsX90, Or.inl q384⟩ ?_
  refine mA ⟨by decide +kernel, rfl, rfl⟩ ?_
  refine mA ⟨by decide +kernel, rfl, rfl⟩ ?_
  refine mA ⟨by decide +kernel, rfl, RX9, TX9, 25, rfl, by decide +kernel, mIn_wsX90, Or.inl q379⟩ ?_
  refine mA ⟨by decide +kernel, rfl, rfl⟩ ?_
  refine mA ⟨by decide +kernel, rfl⟩ ?_
  refine mA ⟨by decide +kernel, rfl⟩ ?_
  refine mA ⟨by decide +kernel, rfl, rfl, by decide +kernel⟩ ?_
  refine mA ⟨by decide +kernel, rfl, by decide +kernel⟩ ?_
  refine mA ⟨by decide +kernel, rfl, rfl⟩ ?_
  refine mA ⟨by decide +kernel, rfl, RX9, TX9, 25, rfl, by decide +kernel, mIn_wsX90, Or.inl q492⟩ ?_
  refine mA ⟨by decide +kernel, rfl, rfl⟩ ?_
  exact trivial
set_option maxRecDepth 100000 in
set_option maxHeartbeats 4000000 in
theorem okX9_change : mAllOk (mMt0 131) tbX9_change := by
  rw [mtX9_change]
  unfold tbX9_change
  refine mA ⟨by decide +kernel, rfl, rfl⟩ ?_
  refine mA ⟨by decide +kernel, rfl, by decide +kernel⟩ ?_
  refine mA ⟨by decide +kernel, rfl, RX9, TX9, 25, rfl, by decide +kernel, mIn_wsX90, Or.inl q388, rfl, Or.inl rfl⟩ ?_
  refine mA ⟨by decide +kernel, rfl, rfl⟩ ?_
  refine mA ⟨by decide +kernel, rfl, by decide +kernel⟩ ?_
  refine mA ⟨by decide +kernel, rfl, rfl⟩ ?_
  refine mA ⟨by decide +kernel, rfl, rfl⟩ ?_
  refine mA ⟨by decide +kernel, rfl, RX9, TX9, 25, rfl, by decide +kernel, mIn_wsX90, Or.inl q492⟩ ?_
  refine mA ⟨by decide +kernel, rfl, by decide +kernel⟩ ?_
  refine mA ⟨by decide +kernel, rfl, rfl⟩ ?_
  refine mA ⟨by decide +kernel, rfl, by decide +kernel⟩ ?_
  refine mA ⟨by decide +kernel, rfl, rfl, ⟨TX9, 25, rfl⟩, q390, cV89⟩ ?_
  refine mA ⟨by decide +kernel, rfl, rfl⟩ ?_
  refine mA ⟨by decide +kernel, rfl, rfl⟩ ?_
  refine mA ⟨by decide +kernel, rfl, by decide +kernel⟩ ?_
  refine mA ⟨by decide +kernel, rfl, rfl⟩ ?_
  refine mA ⟨by decide +kernel, rfl, by decide +kernel⟩ ?_
  refine mA ⟨by decide +kernel, rfl, by decide +kernel⟩ ?_
  refine mA ⟨by decide +kernel, rfl, rfl⟩ ?_
  refine mA ⟨by decide +kernel, rfl, by decide +kernel⟩ ?_
  refine mA ⟨by decide +kernel, rfl, rfl, ⟨TX9, 25, rfl⟩, q390, cV89⟩ ?_
  refine mA ⟨by decide +kernel, rfl, rfl⟩ ?_
  refine mA ⟨by decide +kernel, rfl, rfl⟩ ?_
  refine mA ⟨by decide +kernel, rfl, RX9, TX9, 25, rfl, by decide +kernel, mIn_wsX90, Or.inl q384⟩ ?_
  refine mA ⟨by decide +kernel, rfl, rfl⟩ ?_
  refine mA ⟨by decide +kernel, rfl, rfl⟩ ?_
  refine mA ⟨by decide +kernel, rfl, RX9, TX9, 25, rfl, by decide +kernel, mIn_wsX90, Or.inl q384⟩ ?_
  refine mA ⟨by decide +kernel, rfl, rfl⟩ ?_
  refine mA ⟨by decide +kernel, rfl⟩ ?_
  refine mA ⟨by decide +kernel, rfl, rfl⟩ ?_
  refine mA ⟨by decide +kernel, rfl⟩ ?_
  refine mA ⟨by decide +kernel, rfl⟩ ?_
  refine mA ⟨by decide +kernel, rfl⟩ ?_
  refine mA ⟨by decide +kernel, rfl, rfl⟩ ?_
  refine mA ⟨by decide +kernel, rfl, RX9, TX9, 25, rfl, by decide +kernel, mIn_wsX90, Or.inl q384⟩ ?_
  refine mA ⟨by decide +kernel, rfl, rfl⟩ ?_
  refine mA ⟨by decide +kernel, rfl⟩ ?_
  refine mA ⟨by decide +kernel, rfl, by decide +kernel⟩ ?_
  refine mA ⟨by decide +kernel, rfl⟩ ?_
  refine mA ⟨by decide +kernel, rfl, rfl⟩ ?_
  exact trivial
set_option maxRecDepth 100000 in
set_option maxHeartbeats 4000000 in
theorem okX9_wrong : mAllOk (mMt0 132) tbX9_wrong := by
  rw [mtX9_wrong]
  unfold tbX9_wrong
  refine mA ⟨by decide +kernel, rfl, rfl⟩ ?_
  refine mA ⟨by decide +kernel, rfl, RX9, TX9, 25, rfl, by decide +kernel, mIn_wsX90, Or.inl q493⟩ ?_
  refine mA ⟨by decide +kernel, rfl, by decide +kernel⟩ ?_
  refine mA ⟨by decide +kernel, rfl, rfl⟩ ?_
  refine mA ⟨by decide +kernel, rfl, rfl⟩ ?_
  refine mA ⟨by decide +kernel, rfl, RX9, TX9, 25, rfl, by decide +kernel, mIn_wsX90, Or.inl q493, rfl, Or.inl rfl⟩ ?_
  refine mA ⟨by decide +kernel, rfl, rfl⟩ ?_
  refine mA ⟨by decide +kernel, rfl, rfl⟩ ?_
  refine mA ⟨by decide +kernel, rfl, RX9, TX9, 25, rfl, by decide +kernel, mIn_wsX90, Or.inl q494, rfl, Or.inl rfl⟩ ?_
  refine mA ⟨by decide +kernel, rfl, rfl⟩ ?_
  exact trivial
set_option maxRecDepth 100000 in
set_option maxHeartbeats 4000000 in
theorem okX9_next : mAllOk (mMt0 133) tbX9_next := by
  rw [mtX9_next]
  unfold tbX9_next
  refine mA ⟨by decide +kernel, rfl, rfl⟩ ?_
  refine mA ⟨by decide +kernel, rfl, RX9, TX9, 25, rfl, by decide +kernel, mIn_wsX90, Or.inl q493⟩ ?_
  refine mA ⟨by decide +kernel, rfl, by decide +kernel⟩ ?_
  refine mA ⟨by decide +kernel, rfl, by decide +kernel⟩ ?_
  refine mA ⟨by decide +kernel, rfl, rfl⟩ ?_
  refine mA ⟨by decide +kernel, rfl, rfl⟩ ?_
  refine mA ⟨by decide +kernel, rfl, RX9, TX9, 25, rfl, by decide +kernel, mIn_wsX90, Or.inl q495⟩ ?_
  refine mA ⟨by decide +kernel, rfl, rfl⟩ ?_
  refine mA ⟨by decide +kernel, rfl⟩ ?_
  refine mA ⟨by decide +kernel, rfl, by decide +kernel⟩ ?_
  refine mA ⟨by decide +kernel, rfl, rfl⟩ ?_
  refine mA ⟨by decide +kernel, rfl, RX9, TX9, 25, rfl, by decide +kernel, mIn_wsX90, Or.inl q492⟩ ?_
  refine mA ⟨by decide +kernel, rfl⟩ ?_
  refine mA ⟨by decide +kernel, rfl, by decide +kernel⟩ ?_
  refine mA ⟨by decide +kernel, rfl, rfl⟩ ?_
  refine mA ⟨by decide +kernel, rfl, by decide +kernel⟩ ?_
  refine mA ⟨by decide +kernel, rfl, by decide +kernel⟩ ?_
  refine mA ⟨by decide +kernel, rfl, rfl⟩ ?_
  refine mA ⟨by decide +kernel, rfl, RX9, TX9, 25, rfl, by decide +kernel, mIn_wsX90, Or.inl q492⟩ ?_
  refine mA ⟨by decide +kernel, rfl⟩ ?_
  refine mA ⟨by decide +kernel, rfl, rfl, ⟨TX9, 25, rfl⟩, q496, cV132⟩ ?_
  refine mA ⟨by decide +kernel, rfl, by decide +kernel⟩ ?_
  refine mA ⟨by decide +kernel, rfl, rfl⟩ ?_
  refine mA ⟨by decide +kernel, rfl, by decide +kernel⟩ ?_
  refine mA ⟨by decide +kernel, rfl, rfl⟩ ?_
  refine mA ⟨by decide +kernel, rfl, by decide +kernel⟩ ?_
  refine mA ⟨by decide +kernel, rfl, rfl⟩ ?_
  refine mA ⟨by decide +kernel, rfl, rfl⟩ ?_
  refine mA ⟨by decide +kernel, rfl, rfl⟩ ?_
  refine mA ⟨by decide +kernel, rfl, by decide +kernel⟩ ?_
  refine mA ⟨by decide +kernel, rfl, rfl⟩ ?_
  refine mA ⟨by decide +kernel, rfl, by decide +kernel⟩ ?_
  refine mA ⟨by decide +kernel, rfl⟩ ?_
  refine mA ⟨by decide +kernel, rfl, rfl⟩ ?_
  refine mA ⟨by decide +kernel, rfl, RX9, TX9, 25, rfl, by decide +kernel, mIn_wsX90, Or.inl q384⟩ ?_
  refine mA ⟨by decide +kernel, rfl, rfl⟩ ?_
  refine mA ⟨by decide +kernel, rfl, RX9, TX9, 25, rfl, by decide +kernel, mIn_wsX90, Or.inl q495⟩ ?_
  refine mA ⟨by decide +kernel, rfl, by decide +kernel⟩ ?_
  refine mA ⟨by decide +kernel, rfl⟩ ?_
  refine mA ⟨by decide +kernel, rfl⟩ ?_
  refine mA ⟨by decide +kernel, rfl, by decide +kernel⟩ ?_
  refine mA ⟨by decide +kernel, rfl, rfl⟩ ?_
  refine mA ⟨by decide +kernel, rfl, RX9, TX9, 25, rfl, by decide +kernel, mIn_wsX90, Or.inl q495⟩ ?_
  refine mA ⟨by decide +kernel, rfl, by decide +kernel⟩ ?_
  refine mA ⟨by decide +kernel, rfl⟩ ?_
  refine mA ⟨by decide +kernel, rfl⟩ ?_
  refine mA ⟨by decide +kernel, rfl⟩ ?_
  refine mA ⟨by decide +kernel, rfl, by decide +kernel⟩ ?_
  refine mA ⟨by decide +kernel, rfl⟩ ?_
  refine mA ⟨by decide +kernel, rfl⟩ ?_
  refine mA ⟨by decide +kernel, rfl⟩ ?_
  refine mA ⟨by decide +kernel, rfl, rfl⟩ ?_
  refine mA ⟨by decide +kernel, rfl, rfl⟩ ?_
  refine mA ⟨by decide +kernel, rfl⟩ ?_
  refine mA ⟨by decide +kernel, rfl, RX9, TX9, 25, rfl, by decide +kernel, mIn_wsX90, Or.inl q495⟩ ?_
  refine mA ⟨by decide +kernel, rfl, by decide +kernel⟩ ?_
  refine mA ⟨by decide +kernel, rfl⟩ ?_
  refine mA ⟨by decide +kernel, rfl, RX9, TX9, 25, rfl, by decide +kernel, mIn_wsX90, Or.inl q495, rfl, Or.inl rfl⟩ ?_
  refine mA ⟨by decide +kernel, rfl, rfl, by decide +kernel⟩ ?_
  refine mA ⟨by decide +kernel, rfl, by decide +kernel⟩ ?_
  refine mA ⟨by decide +kernel, rfl, rfl⟩ ?_
  refine mA ⟨by decide +kernel, rfl, rfl⟩ ?_
  exact trivial
set_option maxRecDepth 100000 in
set_option maxHeartbeats 4000000 in
theorem okX9_take : mAllOk (mMt0 134) tbX9_take := by
  rw [mtX9_take]
  unfold tbX9_take
  refine mA ⟨by decide +kernel, rfl, rfl⟩ ?_
  refine mA ⟨by decide +kernel, rfl, RX9, TX9, 25, rfl, by decide +kernel, mIn_wsX90, Or.inl q493⟩ ?_
  refine mA ⟨by decide +kernel, rfl, by decide +kernel⟩ ?_
  refine mA ⟨by decide +kernel, rfl, rfl⟩ ?_
  refine mA ⟨by decide +kernel, rfl, RX9, TX9, 25, rfl, by decide +kernel, mIn_wsX90, Or.inl q385⟩ ?_
  refine mA ⟨by decide +kernel, rfl, rfl⟩ ?_
  refine mA ⟨by decide +kernel, rfl, RX9, TX9, 25, rfl, by decide +kernel, mIn_wsX90, Or.inl q500⟩ ?_
  refine mA ⟨by decide +kernel, rfl, rfl⟩ ?_
  refine mA ⟨by decide +kernel, rfl⟩ ?_
  refine mA ⟨by decide +kernel, rfl, rfl⟩ ?_
  refine mA ⟨by decide +kernel, rfl, rfl⟩ ?_
  refine mA ⟨by decide +kernel, rfl, RX9, TX9, 25, rfl, by decide +kernel, mIn_wsX90, Or.inl q385⟩ ?_
  refine mA ⟨by decide +kernel, rfl, rfl⟩ ?_
  refine mA ⟨by decide +kernel, rfl, RX9, TX9, 25, rfl, by decide +kernel, mIn_wsX90, Or.inl q500⟩ ?_
  refine mA ⟨by decide +kernel, rfl, rfl, ⟨TX9, 25, rfl⟩, q431, cV107⟩ ?_
  refine mA ⟨by decide +kernel, rfl, rfl⟩ ?_
  refine mA ⟨by decide +kernel, rfl⟩ ?_
  refine mA ⟨by decide +kernel, rfl, RX9, TX9, 25, rfl, by decide +kernel, mIn_wsX90, Or.inl q500⟩ ?_
  refine mA ⟨by decide +kernel, rfl, by decide +kernel⟩ ?_
  refine mA ⟨by decide +kernel, rfl⟩ ?_
  refine mA ⟨by decide +kernel, rfl, RX9, TX9, 25, rfl, by decide +kernel, mIn_wsX90, Or.inl q500, rfl, Or.inl rfl⟩ ?_
  refine mA ⟨by decide +kernel, rfl, rfl⟩ ?_
  exact trivial
set_option maxRecDepth 100000 in
set_option maxHeartbeats 4000000 in
theorem okX9_openRests : mAllOk (mMt0 135) tbX9_openRests := by
  rw [mtX9_openRests]
  unfold tbX9_openRests
  refine mA ⟨by decide +kernel, rfl, rfl⟩ ?_
  refine mA ⟨by decide +kernel, rfl, by decide +kernel⟩ ?_
  refine mA ⟨by decide +kernel, rfl, by decide +kernel⟩ ?_
  refine mA ⟨by decide +kernel, rfl, rfl⟩ ?_
  refine mA ⟨by decide +kernel, rfl, by decide +kernel⟩ ?_
  refine mA ⟨by decide +kernel, rfl, rfl, ⟨TX9, 25, rfl⟩, q501, cV133⟩ ?_
  refine mA ⟨by decide +kernel, rfl⟩ ?_
  refine mA ⟨by decide +kernel, rfl, by decide +kernel⟩ ?_
  refine mA ⟨by decide +kernel, rfl⟩ ?_
  refine mA ⟨by decide +kernel, rfl, by decide +kernel⟩ ?_
  refine mA ⟨by decide +kernel, rfl, by decide +kernel⟩ ?_
  refine mA ⟨by decide +kernel, rfl, rfl⟩ ?_
  refine mA ⟨by decide +kernel, rfl, by decide +kernel⟩ ?_
  refine mA ⟨by decide +kernel, rfl, rfl⟩ ?_
  refine mA ⟨by decide +kernel, rfl, by decide +kernel⟩ ?_
  refine mA ⟨by decide +kernel, rfl, rfl⟩ ?_
  refine mA ⟨by decide +kernel, rfl, by decide +kernel⟩ ?_
  refine mA ⟨by decide +kernel, rfl, rfl⟩ ?_
  refine mA ⟨by decide +kernel, rfl, rfl⟩ ?_
  refine mA ⟨by decide +kernel, rfl, rfl⟩ ?_
  refine mA ⟨by decide +kernel, rfl, by decide +kernel⟩ ?_
  refine mA ⟨by decide +kernel, rfl, rfl⟩ ?_
  refine mA ⟨by decide +kernel, rfl, RX9, TX9, 25, rfl, by decide +kernel, mIn_wsX90, Or.inl q493⟩ ?_
  refine mA ⟨by decide +kernel, rfl, by decide +kernel⟩ ?_
  refine mA ⟨by decide +kernel, rfl, by decide +kernel⟩ ?_
  refine mA ⟨by decide +kernel, rfl, rfl⟩ ?_
  refine mA ⟨by decide +kernel, rfl, rfl⟩ ?_
  refine mA ⟨by decide +kernel, rfl, by decide +kernel⟩ ?_
  refine mA ⟨by decide +kernel, rfl, rfl, ⟨TX9, 25, rfl⟩, q501, cV133⟩ ?_
  refine mA ⟨by decide +kernel, rfl, by decide +kernel⟩ ?_
  refine mA ⟨by decide +kernel, rfl⟩ ?_
  refine mA ⟨by decide +kernel, rfl, by decide +kernel⟩ ?_
  refine mA ⟨by decide +kernel, rfl, rfl⟩ ?_
  refine mA ⟨by decide +kernel, rfl, RX9, TX9, 25, rfl, by decide +kernel, mIn_wsX90, Or.inl q495⟩ ?_
  refine mA ⟨by decide +kernel, rfl, rfl⟩ ?_
  refine mA ⟨by decide +kernel, rfl, rfl⟩ ?_
  refine mA ⟨by decide +kernel, rfl, by decide +kernel⟩ ?_
  refine mA ⟨by decide +kernel, rfl, rfl, ⟨TX9, 25, rfl⟩, q501, cV133⟩ ?_
  refine mA ⟨by decide +kernel, rfl, by decide +kernel⟩ ?_
  refine mA ⟨by decide +kernel, rfl⟩ ?_
  refine mA ⟨by decide +kernel, rfl, by decide +kernel⟩ ?_
  refine mA ⟨by decide +kernel, rfl, by decide +kernel⟩ ?_
  refine mA ⟨by decide +kernel, rfl, by decide +kernel⟩ ?_
  refine mA ⟨by decide +kernel, rfl, by decide +kernel⟩ ?_
  refine mA ⟨by decide +kernel, rfl, rfl⟩ ?_
  refine mA ⟨by decide +kernel, rfl, rfl⟩ ?_
  refine mA ⟨by decide +kernel, rfl, RX9, TX9, 25, rfl, by decide +kernel, mIn_wsX90, Or.inl q493⟩ ?_
  refine mA ⟨by decide +kernel, rfl, by decide +kernel⟩ ?_
  refine mA ⟨by decide +kernel, rfl, rfl⟩ ?_
  refine mA ⟨by decide +kernel, rfl, by decide +kernel⟩ ?_
  refine mA ⟨by decide +kernel, rfl, rfl⟩ ?_
  refine mA ⟨by decide +kernel, rfl, by decide +kernel⟩ ?_
  refine mA ⟨by decide +kernel, rfl, rfl⟩ ?_
  refine mA ⟨by decide +kernel, rfl, by decide +kernel⟩ ?_
  refine mA ⟨by decide +kernel, rfl, rfl⟩ ?_
  refine mA ⟨by decide +kernel, rfl, rfl, ⟨TX9, 25, rfl⟩, q496, cV132⟩ ?_
  refine mA ⟨by decide +kernel, rfl, rfl⟩ ?_
  refine mA ⟨by decide +kernel, rfl, by decide +kernel⟩ ?_
  refine mA ⟨by decide +kernel, rfl, rfl⟩ ?_
  refine mA ⟨by decide +kernel, rfl, RX9, TX9, 25, rfl, by decide +kernel, mIn_wsX90, Or.inl q495⟩ ?_
  refine mA ⟨by decide +kernel, rfl, rfl⟩ ?_
  refine mA ⟨by decide +kernel, rfl, rfl⟩ ?_
  refine mA ⟨by decide +kernel, rfl, by decide +kernel⟩ ?_
  refine mA ⟨by decide +kernel, rfl, rfl, ⟨TX9, 25, rfl⟩, q501, cV133⟩ ?_
  refine mA ⟨by decide +kernel, rfl⟩ ?_
  refine mA ⟨by decide +kernel, rfl, rfl⟩ ?_
  refine mA ⟨by decide +kernel, rfl, rfl⟩ ?_
  refine mA ⟨by decide +kernel, rfl, by decide +kernel⟩ ?_
  refine mA ⟨by decide +kernel, rfl, rfl, ⟨TX9, 25, rfl⟩, q501, cV133⟩ ?_
  refine mA ⟨by decide +kernel, rfl⟩ ?_
  refine mA ⟨by decide +kernel, rfl, by decide +kernel⟩ ?_
  refine mA ⟨by decide +kernel, rfl⟩ ?_
  refine mA ⟨by decide +kernel, rfl, rfl⟩ ?_
  refine mA ⟨by decide +kernel, rfl, rfl⟩ ?_
  refine mA ⟨by decide +kernel, rfl, RX9, TX9, 25, rfl, by decide +kernel, mIn_wsX90, Or.inl q493⟩ ?_
  refine mA ⟨by decide +kernel, rfl, by decide +kernel⟩ ?_
  refine mA ⟨by decide +kernel, rfl, rfl⟩ ?_
  refine mA ⟨by decide +kernel, rfl, rfl⟩ ?_
  refine mA ⟨by decide +kernel, rfl⟩ ?_
  refine mA ⟨by decide +kernel, rfl, by decide +kernel⟩ ?_
  refine mA ⟨by decide +kernel, rfl, by decide +kernel⟩ ?_
  refine mA ⟨by decide +kernel, rfl, rfl⟩ ?_
  refine mA ⟨by decide +kernel, rfl, by decide +kernel⟩ ?_
  refine mA ⟨by decide +kernel, rfl, rfl⟩ ?_
  refine mA ⟨by decide +kernel, rfl, rfl, ⟨TX9, 25, rfl⟩, q496, cV132⟩ ?_
  refine mA ⟨by decide +kernel, rfl, rfl⟩ ?_
  refine mA ⟨by decide +kernel, rfl, rfl⟩ ?_
  refine mA ⟨by decide +kernel, rfl, rfl, ⟨TX9, 25, rfl⟩, q501, cV133⟩ ?_
  refine mA ⟨by decide +kernel, rfl, rfl⟩ ?_
  refine mA ⟨by decide +kernel, rfl, rfl⟩ ?_
  refine mA ⟨by decide +kernel, rfl, RX9, TX9, 25, rfl, by decide +kernel, mIn_wsX90, Or.inl q493⟩ ?_
  refine mA ⟨by decide +kernel, rfl, by decide +kernel⟩ ?_
  refine mA ⟨by decide +kernel, rfl, rfl⟩ ?_
  refine mA ⟨by decide +kernel, rfl, rfl⟩ ?_
  refine mA ⟨by decide +kernel, rfl, by decide +kernel⟩ ?_
  refine mA ⟨by decide +kernel, rfl⟩ ?_
  refine mA ⟨by decide +kernel, rfl⟩ ?_
  refine mA ⟨by decide +kernel, rfl, by decide +kernel⟩ ?_
  refine mA ⟨by decide +kernel, rfl⟩ ?_
  refine mA ⟨by decide +kernel, rfl, by decide +kernel⟩ ?_
  refine mA ⟨by decide +kernel, rfl⟩ ?_
  refine mA ⟨by decide +kernel, rfl, by decide +kernel⟩ ?_
  refine mA ⟨by decide +kernel, rfl, rfl⟩ ?_
  refine mA ⟨by decide +kernel, rfl, by decide +kernel⟩ ?_
  refine mA ⟨by decide +kernel, rfl⟩ ?_
  refine mA ⟨by decide +kernel, rfl, by decide +kernel⟩ ?_
  refine mA ⟨by decide +kernel, rfl⟩ ?_
  refine mA ⟨by decide +kernel, rfl, by decide +kernel⟩ ?_
  refine mA ⟨by decide +kernel, rfl, rfl⟩ ?_
  refine mA ⟨by decide +kernel, rfl, by decide +kernel⟩ ?_
  refine mA ⟨by decide +kernel, rfl, rfl⟩ ?_
  refine mA ⟨by decide +kernel, rfl, rfl, ⟨TX9, 25, rfl⟩, q496, cV132⟩ ?_
  refine mA ⟨by decide +kernel, rfl, rfl⟩ ?_
  refine mA ⟨by decide +kernel, rfl, rfl⟩ ?_
  refine mA ⟨by decide +kernel, rfl, rfl⟩ ?_
  refine mA ⟨by decide +kernel, rfl, rfl⟩ ?_
  refine mA ⟨by decide +kernel, rfl, rfl⟩ ?_
  refine mA ⟨by decide +kernel, rfl, RX9, TX9, 25, rfl, by decide +kernel, mIn_wsX90, Or.inl q493⟩ ?_
  refine mA ⟨by decide +kernel, rfl, by decide +kernel⟩ ?_
  refine mA ⟨by decide +kernel, rfl, rfl⟩ ?_
  refine mA ⟨by decide +kernel, rfl, by decide +kernel⟩ ?_
  refine mA ⟨by decide +kernel, rfl, rfl⟩ ?_
  refine mA ⟨by decide +kernel, rfl⟩ ?_
  refine mA ⟨by decide +kernel, rfl, rfl⟩ ?_
  refine mA ⟨by decide +kernel, rfl⟩ ?_
  refine mA ⟨by decide +kernel, rfl⟩ ?_
  refine mA ⟨by decide +kernel, rfl, by decide +kernel⟩ ?_
  refine mA ⟨by decide +kernel, rfl, by decide +kernel⟩ ?_
  refine mA ⟨by decide +kernel, rfl, rfl⟩ ?_
  refine mA ⟨by decide +kernel, rfl, by decide +kernel⟩ ?_
  refine mA ⟨by decide +kernel, rfl, rfl⟩ ?_
  refine mA ⟨by decide +kernel, rfl, RX9, TX9, 25, rfl, by decide +kernel, mIn_wsX90, Or.inl q493⟩ ?_
  refine mA ⟨by decide +kernel, rfl, by decide +kernel⟩ ?_
  refine mA ⟨by decide +kernel, rfl, rfl⟩ ?_
  refine mA ⟨by decide +kernel, rfl, rfl⟩ ?_
  refine mA ⟨by decide +kernel, rfl, rfl, ⟨TX9, 25, rfl⟩, q501, cV133⟩ ?_
  refine mA ⟨by decide +kernel, rfl, rfl⟩ ?_
  refine mA ⟨by decide +kernel, rfl, rfl⟩ ?_
  refine mA ⟨by decide +kernel, rfl, by decide +kernel⟩ ?_
  refine mA ⟨by decide +kernel, rfl, rfl⟩ ?_
  refine mA ⟨by decide +kernel, rfl⟩ ?_
  refine mA ⟨by decide +kernel, rfl, rfl⟩ ?_
  refine mA ⟨by decide +kernel, rfl⟩ ?_
  refine mA ⟨by decide +kernel, rfl⟩ ?_
  refine mA ⟨by decide +kernel, rfl, rfl⟩ ?_
  refine mA ⟨by decide +kernel, rfl, rfl⟩ ?_
  refine mA ⟨by decide +kernel, rfl, RX9, TX9, 25, rfl, by decide +kernel, mIn_wsX90, Or.inl q493⟩ ?_
  refine mA ⟨by decide +kernel, rfl, by decide +kernel⟩ ?_
  refine mA ⟨by decide +kernel, rfl, rfl⟩ ?_
  refine mA ⟨by decide +kernel, rfl, rfl⟩ ?_
  refine mA ⟨by decide +kernel, rfl, rfl⟩ ?_
  refine mA ⟨by decide +kernel, rfl, rfl⟩ ?_
  refine mA ⟨by decide +kernel, rfl, RX9, TX9, 25, rfl, by decide +kernel, mIn_wsX90, Or.inl q385⟩ ?_
  refine mA ⟨by decide +kernel, rfl, rfl⟩ ?_
  refine mA ⟨by decide +kernel, rfl, RX9, TX9, 25, rfl, by decide +kernel, mIn_wsX90, Or.inl q500⟩ ?_
  refine mA ⟨by decide +kernel, rfl, rfl⟩ ?_
  refine mA ⟨by decide +kernel, rfl, rfl⟩ ?_
  refine mA ⟨by decide +kernel, rfl, rfl, ⟨TX9, 25, rfl⟩, q435, cV108⟩ ?_
  refine mA ⟨by decide +kernel, rfl⟩ ?_
  refine mA ⟨by decide +kernel, rfl, rfl, ⟨TX9, 25, rfl⟩, q505, cV134⟩ ?_
  refine mA ⟨by decide +kernel, rfl, rfl, by decide +kernel⟩ ?_
  refine mA ⟨by decide +kernel, rfl, by decide +kernel⟩ ?_
  refine mA ⟨by decide +kernel, rfl, rfl⟩ ?_
  exact trivial
set_option maxRecDepth 100000 in
set_option maxHeartbeats 4000000 in
theorem okX9_openTens : mAllOk (mMt0 136) tbX9_openTens := by
  rw [mtX9_openTens]
  unfold tbX9_openTens
  refine mA ⟨by decide +kernel, rfl, rfl⟩ ?_
  refine mA ⟨by decide +kernel, rfl, by decide +kernel⟩ ?_
  refine mA ⟨by decide +kernel, rfl, rfl, ⟨TX9, 25, rfl⟩, q501, cV133⟩ ?_
  refine mA ⟨by decide +kernel, rfl⟩ ?_
  refine mA ⟨by decide +kernel, rfl, rfl⟩ ?_
  refine mA ⟨by decide +kernel, rfl, rfl⟩ ?_
  refine mA ⟨by decide +kernel, rfl, RX9, TX9, 25, rfl, by decide +kernel, mIn_wsX90, Or.inl q495⟩ ?_
  refine mA ⟨by decide +kernel, rfl, rfl⟩ ?_
  refine mA ⟨by decide +kernel, rfl, rfl⟩ ?_
  refine mA ⟨by decide +kernel, rfl, by decide +kernel⟩ ?_
  refine mA ⟨by decide +kernel, rfl, rfl, ⟨TX9, 25, rfl⟩, q501, cV133⟩ ?_
  refine mA ⟨by decide +kernel, rfl⟩ ?_
  refine mA ⟨by decide +kernel, rfl, rfl⟩ ?_
  refine mA ⟨by decide +kernel, rfl, rfl⟩ ?_
  refine mA ⟨by decide +kernel, rfl, by decide +kernel⟩ ?_
  refine mA ⟨by decide +kernel, rfl, by decide +kernel⟩ ?_
  refine mA ⟨by decide +kernel, rfl, rfl⟩ ?_
  refine mA ⟨by decide +kernel, rfl, by decide +kernel⟩ ?_
  refine mA ⟨by decide +kernel, rfl, rfl⟩ ?_
  refine mA ⟨by decide +kernel, rfl, rfl, ⟨TX9, 25, rfl⟩, q496, cV132⟩ ?_
  refine mA ⟨by decide +kernel, rfl, by decide +kernel⟩ ?_
  refine mA ⟨by decide +kernel, rfl, rfl⟩ ?_
  refine mA ⟨by decide +kernel, rfl, by decide +kernel⟩ ?_
  refine mA ⟨by decide +kernel, rfl, rfl⟩ ?_
  refine mA ⟨by decide +kernel, rfl, rfl⟩ ?_
  refine mA ⟨by decide +kernel, rfl, rfl⟩ ?_
  refine mA ⟨by decide +kernel, rfl, by decide +kernel⟩ ?_
  refine mA ⟨by decide +kernel, rfl, rfl⟩ ?_
  refine mA ⟨by decide +kernel, rfl, RX9, TX9, 25, rfl, by decide +kernel, mIn_wsX90, Or.inl q493⟩ ?_
  refine mA ⟨by decide +kernel, rfl, by decide +kernel⟩ ?_
  refine mA ⟨by decide +kernel, rfl, rfl⟩ ?_
  refine mA ⟨by decide +kernel, rfl, RX9, TX9, 25, rfl, by decide +kernel, mIn_wsX90, Or.inl q495⟩ ?_
  refine mA ⟨by decide +kernel, rfl, rfl⟩ ?_
  refine mA ⟨by decide +kernel, rfl, rfl⟩ ?_
  refine mA ⟨by decide +kernel, rfl, rfl⟩ ?_
  refine mA ⟨by decide +kernel, rfl, rfl, ⟨TX9, 25, rfl⟩, q501, cV133⟩ ?_
  refine mA ⟨by decide +kernel, rfl, rfl⟩ ?_
  refine mA ⟨by decide +kernel, rfl, rfl⟩ ?_
  refine mA ⟨by decide +kernel, rfl, rfl⟩ ?_
  refine mA ⟨by decide +kernel, rfl, by decide +kernel⟩ ?_
  refine mA ⟨by decide +kernel, rfl⟩ ?_
  refine mA ⟨by decide +kernel, rfl, by decide +kernel⟩ ?_
  refine mA ⟨by decide +kernel, rfl⟩ ?_
  refine mA ⟨by decide +kernel, rfl, by decide +kernel⟩ ?_
  refine mA ⟨by decide +kernel, rfl, rfl⟩ ?_
  refine mA ⟨by decide +kernel, rfl, by decide +kernel⟩ ?_
  refine mA ⟨by decide +kernel, rfl⟩ ?_
  refine mA ⟨by decide +kernel, rfl, by decide +kernel⟩ ?_
  refine mA ⟨by decide +kernel, rfl, rfl⟩ ?_
  refine mA ⟨by decide +kernel, rfl, by decide +kernel⟩ ?_
  refine mA ⟨by decide +kernel, rfl⟩ ?_
  refine mA ⟨by decide +kernel, rfl⟩ ?_
  refine mA ⟨by decide +kernel, rfl, by decide +kernel⟩ ?_
  refine mA ⟨by decide +kernel, rfl⟩ ?_
  refine mA ⟨by decide +kernel, rfl⟩ ?_
  refine mA ⟨by decide +kernel, rfl, rfl⟩ ?_
  refine mA ⟨by decide +kernel, rfl, rfl⟩ ?_
  refine mA ⟨by decide +kernel, rfl, _, rfl, q410⟩ ?_
  refine mA ⟨by decide +kernel, rfl⟩ ?_
  refine mA ⟨by decide +kernel, rfl, by decide +kernel⟩ ?_
  refine mA ⟨by decide +kernel, rfl, rfl⟩ ?_
  refine mA ⟨by decide +kernel, rfl⟩ ?_
  refine mA ⟨by decide +kernel, rfl, _, rfl, q410⟩ ?_
  refine mA ⟨by decide +kernel, rfl⟩ ?_
  refine mA ⟨by decide +kernel, rfl, by decide +kernel⟩ ?_
  refine mA ⟨by decide +kernel, rfl, rfl⟩ ?_
  refine mA ⟨by decide +kernel, rfl, by decide +kernel⟩ ?_
  refine mA ⟨by decide +kernel, rfl, rfl⟩ ?_
  refine mA ⟨by decide +kernel, rfl, rfl, ⟨TX9, 25, rfl⟩, q496, cV132⟩ ?_
  refine mA ⟨by decide +kernel, rfl, rfl⟩ ?_
  refine mA ⟨by decide +kernel, rfl, RX9, TX9, 25, rfl, by decide +kernel, mIn_wsX90, Or.inl q493⟩ ?_
  refine mA ⟨by decide +kernel, rfl, by decide +kernel⟩ ?_
  refine mA ⟨by decide +kernel, rfl, rfl⟩ ?_
  refine mA ⟨by decide +kernel, rfl, rfl⟩ ?_
  refine mA ⟨by decide +kernel, rfl, rfl⟩ ?_
  refine mA ⟨by decide +kernel, rfl, q395, cS101⟩ ?_
  refine mA ⟨by decide +kernel, rfl, rfl, ⟨TX9, 25, rfl⟩, q505, cV134⟩ ?_
  refine mA ⟨by decide +kernel, rfl, rfl, by decide +kernel⟩ ?_
  refine mA ⟨by decide +kernel, rfl, by decide +kernel⟩ ?_
  refine mA ⟨by decide +kernel, rfl, rfl⟩ ?_
  exact trivial
set_option maxRecDepth 100000 in
set_option maxHeartbeats 4000000 in
theorem okX9_openParts : mAllOk (mMt0 137) tbX9_openParts := by
  rw [mtX9_openParts]
  unfold tbX9_openParts
  refine mA ⟨by decide +kernel, rfl, rfl⟩ ?_
  refine mA ⟨by decide +kernel, rfl, RX9, TX9, 25, rfl, by decide +kernel, mIn_wsX90, Or.inl q386⟩ ?_
  refine mA ⟨by decide +kernel, rfl, by decide +kernel⟩ ?_
  refine mA ⟨by decide +kernel, rfl, rfl⟩ ?_
  refine mA ⟨by decide +kernel, rfl, by decide +kernel⟩ ?_
  refine mA ⟨by decide +kernel, rfl, rfl, ⟨TX9, 25, rfl⟩, q501, cV133⟩ ?_
  refine mA ⟨by decide +kernel, rfl⟩ ?_
  refine mA ⟨by decide +kernel, rfl, by decide +kernel⟩ ?_
  refine mA ⟨by decide +kernel, rfl, rfl⟩ ?_
  refine mA ⟨by decide +kernel, rfl, rfl⟩ ?_
  refine mA ⟨by decide +kernel, rfl, rfl⟩ ?_
  refine mA ⟨by decide +kernel, rfl, by decide +kernel⟩ ?_
  refine mA ⟨by decide +kernel, rfl, rfl⟩ ?_
  refine mA ⟨by decide +kernel, rfl, RX9, TX9, 25, rfl, by decide +kernel, mIn_wsX90, Or.inl q386⟩ ?_
  refine mA ⟨by decide +kernel, rfl, rfl⟩ ?_
  refine mA ⟨by decide +kernel, rfl, rfl⟩ ?_
  refine mA ⟨by decide +kernel, rfl, by decide +kernel⟩ ?_
  refine mA ⟨by decide +kernel, rfl, rfl, ⟨TX9, 25, rfl⟩, q501, cV133⟩ ?_
  refine mA ⟨by decide +kernel, rfl, by decide +kernel⟩ ?_
  refine mA ⟨by decide +kernel, rfl⟩ ?_
  refine mA ⟨by decide +kernel, rfl, by decide +kernel⟩ ?_
  refine mA ⟨by decide +kernel, rfl, rfl⟩ ?_
  refine mA ⟨by decide +kernel, rfl, RX9, TX9, 25, rfl, by decide +kernel, mIn_wsX90, Or.inl q386⟩ ?_
  refine mA ⟨by decide +kernel, rfl, rfl⟩ ?_
  refine mA ⟨by decide +kernel, rfl, by decide +kernel⟩ ?_
  refine mA ⟨by decide +kernel, rfl⟩ ?_
  refine mA ⟨by decide +kernel, rfl⟩ ?_
  refine mA ⟨by decide +kernel, rfl, by decide +kernel⟩ ?_
  refine mA ⟨by decide +kernel, rfl, rfl⟩ ?_
  refine mA ⟨by decide +kernel, rfl, by decide +kernel⟩ ?_
  refine mA ⟨by decide +kernel, rfl, rfl, ⟨TX9, 25, rfl⟩, q501, cV133⟩ ?_
  refine mA ⟨by decide +kernel, rfl⟩ ?_
  refine mA ⟨by decide +kernel, rfl, rfl, by decide +kernel⟩ ?_
  refine mA ⟨by decide +kernel, rfl, by decide +kernel⟩ ?_
  refine mA ⟨by decide +kernel, rfl, rfl⟩ ?_
  refine mA ⟨by decide +kernel, rfl, RX9, TX9, 25, rfl, by decide +kernel, mIn_wsX90, Or.inl q495⟩ ?_
  refine mA ⟨by decide +kernel, rfl, rfl⟩ ?_
  refine mA ⟨by decide +kernel, rfl, rfl⟩ ?_
  refine mA ⟨by decide +kernel, rfl, by decide +kernel⟩ ?_
  refine mA ⟨by decide +kernel, rfl, rfl, ⟨TX9, 25, rfl⟩, q501, cV133⟩ ?_
  refine mA ⟨by decide +kernel, rfl⟩ ?_
  refine mA ⟨by decide +kernel, rfl, rfl⟩ ?_
  refine mA ⟨by decide +kernel, rfl, rfl⟩ ?_
  refine mA ⟨by decide +kernel, rfl, by decide +kernel⟩ ?_
  refine mA ⟨by decide +kernel, rfl, by decide +kernel⟩ ?_
  refine mA ⟨by decide +kernel, rfl, rfl⟩ ?_
  refine mA ⟨by decide +kernel, rfl, by decide +kernel⟩ ?_
  refine mA ⟨by decide +kernel, rfl, rfl⟩ ?_
  refine mA ⟨by decide +kernel, rfl, rfl, ⟨TX9, 25, rfl⟩, q496, cV132⟩ ?_
  refine mA ⟨by decide +kernel, rfl, by decide +kernel⟩ ?_
  refine mA ⟨by decide +kernel, rfl, rfl⟩ ?_
  refine mA ⟨by decide +kernel, rfl, rfl⟩ ?_
  refine mA ⟨by decide +kernel, rfl, rfl⟩ ?_
  refine mA ⟨by decide +kernel, rfl, by decide +kernel⟩ ?_
  refine mA ⟨by decide +kernel, rfl, rfl⟩ ?_
  refine mA ⟨by decide +kernel, rfl, RX9, TX9, 25, rfl, by decide +kernel, mIn_wsX90, Or.inl q493⟩ ?_
  refine mA ⟨by decide +kernel, rfl, by decide +kernel⟩ ?_
  refine mA ⟨by decide +kernel, rfl, rfl⟩ ?_
  refine mA ⟨by decide +kernel, rfl, by decide +kernel⟩ ?_
  refine mA ⟨by decide +kernel, rfl, rfl⟩ ?_
  refine mA ⟨by decide +kernel, rfl⟩ ?_
  refine mA ⟨by decide +kernel, rfl, rfl, ⟨TX9, 25, rfl⟩, q501, cV133⟩ ?_
  refine mA ⟨by decide +kernel, rfl, rfl⟩ ?_
  refine mA ⟨by decide +kernel, rfl, rfl⟩ ?_
  refine mA ⟨by decide +kernel, rfl, rfl⟩ ?_
  refine mA ⟨by decide +kernel, rfl, RX9, TX9, 25, rfl, by decide +kernel, mIn_wsX90, Or.inl q386⟩ ?_
  refine mA ⟨by decide +kernel, rfl, rfl⟩ ?_
  refine mA ⟨by decide +kernel, rfl⟩ ?_
  refine mA ⟨by decide +kernel, rfl, by decide +kernel⟩ ?_
  refine mA ⟨by decide +kernel, rfl⟩ ?_
  refine mA ⟨by decide +kernel, rfl, rfl⟩ ?_
  refine mA ⟨by decide +kernel, rfl, rfl⟩ ?_
  refine mA ⟨by decide +kernel, rfl⟩ ?_
  refine mA ⟨by decide +kernel, rfl⟩ ?_
  refine mA ⟨by decide +kernel, rfl, rfl, ⟨TX9, 25, rfl⟩, q505, cV134⟩ ?_
  refine mA ⟨by decide +kernel, rfl, rfl, by decide +kernel⟩ ?_
  refine mA ⟨by decide +kernel, rfl, by decide +kernel⟩ ?_
  refine mA ⟨by decide +kernel, rfl, rfl⟩ ?_
  exact trivial
set_option maxRecDepth 100000 in
set_option maxHeartbeats 4000000 in
theorem okX9_openBlock : mAllOk (mMt0 138) tbX9_openBlock := by
  rw [mtX9_openBlock]
  unfold tbX9_openBlock
  refine mA ⟨by decide +kernel, rfl, rfl⟩ ?_
  refine mA ⟨by decide +kernel, rfl, by decide +kernel⟩ ?_
  refine mA ⟨by decide +kernel, rfl, rfl, ⟨TX9, 25, rfl⟩, q501, cV133⟩ ?_
  refine mA ⟨by decide +kernel, rfl⟩ ?_
  refine mA ⟨by decide +kernel, rfl, rfl⟩ ?_
  refine mA ⟨by decide +kernel, rfl, rfl⟩ ?_
  refine mA ⟨by decide +kernel, rfl, RX9, TX9, 25, rfl, by decide +kernel, mIn_wsX90, Or.inl q493⟩ ?_
  refine mA ⟨by decide +kernel, rfl, by decide +kernel⟩ ?_
  refine mA ⟨by decide +kernel, rfl, rfl⟩ ?_
  refine mA ⟨by decide +kernel, rfl, rfl⟩ ?_
  refine mA ⟨by decide +kernel, rfl, by decide +kernel⟩ ?_
  refine mA ⟨by decide +kernel, rfl, by decide +kernel⟩ ?_
  refine mA ⟨by decide +kernel, rfl, rfl⟩ ?_
  refine mA ⟨by decide +kernel, rfl, rfl⟩ ?_
  refine mA ⟨by decide +kernel, rfl, rfl⟩ ?_
  refine mA ⟨by decide +kernel, rfl, by decide +kernel⟩ ?_
  refine mA ⟨by decide +kernel, rfl, rfl⟩ ?_
  refine mA ⟨by decide +kernel, rfl, RX9, TX9, 25, rfl, by decide +kernel, mIn_wsX90, Or.inl q493⟩ ?_
  refine mA ⟨by decide +kernel, rfl, by decide +kernel⟩ ?_
  refine mA ⟨by decide +kernel, rfl, rfl⟩ ?_
  refine mA ⟨by decide +kernel, rfl, rfl⟩ ?_
  refine mA ⟨by decide +kernel, rfl, by decide +kernel⟩ ?_
  refine mA ⟨by decide +kernel, rfl, rfl, ⟨TX9, 25, rfl⟩, q501, cV133⟩ ?_
  refine mA ⟨by decide +kernel, rfl, rfl, ⟨TX9, 25, rfl⟩, q505, cV134⟩ ?_
  refine mA ⟨by decide +kernel, rfl, rfl, by decide +kernel⟩ ?_
  refine mA ⟨by decide +kernel, rfl, by decide +kernel⟩ ?_
  refine mA ⟨by decide +kernel, rfl, by decide +kernel⟩ ?_
  refine mA ⟨by decide +kernel, rfl, rfl⟩ ?_
  refine mA ⟨by decide +kernel, rfl, by decide +kernel⟩ ?_
  refine mA ⟨by decide +kernel, rfl, by decide +kernel⟩ ?_
  refine mA ⟨by decide +kernel, rfl, rfl⟩ ?_
  refine mA ⟨by decide +kernel, rfl, rfl⟩ ?_
  refine mA ⟨by decide +kernel, rfl, rfl, ⟨TX9, 25, rfl⟩, q509, cV136⟩ ?_
  refine mA ⟨by decide +kernel, rfl, by decide +kernel⟩ ?_
  refine mA ⟨by decide +kernel, rfl, rfl⟩ ?_
  refine mA ⟨by decide +kernel, rfl, by decide +kernel⟩ ?_
  refine mA ⟨by decide +kernel, rfl, by decide +kernel⟩ ?_
  refine mA ⟨by decide +kernel, rfl, rfl⟩ ?_
  refine mA ⟨by decide +kernel, rfl, rfl⟩ ?_
  refine mA ⟨by decide +kernel, rfl, rfl, ⟨TX9, 25, rfl⟩, q513, cV137⟩ ?_
  refine mA ⟨by decide +kernel, rfl, by decide +kernel⟩ ?_
  refine mA ⟨by decide +kernel, rfl, rfl⟩ ?_
  refine mA ⟨by decide +kernel, rfl, rfl⟩ ?_
  refine mA ⟨by decide +kernel, rfl, rfl⟩ ?_
  refine mA ⟨by decide +kernel, rfl, rfl, ⟨TX9, 25, rfl⟩, q517, cV135⟩ ?_
  refine mA ⟨by decide +kernel, rfl, rfl⟩ ?_
  exact trivial
set_option maxRecDepth 100000 in
set_option maxHeartbeats 4000000 in
theorem okX9_openEnd : mAllOk (mMt0 139) tbX9_openEnd := by
  rw [mtX9_openEnd]
  unfold tbX9_openEnd
  refine mA ⟨by decide +kernel, rfl, rfl⟩ ?_
  refine mA ⟨by decide +kernel, rfl, RX9, TX9, 25, rfl, by decide +kernel, mIn_wsX90, Or.inl q493⟩ ?_
  refine mA ⟨by decide +kernel, rfl, by decide +kernel⟩ ?_
  refine mA ⟨by decide +kernel, rfl, rfl⟩ ?_
  refine mA ⟨by decide +kernel, rfl, RX9, TX9, 25, rfl, by decide +kernel, mIn_wsX90, Or.inl q495⟩ ?_
  refine mA ⟨by decide +kernel, rfl, by decide +kernel⟩ ?_
  refine mA ⟨by decide +kernel, rfl⟩ ?_
  refine mA ⟨by decide +kernel, rfl, by decide +kernel⟩ ?_
  refine mA ⟨by decide +kernel, rfl, rfl⟩ ?_
  refine mA ⟨by decide +kernel, rfl, RX9, TX9, 25, rfl, by decide +kernel, mIn_wsX90, Or.inl q495⟩ ?_
  refine mA ⟨by decide +kernel, rfl, rfl⟩ ?_
  refine mA ⟨by decide +kernel, rfl, rfl⟩ ?_
  refine mA ⟨by decide +kernel, rfl, by decide +kernel⟩ ?_
  refine mA ⟨by decide +kernel, rfl, rfl, ⟨TX9, 25, rfl⟩, q501, cV133⟩ ?_
  refine mA ⟨by decide +kernel, rfl, by decide +kernel⟩ ?_
  refine mA ⟨by decide +kernel, rfl⟩ ?_
  refine mA ⟨by decide +kernel, rfl, by decide +kernel⟩ ?_
  refine mA ⟨by decide +kernel, rfl, rfl⟩ ?_
  refine mA ⟨by decide +kernel, rfl, by decide +kernel⟩ ?_
  refine mA ⟨by decide +kernel, rfl, rfl⟩ ?_
  refine mA ⟨by decide +kernel, rfl, rfl, ⟨TX9, 25, rfl⟩, q496, cV132⟩ ?_
  refine mA ⟨by decide +kernel, rfl, by decide +kernel⟩ ?_
  refine mA ⟨by decide +kernel, rfl, by decide +kernel⟩ ?_
  refine mA ⟨by decide +kernel, rfl, rfl⟩ ?_
  refine mA ⟨by decide +kernel, rfl, by decide +kernel⟩ ?_
  refine mA ⟨by decide +kernel, rfl, rfl⟩ ?_
  refine mA ⟨by decide +kernel, rfl, rfl⟩ ?_
  refine mA ⟨by decide +kernel, rfl, rfl⟩ ?_
  refine mA ⟨by decide +kernel, rfl, RX9, TX9, 25, rfl, by decide +kernel, mIn_wsX90, Or.inl q495⟩ ?_
  refine mA ⟨by decide +kernel, rfl, by decide +kernel⟩ ?_
  refine mA ⟨by decide +kernel, rfl⟩ ?_
  refine mA ⟨by decide +kernel, rfl, by decide +kernel⟩ ?_
  refine mA ⟨by decide +kernel, rfl, by decide +kernel⟩ ?_
  refine mA ⟨by decide +kernel, rfl, rfl⟩ ?_
  refine mA ⟨by decide +kernel, rfl⟩ ?_
  refine mA ⟨by decide +kernel, rfl, rfl⟩ ?_
  refine mA ⟨by decide +kernel, rfl, RX9, TX9, 25, rfl, by decide +kernel, mIn_wsX90, Or.inl q384⟩ ?_
  refine mA ⟨by decide +kernel, rfl, rfl⟩ ?_
  refine mA ⟨by decide +kernel, rfl⟩ ?_
  refine mA ⟨by decide +kernel, rfl, by decide +kernel⟩ ?_
  refine mA ⟨by decide +kernel, rfl⟩ ?_
  refine mA ⟨by decide +kernel, rfl⟩ ?_
  refine mA ⟨by decide +kernel, rfl, _, rfl, q491⟩ ?_
  refine mA ⟨by decide +kernel, rfl⟩ ?_
  refine mA ⟨by decide +kernel, rfl, rfl⟩ ?_
  refine mA ⟨by decide +kernel, rfl, rfl, by decide +kernel⟩ ?_
  refine mA ⟨by decide +kernel, rfl, by decide +kernel⟩ ?_
  refine mA ⟨by decide +kernel, rfl, rfl⟩ ?_
  refine mA ⟨by decide +kernel, rfl, RX9, TX9, 25, rfl, by decide +kernel, mIn_wsX90, Or.inl q495⟩ ?_
  refine mA ⟨by decide +kernel, rfl, rfl⟩ ?_
  refine mA ⟨by decide +kernel, rfl, rfl⟩ ?_
  refine mA ⟨by decide +kernel, rfl, by decide +kernel⟩ ?_
  refine mA ⟨by decide +kernel, rfl, rfl, ⟨TX9, 25, rfl⟩, q501, cV133⟩ ?_
  refine mA ⟨by decide +kernel, rfl⟩ ?_
  refine mA ⟨by decide +kernel, rfl, rfl⟩ ?_
  refine mA ⟨by decide +kernel, rfl, rfl⟩ ?_
  refine mA ⟨by decide +kernel, rfl, rfl⟩ ?_
  refine mA ⟨by decide +kernel, rfl, by decide +kernel⟩ ?_
  refine mA ⟨by decide +kernel, rfl, rfl⟩ ?_
  refine mA ⟨by decide +kernel, rfl, by decide +kernel⟩ ?_
  refine mA ⟨by decide +kernel, rfl, rfl⟩ ?_
  refine mA ⟨by decide +kernel, rfl, rfl, ⟨TX9, 25, rfl⟩, q496, cV132⟩ ?_
  refine mA ⟨by decide +kernel, rfl, rfl⟩ ?_
  refine mA ⟨by decide +kernel, rfl, RX9, TX9, 25, rfl, by decide +kernel, mIn_wsX90, Or.inl q495⟩ ?_
  refine mA ⟨by decide +kernel, rfl, by decide +kernel⟩ ?_
  refine mA ⟨by decide +kernel, rfl, rfl⟩ ?_
  refine mA ⟨by decide +kernel, rfl, RX9, TX9, 25, rfl, by decide +kernel, mIn_wsX90, Or.inl q492⟩ ?_
  refine mA ⟨by decide +kernel, rfl⟩ ?_
  refine mA ⟨by decide +kernel, rfl, by decide +kernel⟩ ?_
  refine mA ⟨by decide +kernel, rfl, rfl⟩ ?_
  refine mA ⟨by decide +kernel, rfl, by decide +kernel⟩ ?_
  refine mA ⟨by decide +kernel, rfl, rfl⟩ ?_
  refine mA ⟨by decide +kernel, rfl, RX9, TX9, 25, rfl, by decide +kernel, mIn_wsX90, Or.inl q495⟩ ?_
  refine mA ⟨by decide +kernel, rfl, rfl, ⟨TX9, 25, rfl⟩, q496, cV132⟩ ?_
  refine mA ⟨by decide +kernel, rfl, rfl⟩ ?_
  exact trivial
set_option maxRecDepth 100000 in
set_option maxHeartbeats 4000000 in
theorem okX9_open : mAllOk (mMt0 140) tbX9_open := by
  rw [mtX9_open]
  unfold tbX9_open
  refine mA ⟨by decide +kernel, rfl, rfl⟩ ?_
  refine mA ⟨by decide +kernel, rfl, by decide +kernel⟩ ?_
  refine mA ⟨by decide +kernel, rfl, RX9, TX9, 25, rfl, by decide +kernel, mIn_wsX90, Or.inl q388, rfl, Or.inl rfl⟩ ?_
  refine mA ⟨by decide +kernel, rfl, rfl⟩ ?_
  refine mA ⟨by decide +kernel, rfl, by decide +kernel⟩ ?_
  refine mA ⟨by decide +kernel, rfl, RX9, TX9, 25, rfl, by decide +kernel, mIn_wsX90, Or.inl q495, rfl, Or.inl rfl⟩ ?_
  refine mA ⟨by decide +kernel, rfl, rfl⟩ ?_
  refine mA ⟨by decide +kernel, rfl, by decide +kernel⟩ ?_
  refine mA ⟨by decide +kernel, rfl, RX9, TX9, 25, rfl, by decide +kernel, mIn_wsX90, Or.inl q493, rfl, Or.inl rfl⟩ ?_
  refine mA ⟨by decide +kernel, rfl, rfl⟩ ?_
  refine mA ⟨by decide +kernel, rfl, by decide +kernel⟩ ?_
  refine mA ⟨by decide +kernel, rfl, RX9, TX9, 25, rfl, by decide +kernel, mIn_wsX90, Or.inl q500, rfl, Or.inl rfl⟩ ?_
  refine mA ⟨by decide +kernel, rfl, rfl⟩ ?_
  refine mA ⟨by decide +kernel, rfl, rfl, ⟨TX9, 25, rfl⟩, q427, cV105⟩ ?_
  refine mA ⟨by decide +kernel, rfl, rfl⟩ ?_
  refine mA ⟨by decide +kernel, rfl, by decide +kernel⟩ ?_
  refine mA ⟨by decide +kernel, rfl, rfl, ⟨TX9, 25, rfl⟩, q501, cV133⟩ ?_
  refine mA ⟨by decide +kernel, rfl⟩ ?_
  refine mA ⟨by decide +kernel, rfl, rfl⟩ ?_
  refine mA ⟨by decide +kernel, rfl, rfl⟩ ?_
  refine mA ⟨by decide +kernel, rfl, by decide +kernel⟩ ?_
  refine mA ⟨by decide +kernel, rfl, by decide +kernel⟩ ?_
  refine mA ⟨by decide +kernel, rfl, rfl⟩ ?_
  refine mA ⟨by decide +kernel, rfl, by decide +kernel⟩ ?_
  refine mA ⟨by decide +kernel, rfl, by decide +kernel⟩ ?_
  refine mA ⟨by decide +kernel, rfl, rfl, ⟨TX9, 25, rfl⟩, q496, cV132⟩ ?_
  refine mA ⟨by decide +kernel, rfl, rfl⟩ ?_
  refine mA ⟨by decide +kernel, rfl, by decide +kernel⟩ ?_
  refine mA ⟨by decide +kernel, rfl, rfl, ⟨TX9, 25, rfl⟩, q501, cV133⟩ ?_
  refine mA ⟨by decide +kernel, rfl⟩ ?_
  refine mA ⟨by decide +kernel, rfl, rfl⟩ ?_
  refine mA ⟨by decide +kernel, rfl, rfl⟩ ?_
  refine mA ⟨by decide +kernel, rfl, by decide +kernel⟩ ?_
  refine mA ⟨by decide +kernel, rfl, by decide +kernel⟩ ?_
  refine mA ⟨by decide +kernel, rfl, rfl⟩ ?_
  refine mA ⟨by decide +kernel, rfl, by decide +kernel⟩ ?_
  refine mA ⟨by decide +kernel, rfl, by decide +kernel⟩ ?_
  refine mA ⟨by decide +kernel, rfl, rfl⟩ ?_
  refine mA ⟨by decide +kernel, rfl, by decide +kernel⟩ ?_
  refine mA ⟨by decide +kernel, rfl, by decide +kernel⟩ ?_
  refine mA ⟨by decide +kernel, rfl, rfl, ⟨TX9, 25, rfl⟩, q496, cV132⟩ ?_
  refine mA ⟨by decide +kernel, rfl, rfl⟩ ?_
  refine mA ⟨by decide +kernel, rfl, RX9, TX9, 25, rfl, by decide +kernel, mIn_wsX90, Or.inl q493⟩ ?_
  refine mA ⟨by decide +kernel, rfl, by decide +kernel⟩ ?_
  refine mA ⟨by decide +kernel, rfl, rfl⟩ ?_
  refine mA ⟨by decide +kernel, rfl, RX9, TX9, 25, rfl, by decide +kernel, mIn_wsX90, Or.inl q500⟩ ?_
  refine mA ⟨by decide +kernel, rfl, rfl⟩ ?_
  refine mA ⟨by decide +kernel, rfl, by decide +kernel⟩ ?_
  refine mA ⟨by decide +kernel, rfl, rfl⟩ ?_
  refine mA ⟨by decide +kernel, rfl, rfl⟩ ?_
  refine mA ⟨by decide +kernel, rfl, rfl⟩ ?_
  refine mA ⟨by decide +kernel, rfl, RX9, TX9, 25, rfl, by decide +kernel, mIn_wsX90, Or.inl q500⟩ ?_
  refine mA ⟨by decide +kernel, rfl⟩ ?_
  refine mA ⟨by decide +kernel, rfl, rfl⟩ ?_
  refine mA ⟨by decide +kernel, rfl, by decide +kernel⟩ ?_
  refine mA ⟨by decide +kernel, rfl, rfl⟩ ?_
  refine mA ⟨by decide +kernel, rfl, rfl⟩ ?_
  refine mA ⟨by decide +kernel, rfl, RX9, TX9, 25, rfl, by decide +kernel, mIn_wsX90, Or.inl q500⟩ ?_
  refine mA ⟨by decide +kernel, rfl⟩ ?_
  refine mA ⟨by decide +kernel, rfl, by decide +kernel⟩ ?_
  refine mA ⟨by decide +kernel, rfl, rfl⟩ ?_
  refine mA ⟨by decide +kernel, rfl, rfl, ⟨TX9, 25, rfl⟩, q521, cV138⟩ ?_
  refine mA ⟨by decide +kernel, rfl, by decide +kernel⟩ ?_
  refine mA ⟨by decide +kernel, rfl, rfl⟩ ?_
  refine mA ⟨by decide +kernel, rfl, RX9, TX9, 25, rfl, by decide +kernel, mIn_wsX90, Or.inl q493⟩ ?_
  refine mA ⟨by decide +kernel, rfl, by decide +kernel⟩ ?_
  refine mA ⟨by decide +kernel, rfl, rfl⟩ ?_
  refine mA ⟨by decide +kernel, rfl, rfl, ⟨TX9, 25, rfl⟩, q525, cV139⟩ ?_
  refine mA ⟨by decide +kernel, rfl, rfl⟩ ?_
  refine mA ⟨by decide +kernel, rfl, rfl⟩ ?_
  refine mA ⟨by decide +kernel, rfl, RX9, TX9, 25, rfl, by decide +kernel, mIn_wsX90, Or.inl q493⟩ ?_
  refine mA ⟨by decide +kernel, rfl, by decide +kernel⟩ ?_
  refine mA ⟨by decide +kernel, rfl, rfl⟩ ?_
  refine mA ⟨by decide +kernel, rfl, RX9, TX9, 25, rfl, by decide +kernel, mIn_wsX90, Or.inl q494⟩ ?_
  refine mA ⟨by decide +kernel, rfl, by decide +kernel⟩ ?_
  refine mA ⟨by decide +kernel, rfl, by decide +kernel⟩ ?_
  refine mA ⟨by decide +kernel, rfl, RX9, TX9, 25, rfl, by decide +kernel, mIn_wsX90, Or.inl q387, rfl, Or.inl rfl⟩ ?_
  refine mA ⟨by decide +kernel, rfl, rfl⟩ ?_
  refine mA ⟨by decide +kernel, rfl, RX9, TX9, 25, rfl, by decide +kernel, mIn_wsX90, Or.inl q493⟩ ?_
  refine mA ⟨by decide +kernel, rfl, by decide +kernel⟩ ?_
  refine mA ⟨by decide +kernel, rfl, rfl⟩ ?_
  refine mA ⟨by decide +kernel, rfl, RX9, TX9, 25, rfl, by decide +kernel, mIn_wsX90, Or.inl q493⟩ ?_
  refine mA ⟨by decide +kernel, rfl, rfl⟩ ?_
  refine mA ⟨by decide +kernel, rfl, by decide +kernel⟩ ?_
  refine mA ⟨by decide +kernel, rfl, rfl⟩ ?_
  refine mA ⟨by decide +kernel, rfl, rfl⟩ ?_
  refine mA ⟨by decide +kernel, rfl, rfl⟩ ?_
  refine mA ⟨by decide +kernel, rfl, by decide +kernel⟩ ?_
  refine mA ⟨by decide +kernel, rfl, rfl⟩ ?_
  refine mA ⟨by decide +kernel, rfl, RX9, TX9, 25, rfl, by decide +kernel, mIn_wsX90, Or.inl q375⟩ ?_
  refine mA ⟨by decide +kernel, rfl, rfl⟩ ?_
  refine mA ⟨by decide +kernel, rfl, rfl⟩ ?_
  refine mA ⟨by decide +kernel, rfl, RX9, TX9, 25, rfl, by decide +kernel, mIn_wsX90, Or.inl q385⟩ ?_
  refine mA ⟨by decide +kernel, rfl, rfl⟩ ?_
  refine mA ⟨by decide +kernel, rfl⟩ ?_
  refine mA ⟨by decide +kernel, rfl⟩ ?_
  refine mA ⟨by decide +kernel, rfl, rfl, by decide +kernel⟩ ?_
  refine mA ⟨by decide +kernel, rfl, by decide +kernel⟩ ?_
  refine mA ⟨by decide +kernel, rfl, rfl⟩ ?_
  refine mA ⟨by decide +kernel, rfl, rfl⟩ ?_
  refine mA ⟨by decide +kernel, rfl, RX9, TX9, 25, rfl, by decide +kernel, mIn_wsX90, Or.inl q389, rfl, Or.inl rfl⟩ ?_
  refine mA ⟨by decide +kernel, rfl, by decide +kernel⟩ ?_
  refine mA ⟨by decide +kernel, rfl, rfl⟩ ?_
  exact trivial
set_option maxRecDepth 100000 in
set_option maxHeartbeats 4000000 in
theorem okX9_place : mAllOk (mMt0 141) tbX9_place := by
  rw [mtX9_place]
  unfold tbX9_place
  refine mA ⟨by decide +kernel, rfl, rfl⟩ ?_
  refine mA ⟨by decide +kernel, rfl, by decide +kernel⟩ ?_
  refine mA ⟨by decide +kernel, rfl, RX9, TX9, 25, rfl, by decide +kernel, mIn_wsX90, Or.inl q388, rfl, Or.inl rfl⟩ ?_
  refine mA ⟨by decide +kernel, rfl, rfl⟩ ?_
  refine mA ⟨by decide +kernel, rfl, RX9, TX9, 25, rfl, by decide +kernel, mIn_wsX90, Or.inl q387⟩ ?_
  refine mA ⟨by decide +kernel, rfl, rfl⟩ ?_
  exact trivial
