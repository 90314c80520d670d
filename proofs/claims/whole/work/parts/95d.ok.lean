set_option maxRecDepth 100000 in
set_option maxHeartbeats 4000000 in
theorem okX4_init : mAllOk (mMt0 34) tbX4_init := by
  rw [mtX4_init]
  unfold tbX4_init
  refine mA ⟨by decide +kernel, rfl, rfl⟩ ?_
  refine mA ⟨by decide +kernel, rfl, q220, q1, q2⟩ ?_
  refine mA ⟨by decide +kernel, rfl, rfl⟩ ?_
  refine mA ⟨by decide +kernel, rfl, RX0, TX0, 2, rfl, rfl, by decide +kernel, mIn_wsX00, q221, q222, q11⟩ ?_
  refine mA ⟨by decide +kernel, rfl⟩ ?_
  refine mA ⟨by decide +kernel, rfl, by decide +kernel⟩ ?_
  refine mA ⟨by decide +kernel, rfl, rfl, rfl, Or.inl q223, cI0⟩ ?_
  refine mA ⟨by decide +kernel, rfl, RX4, TX4, 6, rfl, by decide +kernel, mIn_wsX40, Or.inl q226, Or.inl ⟨_, rfl⟩, Or.inr ⟨rfl, by decide +kernel, rfl, q226⟩⟩ ?_
  refine mA ⟨by decide +kernel, rfl, rfl⟩ ?_
  refine mA ⟨by decide +kernel, rfl, RX0, TX0, 2, rfl, rfl, by decide +kernel, mIn_wsX00, q221, q222, q11⟩ ?_
  refine mA ⟨by decide +kernel, rfl⟩ ?_
  refine mA ⟨by decide +kernel, rfl, by decide +kernel⟩ ?_
  refine mA ⟨by decide +kernel, rfl, rfl, rfl, Or.inl q223, cI0⟩ ?_
  refine mA ⟨by decide +kernel, rfl, RX4, TX4, 6, rfl, by decide +kernel, mIn_wsX40, Or.inl q227, Or.inl ⟨_, rfl⟩, Or.inr ⟨rfl, by decide +kernel, rfl, q227⟩⟩ ?_
  refine mA ⟨by decide +kernel, rfl, rfl⟩ ?_
  refine mA ⟨by decide +kernel, rfl, RX3, TX3, 5, rfl, rfl, by decide +kernel, mIn_wsX30, q228, q229, q166⟩ ?_
  refine mA ⟨by decide +kernel, rfl⟩ ?_
  refine mA ⟨by decide +kernel, rfl, rfl, rfl, Or.inr (by decide +kernel), cI23⟩ ?_
  refine mA ⟨by decide +kernel, rfl, RX4, TX4, 6, rfl, by decide +kernel, mIn_wsX40, Or.inl q232, Or.inl ⟨_, rfl⟩, Or.inr ⟨rfl, by decide +kernel, rfl, q232⟩⟩ ?_
  refine mA ⟨by decide +kernel, rfl, rfl⟩ ?_
  refine mA ⟨by decide +kernel, rfl, by decide +kernel⟩ ?_
  refine mA ⟨by decide +kernel, rfl, q8⟩ ?_
  refine mA ⟨by decide +kernel, rfl, RX4, TX4, 6, rfl, by decide +kernel, mIn_wsX40, Or.inl q233, Or.inr ⟨_, rfl⟩, Or.inr ⟨rfl, by decide +kernel, rfl, q233⟩⟩ ?_
  refine mA ⟨by decide +kernel, rfl, rfl⟩ ?_
  refine mA ⟨by decide +kernel, rfl, by decide +kernel⟩ ?_
  refine mA ⟨by decide +kernel, rfl, q8⟩ ?_
  refine mA ⟨by decide +kernel, rfl, RX4, TX4, 6, rfl, by decide +kernel, mIn_wsX40, Or.inl q234, Or.inr ⟨_, rfl⟩, Or.inr ⟨rfl, by decide +kernel, rfl, q234⟩⟩ ?_
  refine mA ⟨by decide +kernel, rfl, rfl⟩ ?_
  refine mA ⟨by decide +kernel, rfl, by decide +kernel⟩ ?_
  refine mA ⟨by decide +kernel, rfl, RX4, TX4, 6, rfl, by decide +kernel, mIn_wsX40, Or.inl q235, rfl, Or.inl rfl⟩ ?_
  refine mA ⟨by decide +kernel, rfl, rfl⟩ ?_
  exact trivial
set_option maxRecDepth 100000 in
set_option maxHeartbeats 4000000 in
theorem okX4_begin : mAllOk (mMt0 35) tbX4_begin := by
  rw [mtX4_begin]
  unfold tbX4_begin
  refine mA ⟨by decide +kernel, rfl, rfl⟩ ?_
  refine mA ⟨by decide +kernel, rfl, RX4, TX4, 6, rfl, by decide +kernel, mIn_wsX40, Or.inl q226⟩ ?_
  refine mA ⟨by decide +kernel, rfl, rfl, ⟨TX0, 2, rfl⟩, q236, cV1⟩ ?_
  refine mA ⟨by decide +kernel, rfl, rfl⟩ ?_
  refine mA ⟨by decide +kernel, rfl, by decide +kernel⟩ ?_
  refine mA ⟨by decide +kernel, rfl, RX4, TX4, 6, rfl, by decide +kernel, mIn_wsX40, Or.inl q235, rfl, Or.inl rfl⟩ ?_
  refine mA ⟨by decide +kernel, rfl, rfl⟩ ?_
  refine mA ⟨by decide +kernel, rfl, RX4, TX4, 6, rfl, by decide +kernel, mIn_wsX40, Or.inl q226⟩ ?_
  refine mA ⟨by decide +kernel, rfl, rfl⟩ ?_
  refine mA ⟨by decide +kernel, rfl⟩ ?_
  refine mA ⟨by decide +kernel, rfl, by decide +kernel⟩ ?_
  refine mA ⟨by decide +kernel, rfl, rfl, ⟨TX0, 2, rfl⟩, q237, cV3⟩ ?_
  refine mA ⟨by decide +kernel, rfl, rfl⟩ ?_
  refine mA ⟨by decide +kernel, rfl, RX4, TX4, 6, rfl, by decide +kernel, mIn_wsX40, Or.inl q226⟩ ?_
  refine mA ⟨by decide +kernel, rfl, rfl⟩ ?_
  refine mA ⟨by decide +kernel, rfl⟩ ?_
  refine mA ⟨by decide +kernel, rfl, by decide +kernel⟩ ?_
  refine mA ⟨by decide +kernel, rfl, rfl, ⟨TX0, 2, rfl⟩, q237, cV3⟩ ?_
  refine mA ⟨by decide +kernel, rfl, rfl⟩ ?_
  exact trivial
set_option maxRecDepth 100000 in
set_option maxHeartbeats 4000000 in
theorem okX4_packBlock : mAllOk (mMt0 36) tbX4_packBlock := by
  rw [mtX4_packBlock]
  unfold tbX4_packBlock
  refine mA ⟨by decide +kernel, rfl, rfl⟩ ?_
  refine mA ⟨by decide +kernel, rfl, RX4, TX4, 6, rfl, by decide +kernel, mIn_wsX40, Or.inl q235⟩ ?_
  refine mA ⟨by decide +kernel, rfl, by decide +kernel⟩ ?_
  refine mA ⟨by decide +kernel, rfl, by decide +kernel⟩ ?_
  refine mA ⟨by decide +kernel, rfl, rfl⟩ ?_
  refine mA ⟨by decide +kernel, rfl, rfl⟩ ?_
  refine mA ⟨by decide +kernel, rfl, RX4, TX4, 6, rfl, by decide +kernel, mIn_wsX40, Or.inl q232⟩ ?_
  refine mA ⟨by decide +kernel, rfl, rfl⟩ ?_
  refine mA ⟨by decide +kernel, rfl, rfl⟩ ?_
  refine mA ⟨by decide +kernel, rfl, rfl⟩ ?_
  refine mA ⟨by decide +kernel, rfl, rfl⟩ ?_
  refine mA ⟨by decide +kernel, rfl, RX4, TX4, 6, rfl, by decide +kernel, mIn_wsX40, Or.inl q227⟩ ?_
  refine mA ⟨by decide +kernel, rfl, rfl, ⟨TX3, 5, rfl⟩, q238, cV24⟩ ?_
  refine mA ⟨by decide +kernel, rfl, rfl⟩ ?_
  refine mA ⟨by decide +kernel, rfl, RX4, TX4, 6, rfl, by decide +kernel, mIn_wsX40, Or.inl q232⟩ ?_
  refine mA ⟨by decide +kernel, rfl, rfl⟩ ?_
  refine mA ⟨by decide +kernel, rfl, rfl⟩ ?_
  refine mA ⟨by decide +kernel, rfl, rfl⟩ ?_
  refine mA ⟨by decide +kernel, rfl, rfl, ⟨TX3, 5, rfl⟩, q242, cV25⟩ ?_
  refine mA ⟨by decide +kernel, rfl, by decide +kernel⟩ ?_
  refine mA ⟨by decide +kernel, rfl, rfl⟩ ?_
  refine mA ⟨by decide +kernel, rfl, _, rfl, q246⟩ ?_
  refine mA ⟨by decide +kernel, rfl, rfl⟩ ?_
  refine mA ⟨by decide +kernel, rfl, by decide +kernel⟩ ?_
  refine mA ⟨by decide +kernel, rfl, rfl⟩ ?_
  refine mA ⟨by decide +kernel, rfl, rfl⟩ ?_
  refine mA ⟨by decide +kernel, rfl, by decide +kernel⟩ ?_
  refine mA ⟨by decide +kernel, rfl, by decide +kernel⟩ ?_
  refine mA ⟨by decide +kernel, rfl, rfl⟩ ?_
  refine mA ⟨by decide +kernel, rfl, RX4, TX4, 6, rfl, by decide +kernel, mIn_wsX40, Or.inl q232⟩ ?_
  refine mA ⟨by decide +kernel, rfl, rfl⟩ ?_
  refine mA ⟨by decide +kernel, rfl, rfl⟩ ?_
  refine mA ⟨by decide +kernel, rfl, rfl⟩ ?_
  refine mA ⟨by decide +kernel, rfl, rfl⟩ ?_
  refine mA ⟨by decide +kernel, rfl, rfl⟩ ?_
  refine mA ⟨by decide +kernel, rfl, RX4, TX4, 6, rfl, by decide +kernel, mIn_wsX40, Or.inl q227⟩ ?_
  refine mA ⟨by decide +kernel, rfl, rfl, ⟨TX3, 5, rfl⟩, q247, cV27⟩ ?_
  refine mA ⟨by decide +kernel, rfl, rfl⟩ ?_
  refine mA ⟨by decide +kernel, rfl, rfl⟩ ?_
  refine mA ⟨by decide +kernel, rfl, RX4, TX4, 6, rfl, by decide +kernel, mIn_wsX40, Or.inl q233⟩ ?_
  refine mA ⟨by decide +kernel, rfl, rfl⟩ ?_
  refine mA ⟨by decide +kernel, rfl, RX4, TX4, 6, rfl, by decide +kernel, mIn_wsX40, Or.inl q235⟩ ?_
  refine mA ⟨by decide +kernel, rfl, by decide +kernel⟩ ?_
  refine mA ⟨by decide +kernel, rfl⟩ ?_
  refine mA ⟨by decide +kernel, rfl, rfl⟩ ?_
  refine mA ⟨by decide +kernel, rfl⟩ ?_
  refine mA ⟨by decide +kernel, rfl, rfl⟩ ?_
  refine mA ⟨by decide +kernel, rfl⟩ ?_
  refine mA ⟨by decide +kernel, rfl, rfl⟩ ?_
  refine mA ⟨by decide +kernel, rfl, by decide +kernel⟩ ?_
  refine mA ⟨by decide +kernel, rfl, by decide +kernel⟩ ?_
  refine mA ⟨by decide +kernel, rfl, rfl⟩ ?_
  refine mA ⟨by decide +kernel, rfl, rfl⟩ ?_
  refine mA ⟨by decide +kernel, rfl, by decide +kernel⟩ ?_
  refine mA ⟨by decide +kernel, rfl, rfl⟩ ?_
  refine mA ⟨by decide +kernel, rfl, rfl⟩ ?_
  refine mA ⟨by decide +kernel, rfl, rfl⟩ ?_
  refine mA ⟨by decide +kernel, rfl, rfl⟩ ?_
  refine mA ⟨by decide +kernel, rfl, rfl, by decide +kernel⟩ ?_
  refine mA ⟨by decide +kernel, rfl, by decide +kernel⟩ ?_
  refine mA ⟨by decide +kernel, rfl, rfl⟩ ?_
  refine mA ⟨by decide +kernel, rfl, RX4, TX4, 6, rfl, by decide +kernel, mIn_wsX40, Or.inl q234⟩ ?_
  refine mA ⟨by decide +kernel, rfl, rfl⟩ ?_
  refine mA ⟨by decide +kernel, rfl, RX4, TX4, 6, rfl, by decide +kernel, mIn_wsX40, Or.inl q235⟩ ?_
  refine mA ⟨by decide +kernel, rfl, rfl⟩ ?_
  refine mA ⟨by decide +kernel, rfl⟩ ?_
  refine mA ⟨by decide +kernel, rfl, rfl⟩ ?_
  refine mA ⟨by decide +kernel, rfl⟩ ?_
  refine mA ⟨by decide +kernel, rfl, RX4, TX4, 6, rfl, by decide +kernel, mIn_wsX40, Or.inl q235⟩ ?_
  refine mA ⟨by decide +kernel, rfl, by decide +kernel⟩ ?_
  refine mA ⟨by decide +kernel, rfl⟩ ?_
  refine mA ⟨by decide +kernel, rfl, RX4, TX4, 6, rfl, by decide +kernel, mIn_wsX40, Or.inl q235, rfl, Or.inl rfl⟩ ?_
  refine mA ⟨by decide +kernel, rfl, rfl⟩ ?_
  refine mA ⟨by decide +kernel, rfl, RX4, TX4, 6, rfl, by decide +kernel, mIn_wsX40, Or.inl q232⟩ ?_
  refine mA ⟨by decide +kernel, rfl, rfl⟩ ?_
  refine mA ⟨by decide +kernel, rfl, rfl⟩ ?_
  refine mA ⟨by decide +kernel, rfl, rfl⟩ ?_
  refine mA ⟨by decide +kernel, rfl, rfl⟩ ?_
  refine mA ⟨by decide +kernel, rfl, rfl⟩ ?_
  refine mA ⟨by decide +kernel, rfl, RX4, TX4, 6, rfl, by decide +kernel, mIn_wsX40, Or.inl q226⟩ ?_
  refine mA ⟨by decide +kernel, rfl, rfl, ⟨TX3, 5, rfl⟩, q247, cV27⟩ ?_
  refine mA ⟨by decide +kernel, rfl⟩ ?_
  refine mA ⟨by decide +kernel, rfl, rfl⟩ ?_
  exact trivial
set_option maxRecDepth 100000 in
set_option maxHeartbeats 4000000 in
theorem okX4_chosenWay : mAllOk (mMt0 37) tbX4_chosenWay := by
  rw [mtX4_chosenWay]
  unfold tbX4_chosenWay
  refine mA ⟨by decide +kernel, rfl, rfl⟩ ?_
  refine mA ⟨by decide +kernel, rfl, by decide +kernel⟩ ?_
  refine mA ⟨by decide +kernel, rfl, rfl⟩ ?_
  refine mA ⟨by decide +kernel, rfl, rfl⟩ ?_
  refine mA ⟨by decide +kernel, rfl, RX4, TX4, 6, rfl, by decide +kernel, mIn_wsX40, Or.inl q235⟩ ?_
  refine mA ⟨by decide +kernel, rfl, by decide +kernel⟩ ?_
  refine mA ⟨by decide +kernel, rfl, rfl⟩ ?_
  refine mA ⟨by decide +kernel, rfl, RX4, TX4, 6, rfl, by decide +kernel, mIn_wsX40, Or.inl q234⟩ ?_
  refine mA ⟨by decide +kernel, rfl, rfl⟩ ?_
  refine mA ⟨by decide +kernel, rfl⟩ ?_
  refine mA ⟨by decide +kernel, rfl, by decide +kernel⟩ ?_
  refine mA ⟨by decide +kernel, rfl, by decide +kernel⟩ ?_
  refine mA ⟨by decide +kernel, rfl, rfl⟩ ?_
  exact trivial
set_option maxRecDepth 100000 in
set_option maxHeartbeats 4000000 in
theorem okX4_bitsBy : mAllOk (mMt0 38) tbX4_bitsBy := by
  rw [mtX4_bitsBy]
  unfold tbX4_bitsBy
  refine mA ⟨by decide +kernel, rfl, rfl⟩ ?_
  refine mA ⟨by decide +kernel, rfl, by decide +kernel⟩ ?_
  refine mA ⟨by decide +kernel, rfl, rfl⟩ ?_
  refine mA ⟨by decide +kernel, rfl, rfl⟩ ?_
  refine mA ⟨by decide +kernel, rfl, RX4, TX4, 6, rfl, by decide +kernel, mIn_wsX40, Or.inl q235⟩ ?_
  refine mA ⟨by decide +kernel, rfl, by decide +kernel⟩ ?_
  refine mA ⟨by decide +kernel, rfl, rfl⟩ ?_
  refine mA ⟨by decide +kernel, rfl, by decide +kernel⟩ ?_
  refine mA ⟨by decide +kernel, rfl, rfl⟩ ?_
  refine mA ⟨by decide +kernel, rfl, by decide +kernel⟩ ?_
  refine mA ⟨by decide +kernel, rfl, by decide +kernel⟩ ?_
  refine mA ⟨by decide +kernel, rfl, by decide +kernel⟩ ?_
  refine mA ⟨by decide +kernel, rfl, by decide +kernel⟩ ?_
  refine mA ⟨by decide +kernel, rfl, by decide +kernel⟩ ?_
  refine mA ⟨by decide +kernel, rfl, rfl⟩ ?_
  refine mA ⟨by decide +kernel, rfl, rfl⟩ ?_
  refine mA ⟨by decide +kernel, rfl, by decide +kernel⟩ ?_
  refine mA ⟨by decide +kernel, rfl, rfl⟩ ?_
  refine mA ⟨by decide +kernel, rfl, RX4, TX4, 6, rfl, by decide +kernel, mIn_wsX40, Or.inl q233⟩ ?_
  refine mA ⟨by decide +kernel, rfl, rfl⟩ ?_
  refine mA ⟨by decide +kernel, rfl, by decide +kernel⟩ ?_
  refine mA ⟨by decide +kernel, rfl⟩ ?_
  refine mA ⟨by decide +kernel, rfl, rfl⟩ ?_
  refine mA ⟨by decide +kernel, rfl⟩ ?_
  refine mA ⟨by decide +kernel, rfl⟩ ?_
  refine mA ⟨by decide +kernel, rfl, by decide +kernel⟩ ?_
  refine mA ⟨by decide +kernel, rfl, by decide +kernel⟩ ?_
  refine mA ⟨by decide +kernel, rfl, rfl⟩ ?_
  exact trivial
set_option maxRecDepth 100000 in
set_option maxHeartbeats 4000000 in
theorem okX5_init : mAllOk (mMt0 39) tbX5_init := by
  rw [mtX5_init]
  unfold tbX5_init
  refine mA ⟨by decide +kernel, rfl, rfl⟩ ?_
  refine mA ⟨by decide +kernel, rfl, q251, q1, q2⟩ ?_
  refine mA ⟨by decide +kernel, rfl, rfl⟩ ?_
  refine mA ⟨by decide +kernel, rfl, by decide +kernel⟩ ?_
  refine mA ⟨by decide +kernel, rfl, q64⟩ ?_
  refine mA ⟨by decide +kernel, rfl, RX5, TX5, 8, rfl, by decide +kernel, mIn_wsX50, Or.inl q252, Or.inr ⟨_, rfl⟩, Or.inr ⟨rfl, by decide +kernel, rfl, q252⟩⟩ ?_
  refine mA ⟨by decide +kernel, rfl, rfl⟩ ?_
  refine mA ⟨by decide +kernel, rfl, by decide +kernel⟩ ?_
  refine mA ⟨by decide +kernel, rfl, RX5, TX5, 8, rfl, by decide +kernel, mIn_wsX50, Or.inl q253, rfl, Or.inl rfl⟩ ?_
  refine mA ⟨by decide +kernel, rfl, rfl⟩ ?_
  refine mA ⟨by decide +kernel, rfl, by decide +kernel⟩ ?_
  refine mA ⟨by decide +kernel, rfl, q64⟩ ?_
  refine mA ⟨by decide +kernel, rfl, RX5, TX5, 8, rfl, by decide +kernel, mIn_wsX50, Or.inl q254, Or.inr ⟨_, rfl⟩, Or.inr ⟨rfl, by decide +kernel, rfl, q254⟩⟩ ?_
  refine mA ⟨by decide +kernel, rfl, rfl⟩ ?_
  refine mA ⟨by decide +kernel, rfl, by decide +kernel⟩ ?_
  refine mA ⟨by decide +kernel, rfl, q64⟩ ?_
  refine mA ⟨by decide +kernel, rfl, RX5, TX5, 8, rfl, by decide +kernel, mIn_wsX50, Or.inl q255, Or.inr ⟨_, rfl⟩, Or.inr ⟨rfl, by decide +kernel, rfl, q255⟩⟩ ?_
  refine mA ⟨by decide +kernel, rfl, rfl⟩ ?_
  refine mA ⟨by decide +kernel, rfl, by decide +kernel⟩ ?_
  refine mA ⟨by decide +kernel, rfl, q64⟩ ?_
  refine mA ⟨by decide +kernel, rfl, RX5, TX5, 8, rfl, by decide +kernel, mIn_wsX50, Or.inl q256, Or.inr ⟨_, rfl⟩, Or.inr ⟨rfl, by decide +kernel, rfl, q256⟩⟩ ?_
  refine mA ⟨by decide +kernel, rfl, rfl⟩ ?_
  refine mA ⟨by decide +kernel, rfl, by decide +kernel⟩ ?_
  refine mA ⟨by decide +kernel, rfl, q64⟩ ?_
  refine mA ⟨by decide +kernel, rfl, RX5, TX5, 8, rfl, by decide +kernel, mIn_wsX50, Or.inl q257, Or.inr ⟨_, rfl⟩, Or.inr ⟨rfl, by decide +kernel, rfl, q257⟩⟩ ?_
  refine mA ⟨by decide +kernel, rfl, rfl⟩ ?_
  refine mA ⟨by decide +kernel, rfl, by decide +kernel⟩ ?_
  refine mA ⟨by decide +kernel, rfl, RX5, TX5, 8, rfl, by decide +kernel, mIn_wsX50, Or.inl q258, rfl, Or.inl rfl⟩ ?_
  refine mA ⟨by decide +kernel, rfl, rfl⟩ ?_
  refine mA ⟨by decide +kernel, rfl, by decide +kernel⟩ ?_
  refine mA ⟨by decide +kernel, rfl, RX5, TX5, 8, rfl, by decide +kernel, mIn_wsX50, Or.inl q259, rfl, Or.inl rfl⟩ ?_
  refine mA ⟨by decide +kernel, rfl, rfl⟩ ?_
  exact trivial
set_option maxRecDepth 100000 in
set_option maxHeartbeats 4000000 in
theorem okX5_empty : mAllOk (mMt0 40) tbX5_empty := by
  rw [mtX5_empty]
  unfold tbX5_empty
  refine mA ⟨by decide +kernel, rfl, rfl⟩ ?_
  refine mA ⟨by decide +kernel, rfl, by decide +kernel⟩ ?_
  refine mA ⟨by decide +kernel, rfl, RX5, TX5, 8, rfl, by decide +kernel, mIn_wsX50, Or.inl q253, rfl, Or.inl rfl⟩ ?_
  refine mA ⟨by decide +kernel, rfl, rfl⟩ ?_
  refine mA ⟨by decide +kernel, rfl, by decide +kernel⟩ ?_
  refine mA ⟨by decide +kernel, rfl, RX5, TX5, 8, rfl, by decide +kernel, mIn_wsX50, Or.inl q258, rfl, Or.inl rfl⟩ ?_
  refine mA ⟨by decide +kernel, rfl, rfl⟩ ?_
  refine mA ⟨by decide +kernel, rfl, by decide +kernel⟩ ?_
  refine mA ⟨by decide +kernel, rfl, RX5, TX5, 8, rfl, by decide +kernel, mIn_wsX50, Or.inl q259, rfl, Or.inl rfl⟩ ?_
  refine mA ⟨by decide +kernel, rfl, rfl⟩ ?_
  refine mA ⟨by decide +kernel, rfl, RX5, TX5, 8, rfl, by decide +kernel, mIn_wsX50, Or.inl q256⟩ ?_
  refine mA ⟨by decide +kernel, rfl, by decide +kernel⟩ ?_
  refine mA ⟨by decide +kernel, rfl, q260, cS146⟩ ?_
  refine mA ⟨by decide +kernel, rfl, rfl⟩ ?_
  refine mA ⟨by decide +kernel, rfl, RX5, TX5, 8, rfl, by decide +kernel, mIn_wsX50, Or.inl q257⟩ ?_
  refine mA ⟨by decide +kernel, rfl, by decide +kernel⟩ ?_
  refine mA ⟨by decide +kernel, rfl, q260, cS146⟩ ?_
  refine mA ⟨by decide +kernel, rfl, rfl⟩ ?_
  exact trivial
set_option maxRecDepth 100000 in
set_option maxHeartbeats 4000000 in
theorem okX5_append : mAllOk (mMt0 41) tbX5_append := by
  rw [mtX5_append]
  unfold tbX5_append
  refine mA ⟨by decide +kernel, rfl, rfl⟩ ?_
  refine mA ⟨by decide +kernel, rfl, RX5, TX5, 8, rfl, by decide +kernel, mIn_wsX50, Or.inl q253⟩ ?_
  refine mA ⟨by decide +kernel, rfl, by decide +kernel⟩ ?_
  refine mA ⟨by decide +kernel, rfl, by decide +kernel⟩ ?_
  refine mA ⟨by decide +kernel, rfl, rfl⟩ ?_
  refine mA ⟨by decide +kernel, rfl, rfl⟩ ?_
  refine mA ⟨by decide +kernel, rfl, rfl⟩ ?_
  refine mA ⟨by decide +kernel, rfl, rfl⟩ ?_
  refine mA ⟨by decide +kernel, rfl, RX5, TX5, 8, rfl, by decide +kernel, mIn_wsX50, Or.inl q253⟩ ?_
  refine mA ⟨by decide +kernel, rfl, by decide +kernel⟩ ?_
  refine mA ⟨by decide +kernel, rfl⟩ ?_
  refine mA ⟨by decide +kernel, rfl, rfl, ⟨TX5, 8, rfl⟩, q264, cV43⟩ ?_
  refine mA ⟨by decide +kernel, rfl⟩ ?_
  refine mA ⟨by decide +kernel, rfl, rfl⟩ ?_
  refine mA ⟨by decide +kernel, rfl, rfl⟩ ?_
  refine mA ⟨by decide +kernel, rfl, RX5, TX5, 8, rfl, by decide +kernel, mIn_wsX50, Or.inl q252⟩ ?_
  refine mA ⟨by decide +kernel, rfl, rfl⟩ ?_
  refine mA ⟨by decide +kernel, rfl, RX5, TX5, 8, rfl, by decide +kernel, mIn_wsX50, Or.inl q253⟩ ?_
  refine mA ⟨by decide +kernel, rfl, rfl⟩ ?_
  refine mA ⟨by decide +kernel, rfl⟩ ?_
  refine mA ⟨by decide +kernel, rfl, rfl⟩ ?_
  refine mA ⟨by decide +kernel, rfl⟩ ?_
  refine mA ⟨by decide +kernel, rfl, RX5, TX5, 8, rfl, by decide +kernel, mIn_wsX50, Or.inl q253⟩ ?_
  refine mA ⟨by decide +kernel, rfl, by decide +kernel⟩ ?_
  refine mA ⟨by decide +kernel, rfl⟩ ?_
  refine mA ⟨by decide +kernel, rfl, RX5, TX5, 8, rfl, by decide +kernel, mIn_wsX50, Or.inl q253, rfl, Or.inl rfl⟩ ?_
  refine mA ⟨by decide +kernel, rfl, rfl⟩ ?_
  refine mA ⟨by decide +kernel, rfl, RX5, TX5, 8, rfl, by decide +kernel, mIn_wsX50, Or.inl q256⟩ ?_
  refine mA ⟨by decide +kernel, rfl, rfl⟩ ?_
  refine mA ⟨by decide +kernel, rfl, RX5, TX5, 8, rfl, by decide +kernel, mIn_wsX50, Or.inl q258⟩ ?_
  refine mA ⟨by decide +kernel, rfl, rfl⟩ ?_
  refine mA ⟨by decide +kernel, rfl⟩ ?_
  refine mA ⟨by decide +kernel, rfl, rfl⟩ ?_
  refine mA ⟨by decide +kernel, rfl, rfl⟩ ?_
  refine mA ⟨by decide +kernel, rfl, RX5, TX5, 8, rfl, by decide +kernel, mIn_wsX50, Or.inl q258⟩ ?_
  refine mA ⟨by decide +kernel, rfl, rfl⟩ ?_
  refine mA ⟨by decide +kernel, rfl, q265, cS42⟩ ?_
  refine mA ⟨by decide +kernel, rfl, RX5, TX5, 8, rfl, by decide +kernel, mIn_wsX50, Or.inl q258, rfl, Or.inl rfl⟩ ?_
  refine mA ⟨by decide +kernel, rfl, rfl⟩ ?_
  refine mA ⟨by decide +kernel, rfl, RX5, TX5, 8, rfl, by decide +kernel, mIn_wsX50, Or.inl q254⟩ ?_
  refine mA ⟨by decide +kernel, rfl, rfl⟩ ?_
  refine mA ⟨by decide +kernel, rfl, RX5, TX5, 8, rfl, by decide +kernel, mIn_wsX50, Or.inl q253⟩ ?_
  refine mA ⟨by decide +kernel, rfl, rfl⟩ ?_
  refine mA ⟨by decide +kernel, rfl, RX5, TX5, 8, rfl, by decide +kernel, mIn_wsX50, Or.inl q256⟩ ?_
  refine mA ⟨by decide +kernel, rfl, rfl⟩ ?_
  refine mA ⟨by decide +kernel, rfl, RX5, TX5, 8, rfl, by decide +kernel, mIn_wsX50, Or.inl q258⟩ ?_
  refine mA ⟨by decide +kernel, rfl⟩ ?_
  refine mA ⟨by decide +kernel, rfl⟩ ?_
  refine mA ⟨by decide +kernel, rfl, rfl⟩ ?_
  refine mA ⟨by decide +kernel, rfl, RX5, TX5, 8, rfl, by decide +kernel, mIn_wsX50, Or.inl q257⟩ ?_
  refine mA ⟨by decide +kernel, rfl, rfl⟩ ?_
  refine mA ⟨by decide +kernel, rfl, RX5, TX5, 8, rfl, by decide +kernel, mIn_wsX50, Or.inl q259⟩ ?_
  refine mA ⟨by decide +kernel, rfl, rfl⟩ ?_
  refine mA ⟨by decide +kernel, rfl⟩ ?_
  refine mA ⟨by decide +kernel, rfl, rfl⟩ ?_
  refine mA ⟨by decide +kernel, rfl, rfl⟩ ?_
  refine mA ⟨by decide +kernel, rfl, RX5, TX5, 8, rfl, by decide +kernel, mIn_wsX50, Or.inl q259⟩ ?_
  refine mA ⟨by decide +kernel, rfl, rfl⟩ ?_
  refine mA ⟨by decide +kernel, rfl, q265, cS42⟩ ?_
  refine mA ⟨by decide +kernel, rfl, RX5, TX5, 8, rfl, by decide +kernel, mIn_wsX50, Or.inl q259, rfl, Or.inl rfl⟩ ?_
  refine mA ⟨by decide +kernel, rfl, rfl⟩ ?_
  refine mA ⟨by decide +kernel, rfl, RX5, TX5, 8, rfl, by decide +kernel, mIn_wsX50, Or.inl q255⟩ ?_
  refine mA ⟨by decide +kernel, rfl, rfl⟩ ?_
  refine mA ⟨by decide +kernel, rfl, RX5, TX5, 8, rfl, by decide +kernel, mIn_wsX50, Or.inl q253⟩ ?_
  refine mA ⟨by decide +kernel, rfl, rfl⟩ ?_
  refine mA ⟨by decide +kernel, rfl, RX5, TX5, 8, rfl, by decide +kernel, mIn_wsX50, Or.inl q257⟩ ?_
  refine mA ⟨by decide +kernel, rfl, rfl⟩ ?_
  refine mA ⟨by decide +kernel, rfl, RX5, TX5, 8, rfl, by decide +kernel, mIn_wsX50, Or.inl q259⟩ ?_
  refine mA ⟨by decide +kernel, rfl⟩ ?_
  refine mA ⟨by decide +kernel, rfl⟩ ?_
  refine mA ⟨by decide +kernel, rfl, rfl⟩ ?_
  exact trivial
set_option maxRecDepth 100000 in
set_option maxHeartbeats 4000000 in
theorem okX5_nextPlace : mAllOk (mMt0 42) tbX5_nextPlace := by
  rw [mtX5_nextPlace]
  unfold tbX5_nextPlace
  refine mA ⟨by decide +kernel, rfl, by decide +kernel⟩ ?_
  refine mA ⟨by decide +kernel, rfl, rfl⟩ ?_
  refine mA ⟨by decide +kernel, rfl⟩ ?_
  refine mA ⟨by decide +kernel, rfl, rfl⟩ ?_
  refine mA ⟨by decide +kernel, rfl, by decide +kernel⟩ ?_
  refine mA ⟨by decide +kernel, rfl⟩ ?_
  refine mA ⟨by decide +kernel, rfl⟩ ?_
  refine mA ⟨by decide +kernel, rfl⟩ ?_
  refine mA ⟨by decide +kernel, rfl, by decide +kernel⟩ ?_
  refine mA ⟨by decide +kernel, rfl⟩ ?_
  refine mA ⟨by decide +kernel, rfl, rfl⟩ ?_
  exact trivial
set_option maxRecDepth 100000 in
set_option maxHeartbeats 4000000 in
theorem okX5_valueOrZero : mAllOk (mMt0 43) tbX5_valueOrZero := by
  rw [mtX5_valueOrZero]
  unfold tbX5_valueOrZero
  refine mA ⟨by decide +kernel, rfl, rfl⟩ ?_
  refine mA ⟨by decide +kernel, rfl, by decide +kernel⟩ ?_
  refine mA ⟨by decide +kernel, rfl, rfl⟩ ?_
  refine mA ⟨by decide +kernel, rfl, rfl⟩ ?_
  refine mA ⟨by decide +kernel, rfl, RX5, TX5, 8, rfl, by decide +kernel, mIn_wsX50, Or.inl q253⟩ ?_
  refine mA ⟨by decide +kernel, rfl, by decide +kernel⟩ ?_
  refine mA ⟨by decide +kernel, rfl, rfl⟩ ?_
  refine mA ⟨by decide +kernel, rfl, RX5, TX5, 8, rfl, by decide +kernel, mIn_wsX50, Or.inl q252⟩ ?_
  refine mA ⟨by decide +kernel, rfl, rfl⟩ ?_
  refine mA ⟨by decide +kernel, rfl⟩ ?_
  refine mA ⟨by decide +kernel, rfl, by decide +kernel⟩ ?_
  refine mA ⟨by decide +kernel, rfl, by decide +kernel⟩ ?_
  refine mA ⟨by decide +kernel, rfl, rfl⟩ ?_
  exact trivial
theorem swX5_guess_15 : okI (mMt0 44).1.cls mTs mMt0 ((mMt0 44).1.name == "<init>") (mMt0 44).2.2.2.1 (mMt0 44).2.1 15 (.tableswitch 81 1 4 #[29, 37, 45, 74]) 29 [1, 44, 2, 52, 3, 60, 4, 89, 96] .null := mSw_ok (lo := 1) (n := 4) (dflt := 96) (tg := [44, 52, 60, 89]) rfl rfl (by decide) (by decide) (by decide) (by decide) (by
  intro j hj
  match j, hj with
  | 0, _ => exact ⟨_, rfl, _, rfl, by decide⟩
  | 1, _ => exact ⟨_, rfl, _, rfl, by decide⟩
  | 2, _ => exact ⟨_, rfl, _, rfl, by decide⟩
  | 3, _ => exact ⟨_, rfl, _, rfl, by decide⟩
  | j + 4, hj => omega)
set_option maxRecDepth 100000 in
set_option maxHeartbeats 4000000 in
theorem okX5_guess : mAllOk (mMt0 44) tbX5_guess := by
  rw [mtX5_guess]
  unfold tbX5_guess
  refine mA ⟨by decide +kernel, rfl, rfl⟩ ?_
  refine mA ⟨by decide +kernel, rfl, by decide +kernel⟩ ?_
  refine mA ⟨by decide +kernel, rfl, rfl⟩ ?_
  refine mA ⟨by decide +kernel, rfl, rfl⟩ ?_
  refine mA ⟨by decide +kernel, rfl, RX5, TX5, 8, rfl, by decide +kernel, mIn_wsX50, Or.inl q253⟩ ?_
  refine mA ⟨by decide +kernel, rfl, by decide +kernel⟩ ?_
  refine mA ⟨by decide +kernel, rfl, by decide +kernel⟩ ?_
  refine mA ⟨by decide +kernel, rfl, rfl⟩ ?_
  refine mA ⟨by decide +kernel, rfl, rfl⟩ ?_
  refine mA ⟨by decide +kernel, swX5_guess_15⟩ ?_
  refine mA ⟨by decide +kernel, rfl, rfl⟩ ?_
  refine mA ⟨by decide +kernel, rfl, rfl⟩ ?_
  refine mA ⟨by decide +kernel, rfl, by decide +kernel⟩ ?_
  refine mA ⟨by decide +kernel, rfl⟩ ?_
  refine mA ⟨by decide +kernel, rfl, rfl, ⟨TX5, 8, rfl⟩, q264, cV43⟩ ?_
  refine mA ⟨by decide +kernel, rfl, rfl⟩ ?_
  refine mA ⟨by decide +kernel, rfl, rfl⟩ ?_
  refine mA ⟨by decide +kernel, rfl, rfl⟩ ?_
  refine mA ⟨by decide +kernel, rfl, rfl⟩ ?_
  refine mA ⟨by decide +kernel, rfl⟩ ?_
  refine mA ⟨by decide +kernel, rfl, rfl, ⟨TX5, 8, rfl⟩, q264, cV43⟩ ?_
  refine mA ⟨by decide +kernel, rfl, rfl⟩ ?_
  refine mA ⟨by decide +kernel, rfl, _, rfl, q268⟩ ?_
  refine mA ⟨by decide +kernel, rfl, rfl⟩ ?_
  refine mA ⟨by decide +kernel, rfl, rfl⟩ ?_
  refine mA ⟨by decide +kernel, rfl, by decide +kernel⟩ ?_
  refine mA ⟨by decide +kernel, rfl⟩ ?_
  refine mA ⟨by decide +kernel, rfl, rfl, ⟨TX5, 8, rfl⟩, q264, cV43⟩ ?_
  refine mA ⟨by decide +kernel, rfl, rfl, by decide +kernel, cS84⟩ ?_
  refine mA ⟨by decide +kernel, rfl⟩ ?_
  refine mA ⟨by decide +kernel, rfl, rfl⟩ ?_
  refine mA ⟨by decide +kernel, rfl, rfl⟩ ?_
  refine mA ⟨by decide +kernel, rfl, by decide +kernel⟩ ?_
  refine mA ⟨by decide +kernel, rfl⟩ ?_
  refine mA ⟨by decide +kernel, rfl, rfl, ⟨TX5, 8, rfl⟩, q264, cV43⟩ ?_
  refine mA ⟨by decide +kernel, rfl, rfl, by decide +kernel, cS84⟩ ?_
  refine mA ⟨by decide +kernel, rfl⟩ ?_
  refine mA ⟨by decide +kernel, rfl, rfl, by decide +kernel, cS84⟩ ?_
  refine mA ⟨by decide +kernel, rfl, rfl⟩ ?_
  refine mA ⟨by decide +kernel, rfl, rfl⟩ ?_
  refine mA ⟨by decide +kernel, rfl, RX5, TX5, 8, rfl, by decide +kernel, mIn_wsX50, Or.inl q254⟩ ?_
  refine mA ⟨by decide +kernel, rfl, rfl⟩ ?_
  refine mA ⟨by decide +kernel, rfl⟩ ?_
  refine mA ⟨by decide +kernel, rfl, rfl⟩ ?_
  refine mA ⟨by decide +kernel, rfl, rfl⟩ ?_
  refine mA ⟨by decide +kernel, rfl, rfl⟩ ?_
  refine mA ⟨by decide +kernel, rfl, by decide +kernel⟩ ?_
  refine mA ⟨by decide +kernel, rfl⟩ ?_
  refine mA ⟨by decide +kernel, rfl, rfl, ⟨TX5, 8, rfl⟩, q264, cV43⟩ ?_
  refine mA ⟨by decide +kernel, rfl, rfl⟩ ?_
  refine mA ⟨by decide +kernel, rfl, RX5, TX5, 8, rfl, by decide +kernel, mIn_wsX50, Or.inl q255⟩ ?_
  refine mA ⟨by decide +kernel, rfl, rfl⟩ ?_
  refine mA ⟨by decide +kernel, rfl⟩ ?_
  refine mA ⟨by decide +kernel, rfl⟩ ?_
  refine mA ⟨by decide +kernel, rfl, rfl⟩ ?_
  exact trivial
