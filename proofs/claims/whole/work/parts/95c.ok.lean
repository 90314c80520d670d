set_option maxRecDepth 100000 in
set_option maxHeartbeats 4000000 in
theorem okX3_init : mAllOk (mMt0 23) tbX3_init := by
  rw [mtX3_init]
  unfold tbX3_init
  refine mA ⟨by decide +kernel, rfl, rfl⟩ ?_
  refine mA ⟨by decide +kernel, rfl, q153, q1, q2⟩ ?_
  refine mA ⟨by decide +kernel, rfl, rfl⟩ ?_
  refine mA ⟨by decide +kernel, rfl, RX7, TX7, 2, rfl, rfl, by decide +kernel, mIn_wsX70, q154, q59, q60⟩ ?_
  refine mA ⟨by decide +kernel, rfl⟩ ?_
  refine mA ⟨by decide +kernel, rfl, rfl, rfl, Or.inr (by decide +kernel), cI52⟩ ?_
  refine mA ⟨by decide +kernel, rfl, RX3, TX3, 5, rfl, by decide +kernel, mIn_wsX30, Or.inl q155, Or.inl ⟨_, rfl⟩, Or.inr ⟨rfl, by decide +kernel, rfl, q155⟩⟩ ?_
  refine mA ⟨by decide +kernel, rfl, rfl⟩ ?_
  refine mA ⟨by decide +kernel, rfl, by decide +kernel⟩ ?_
  refine mA ⟨by decide +kernel, rfl, q64⟩ ?_
  refine mA ⟨by decide +kernel, rfl, RX3, TX3, 5, rfl, by decide +kernel, mIn_wsX30, Or.inl q156, Or.inr ⟨_, rfl⟩, Or.inr ⟨rfl, by decide +kernel, rfl, q156⟩⟩ ?_
  refine mA ⟨by decide +kernel, rfl, rfl⟩ ?_
  refine mA ⟨by decide +kernel, rfl, by decide +kernel⟩ ?_
  refine mA ⟨by decide +kernel, rfl, RX3, TX3, 5, rfl, by decide +kernel, mIn_wsX30, Or.inl q157, rfl, Or.inl rfl⟩ ?_
  refine mA ⟨by decide +kernel, rfl, rfl⟩ ?_
  refine mA ⟨by decide +kernel, rfl, by decide +kernel⟩ ?_
  refine mA ⟨by decide +kernel, rfl, RX3, TX3, 5, rfl, by decide +kernel, mIn_wsX30, Or.inl q158, rfl, Or.inl rfl⟩ ?_
  refine mA ⟨by decide +kernel, rfl, rfl⟩ ?_
  refine mA ⟨by decide +kernel, rfl, by decide +kernel⟩ ?_
  refine mA ⟨by decide +kernel, rfl, RX3, TX3, 5, rfl, by decide +kernel, mIn_wsX30, Or.inl q159, rfl, Or.inl rfl⟩ ?_
  refine mA ⟨by decide +kernel, rfl, rfl⟩ ?_
  exact trivial
set_option maxRecDepth 100000 in
set_option maxHeartbeats 4000000 in
theorem okX3_planStride : mAllOk (mMt0 24) tbX3_planStride := by
  rw [mtX3_planStride]
  unfold tbX3_planStride
  refine mA ⟨by decide +kernel, rfl, _, rfl, q160⟩ ?_
  refine mA ⟨by decide +kernel, rfl, rfl⟩ ?_
  refine mA ⟨by decide +kernel, rfl, by decide +kernel⟩ ?_
  refine mA ⟨by decide +kernel, rfl, rfl⟩ ?_
  refine mA ⟨by decide +kernel, rfl, by decide +kernel⟩ ?_
  refine mA ⟨by decide +kernel, rfl, rfl⟩ ?_
  refine mA ⟨by decide +kernel, rfl, rfl⟩ ?_
  refine mA ⟨by decide +kernel, rfl, by decide +kernel⟩ ?_
  refine mA ⟨by decide +kernel, rfl, by decide +kernel⟩ ?_
  refine mA ⟨by decide +kernel, rfl, rfl⟩ ?_
  refine mA ⟨by decide +kernel, rfl, rfl, ⟨TX0, 2, rfl⟩, q161, cV1⟩ ?_
  refine mA ⟨by decide +kernel, rfl, rfl⟩ ?_
  refine mA ⟨by decide +kernel, rfl, rfl⟩ ?_
  refine mA ⟨by decide +kernel, rfl, rfl⟩ ?_
  refine mA ⟨by decide +kernel, rfl, rfl⟩ ?_
  refine mA ⟨by decide +kernel, rfl, by decide +kernel⟩ ?_
  refine mA ⟨by decide +kernel, rfl, rfl⟩ ?_
  refine mA ⟨by decide +kernel, rfl, rfl⟩ ?_
  refine mA ⟨by decide +kernel, rfl, rfl, ⟨TX3, 5, rfl⟩, q165, cV29⟩ ?_
  refine mA ⟨by decide +kernel, rfl, rfl⟩ ?_
  refine mA ⟨by decide +kernel, rfl, RX0, TX0, 2, rfl, by decide +kernel, mIn_wsX00, Or.inr (by decide +kernel)⟩ ?_
  refine mA ⟨by decide +kernel, rfl, rfl⟩ ?_
  refine mA ⟨by decide +kernel, rfl, by decide +kernel⟩ ?_
  refine mA ⟨by decide +kernel, rfl, rfl⟩ ?_
  refine mA ⟨by decide +kernel, rfl, rfl⟩ ?_
  refine mA ⟨by decide +kernel, rfl, rfl⟩ ?_
  refine mA ⟨by decide +kernel, rfl, RX0, TX0, 2, rfl, by decide +kernel, mIn_wsX00, Or.inr (by decide +kernel)⟩ ?_
  refine mA ⟨by decide +kernel, rfl, rfl⟩ ?_
  refine mA ⟨by decide +kernel, rfl, rfl, by decide +kernel⟩ ?_
  refine mA ⟨by decide +kernel, rfl, by decide +kernel⟩ ?_
  refine mA ⟨by decide +kernel, rfl, rfl⟩ ?_
  refine mA ⟨by decide +kernel, rfl, rfl⟩ ?_
  refine mA ⟨by decide +kernel, rfl, RX3, TX3, 5, rfl, by decide +kernel, mIn_wsX30, Or.inl q157, rfl, Or.inl rfl⟩ ?_
  refine mA ⟨by decide +kernel, rfl, rfl⟩ ?_
  exact trivial
set_option maxRecDepth 100000 in
set_option maxHeartbeats 4000000 in
theorem okX3_planDecimal : mAllOk (mMt0 25) tbX3_planDecimal := by
  rw [mtX3_planDecimal]
  unfold tbX3_planDecimal
  refine mA ⟨by decide +kernel, rfl, rfl⟩ ?_
  refine mA ⟨by decide +kernel, rfl, by decide +kernel⟩ ?_
  refine mA ⟨by decide +kernel, rfl, RX3, TX3, 5, rfl, by decide +kernel, mIn_wsX30, Or.inl q158, rfl, Or.inl rfl⟩ ?_
  refine mA ⟨by decide +kernel, rfl, by decide +kernel⟩ ?_
  refine mA ⟨by decide +kernel, rfl, rfl⟩ ?_
  refine mA ⟨by decide +kernel, rfl, rfl⟩ ?_
  refine mA ⟨by decide +kernel, rfl, by decide +kernel⟩ ?_
  refine mA ⟨by decide +kernel, rfl, by decide +kernel⟩ ?_
  refine mA ⟨by decide +kernel, rfl, rfl⟩ ?_
  refine mA ⟨by decide +kernel, rfl, rfl⟩ ?_
  refine mA ⟨by decide +kernel, rfl, rfl⟩ ?_
  refine mA ⟨by decide +kernel, rfl, rfl⟩ ?_
  refine mA ⟨by decide +kernel, rfl, rfl⟩ ?_
  refine mA ⟨by decide +kernel, rfl, rfl, ⟨TX3, 5, rfl⟩, q170, cV26⟩ ?_
  refine mA ⟨by decide +kernel, rfl, by decide +kernel⟩ ?_
  refine mA ⟨by decide +kernel, rfl, rfl⟩ ?_
  refine mA ⟨by decide +kernel, rfl, rfl⟩ ?_
  refine mA ⟨by decide +kernel, rfl, RX3, TX3, 5, rfl, by decide +kernel, mIn_wsX30, Or.inl q158, rfl, Or.inl rfl⟩ ?_
  refine mA ⟨by decide +kernel, rfl, rfl⟩ ?_
  refine mA ⟨by decide +kernel, rfl, rfl, by decide +kernel⟩ ?_
  refine mA ⟨by decide +kernel, rfl, by decide +kernel⟩ ?_
  refine mA ⟨by decide +kernel, rfl, rfl⟩ ?_
  exact trivial
set_option maxRecDepth 100000 in
set_option maxHeartbeats 4000000 in
theorem okX3_fold : mAllOk (mMt0 26) tbX3_fold := by
  rw [mtX3_fold]
  unfold tbX3_fold
  refine mA ⟨by decide +kernel, rfl, by decide +kernel⟩ ?_
  refine mA ⟨by decide +kernel, rfl, rfl⟩ ?_
  refine mA ⟨by decide +kernel, rfl, rfl⟩ ?_
  refine mA ⟨by decide +kernel, rfl, by decide +kernel⟩ ?_
  refine mA ⟨by decide +kernel, rfl, RX3, TX3, 5, rfl, by decide +kernel, mIn_wsX30, Or.inl q159, rfl, Or.inl rfl⟩ ?_
  refine mA ⟨by decide +kernel, rfl, rfl⟩ ?_
  refine mA ⟨by decide +kernel, rfl, rfl⟩ ?_
  refine mA ⟨by decide +kernel, rfl, rfl⟩ ?_
  refine mA ⟨by decide +kernel, rfl, rfl⟩ ?_
  refine mA ⟨by decide +kernel, rfl, by decide +kernel⟩ ?_
  refine mA ⟨by decide +kernel, rfl, rfl⟩ ?_
  refine mA ⟨by decide +kernel, rfl, rfl⟩ ?_
  refine mA ⟨by decide +kernel, rfl⟩ ?_
  refine mA ⟨by decide +kernel, rfl, by decide +kernel⟩ ?_
  refine mA ⟨by decide +kernel, rfl, by decide +kernel⟩ ?_
  refine mA ⟨by decide +kernel, rfl, rfl⟩ ?_
  refine mA ⟨by decide +kernel, rfl, rfl⟩ ?_
  refine mA ⟨by decide +kernel, rfl, rfl, ⟨TX5, 8, rfl⟩, q174, cV43⟩ ?_
  refine mA ⟨by decide +kernel, rfl, rfl⟩ ?_
  refine mA ⟨by decide +kernel, rfl, q178, cS8⟩ ?_
  refine mA ⟨by decide +kernel, rfl, rfl⟩ ?_
  refine mA ⟨by decide +kernel, rfl, rfl⟩ ?_
  refine mA ⟨by decide +kernel, rfl, _, rfl, q181⟩ ?_
  refine mA ⟨by decide +kernel, rfl⟩ ?_
  refine mA ⟨by decide +kernel, rfl, by decide +kernel⟩ ?_
  refine mA ⟨by decide +kernel, rfl, by decide +kernel⟩ ?_
  refine mA ⟨by decide +kernel, rfl, rfl⟩ ?_
  refine mA ⟨by decide +kernel, rfl, rfl⟩ ?_
  refine mA ⟨by decide +kernel, rfl, rfl⟩ ?_
  refine mA ⟨by decide +kernel, rfl⟩ ?_
  refine mA ⟨by decide +kernel, rfl, rfl⟩ ?_
  refine mA ⟨by decide +kernel, rfl, rfl⟩ ?_
  refine mA ⟨by decide +kernel, rfl, by decide +kernel⟩ ?_
  refine mA ⟨by decide +kernel, rfl⟩ ?_
  refine mA ⟨by decide +kernel, rfl, by decide +kernel⟩ ?_
  refine mA ⟨by decide +kernel, rfl, _, rfl, q182⟩ ?_
  refine mA ⟨by decide +kernel, rfl, rfl⟩ ?_
  refine mA ⟨by decide +kernel, rfl⟩ ?_
  refine mA ⟨by decide +kernel, rfl, by decide +kernel⟩ ?_
  refine mA ⟨by decide +kernel, rfl⟩ ?_
  refine mA ⟨by decide +kernel, rfl, by decide +kernel⟩ ?_
  refine mA ⟨by decide +kernel, rfl, _, rfl, q183⟩ ?_
  refine mA ⟨by decide +kernel, rfl, rfl⟩ ?_
  refine mA ⟨by decide +kernel, rfl⟩ ?_
  refine mA ⟨by decide +kernel, rfl, rfl⟩ ?_
  refine mA ⟨by decide +kernel, rfl, rfl⟩ ?_
  refine mA ⟨by decide +kernel, rfl, RX3, TX3, 5, rfl, by decide +kernel, mIn_wsX30, Or.inl q156⟩ ?_
  refine mA ⟨by decide +kernel, rfl, rfl⟩ ?_
  refine mA ⟨by decide +kernel, rfl, rfl⟩ ?_
  refine mA ⟨by decide +kernel, rfl⟩ ?_
  refine mA ⟨by decide +kernel, rfl, rfl⟩ ?_
  refine mA ⟨by decide +kernel, rfl⟩ ?_
  refine mA ⟨by decide +kernel, rfl, rfl⟩ ?_
  refine mA ⟨by decide +kernel, rfl, rfl⟩ ?_
  refine mA ⟨by decide +kernel, rfl, RX3, TX3, 5, rfl, by decide +kernel, mIn_wsX30, Or.inl q159⟩ ?_
  refine mA ⟨by decide +kernel, rfl, by decide +kernel⟩ ?_
  refine mA ⟨by decide +kernel, rfl, rfl⟩ ?_
  refine mA ⟨by decide +kernel, rfl, q184, cS144⟩ ?_
  refine mA ⟨by decide +kernel, rfl⟩ ?_
  refine mA ⟨by decide +kernel, rfl, q185, q5, q6, q7⟩ ?_
  refine mA ⟨by decide +kernel, rfl, RX3, TX3, 5, rfl, by decide +kernel, mIn_wsX30, Or.inl q159, rfl, Or.inl rfl⟩ ?_
  refine mA ⟨by decide +kernel, rfl, rfl⟩ ?_
  refine mA ⟨by decide +kernel, rfl, rfl⟩ ?_
  refine mA ⟨by decide +kernel, rfl, rfl, by decide +kernel⟩ ?_
  refine mA ⟨by decide +kernel, rfl, by decide +kernel⟩ ?_
  refine mA ⟨by decide +kernel, rfl, by decide +kernel⟩ ?_
  refine mA ⟨by decide +kernel, rfl, rfl⟩ ?_
  exact trivial
theorem swX3_write_35 : okI (mMt0 27).1.cls mTs mMt0 ((mMt0 27).1.name == "<init>") (mMt0 27).2.2.2.1 (mMt0 27).2.1 35 (.lookupswitch 78 #[(0, 33), (6, 45), (7, 57)]) 33 [0, 68, 6, 80, 7, 92, 113] .null := ⟨by decide, mSw_l3 (by decide) (by decide) (by decide) (by decide) (by decide) (by decide) (by decide)⟩
set_option maxRecDepth 100000 in
set_option maxHeartbeats 4000000 in
theorem okX3_write : mAllOk (mMt0 27) tbX3_write := by
  rw [mtX3_write]
  unfold tbX3_write
  refine mA ⟨by decide +kernel, rfl, rfl⟩ ?_
  refine mA ⟨by decide +kernel, rfl, by decide +kernel⟩ ?_
  refine mA ⟨by decide +kernel, rfl, by decide +kernel⟩ ?_
  refine mA ⟨by decide +kernel, rfl, rfl⟩ ?_
  refine mA ⟨by decide +kernel, rfl, RX3, TX3, 5, rfl, by decide +kernel, mIn_wsX30, Or.inl q158⟩ ?_
  refine mA ⟨by decide +kernel, rfl, by decide +kernel⟩ ?_
  refine mA ⟨by decide +kernel, rfl, by decide +kernel⟩ ?_
  refine mA ⟨by decide +kernel, rfl, by decide +kernel⟩ ?_
  refine mA ⟨by decide +kernel, rfl, rfl⟩ ?_
  refine mA ⟨by decide +kernel, rfl, rfl⟩ ?_
  refine mA ⟨by decide +kernel, rfl, RX0, TX0, 2, rfl, by decide +kernel, mIn_wsX00, Or.inr (by decide +kernel)⟩ ?_
  refine mA ⟨by decide +kernel, rfl, rfl⟩ ?_
  refine mA ⟨by decide +kernel, rfl, rfl⟩ ?_
  refine mA ⟨by decide +kernel, rfl, rfl⟩ ?_
  refine mA ⟨by decide +kernel, rfl⟩ ?_
  refine mA ⟨by decide +kernel, rfl, by decide +kernel⟩ ?_
  refine mA ⟨by decide +kernel, rfl, rfl, ⟨TX0, 2, rfl⟩, q186, cV3⟩ ?_
  refine mA ⟨by decide +kernel, rfl, rfl⟩ ?_
  refine mA ⟨by decide +kernel, swX3_write_35⟩ ?_
  refine mA ⟨by decide +kernel, rfl, rfl⟩ ?_
  refine mA ⟨by decide +kernel, rfl, rfl⟩ ?_
  refine mA ⟨by decide +kernel, rfl, rfl⟩ ?_
  refine mA ⟨by decide +kernel, rfl, rfl⟩ ?_
  refine mA ⟨by decide +kernel, rfl, rfl⟩ ?_
  refine mA ⟨by decide +kernel, rfl, rfl, ⟨TX3, 5, rfl⟩, q187, cV28⟩ ?_
  refine mA ⟨by decide +kernel, rfl, by decide +kernel⟩ ?_
  refine mA ⟨by decide +kernel, rfl, rfl⟩ ?_
  refine mA ⟨by decide +kernel, rfl, rfl⟩ ?_
  refine mA ⟨by decide +kernel, rfl, rfl⟩ ?_
  refine mA ⟨by decide +kernel, rfl⟩ ?_
  refine mA ⟨by decide +kernel, rfl, rfl⟩ ?_
  refine mA ⟨by decide +kernel, rfl, rfl, ⟨TX3, 5, rfl⟩, q191, cV31⟩ ?_
  refine mA ⟨by decide +kernel, rfl, by decide +kernel⟩ ?_
  refine mA ⟨by decide +kernel, rfl, rfl⟩ ?_
  refine mA ⟨by decide +kernel, rfl, rfl⟩ ?_
  refine mA ⟨by decide +kernel, rfl, rfl⟩ ?_
  refine mA ⟨by decide +kernel, rfl, rfl⟩ ?_
  refine mA ⟨by decide +kernel, rfl, rfl⟩ ?_
  refine mA ⟨by decide +kernel, rfl, rfl, ⟨TX3, 5, rfl⟩, q195, cV32⟩ ?_
  refine mA ⟨by decide +kernel, rfl, rfl⟩ ?_
  refine mA ⟨by decide +kernel, rfl, rfl⟩ ?_
  refine mA ⟨by decide +kernel, rfl, rfl⟩ ?_
  refine mA ⟨by decide +kernel, rfl, rfl⟩ ?_
  refine mA ⟨by decide +kernel, rfl, rfl⟩ ?_
  refine mA ⟨by decide +kernel, rfl, rfl, ⟨TX3, 5, rfl⟩, q199, cV33⟩ ?_
  refine mA ⟨by decide +kernel, rfl, by decide +kernel⟩ ?_
  refine mA ⟨by decide +kernel, rfl, rfl⟩ ?_
  refine mA ⟨by decide +kernel, rfl, rfl⟩ ?_
  refine mA ⟨by decide +kernel, rfl, rfl⟩ ?_
  refine mA ⟨by decide +kernel, rfl, rfl⟩ ?_
  refine mA ⟨by decide +kernel, rfl, rfl⟩ ?_
  refine mA ⟨by decide +kernel, rfl, rfl⟩ ?_
  refine mA ⟨by decide +kernel, rfl, RX3, TX3, 5, rfl, by decide +kernel, mIn_wsX30, Or.inl q157⟩ ?_
  refine mA ⟨by decide +kernel, rfl, rfl⟩ ?_
  refine mA ⟨by decide +kernel, rfl, rfl, ⟨TX3, 5, rfl⟩, q165, cV29⟩ ?_
  refine mA ⟨by decide +kernel, rfl, rfl⟩ ?_
  refine mA ⟨by decide +kernel, rfl, RX0, TX0, 2, rfl, by decide +kernel, mIn_wsX00, Or.inr (by decide +kernel)⟩ ?_
  refine mA ⟨by decide +kernel, rfl, rfl⟩ ?_
  refine mA ⟨by decide +kernel, rfl⟩ ?_
  refine mA ⟨by decide +kernel, rfl, rfl⟩ ?_
  exact trivial
set_option maxRecDepth 100000 in
set_option maxHeartbeats 4000000 in
theorem okX3_putPlain : mAllOk (mMt0 28) tbX3_putPlain := by
  rw [mtX3_putPlain]
  unfold tbX3_putPlain
  refine mA ⟨by decide +kernel, rfl, rfl⟩ ?_
  refine mA ⟨by decide +kernel, rfl, rfl⟩ ?_
  refine mA ⟨by decide +kernel, rfl, rfl⟩ ?_
  refine mA ⟨by decide +kernel, rfl, rfl⟩ ?_
  refine mA ⟨by decide +kernel, rfl, by decide +kernel⟩ ?_
  refine mA ⟨by decide +kernel, rfl, rfl⟩ ?_
  refine mA ⟨by decide +kernel, rfl, rfl⟩ ?_
  refine mA ⟨by decide +kernel, rfl, rfl⟩ ?_
  refine mA ⟨by decide +kernel, rfl, rfl, ⟨TX5, 8, rfl⟩, q174, cV43⟩ ?_
  refine mA ⟨by decide +kernel, rfl, by decide +kernel⟩ ?_
  refine mA ⟨by decide +kernel, rfl, rfl, ⟨TX0, 2, rfl⟩, q186, cV3⟩ ?_
  refine mA ⟨by decide +kernel, rfl, rfl, by decide +kernel⟩ ?_
  refine mA ⟨by decide +kernel, rfl, by decide +kernel⟩ ?_
  refine mA ⟨by decide +kernel, rfl, rfl⟩ ?_
  exact trivial
set_option maxRecDepth 100000 in
set_option maxHeartbeats 4000000 in
theorem okX3_putRests : mAllOk (mMt0 29) tbX3_putRests := by
  rw [mtX3_putRests]
  unfold tbX3_putRests
  refine mA ⟨by decide +kernel, rfl, rfl⟩ ?_
  refine mA ⟨by decide +kernel, rfl, by decide +kernel⟩ ?_
  refine mA ⟨by decide +kernel, rfl, by decide +kernel⟩ ?_
  refine mA ⟨by decide +kernel, rfl, rfl⟩ ?_
  refine mA ⟨by decide +kernel, rfl, rfl⟩ ?_
  refine mA ⟨by decide +kernel, rfl, by decide +kernel⟩ ?_
  refine mA ⟨by decide +kernel, rfl⟩ ?_
  refine mA ⟨by decide +kernel, rfl⟩ ?_
  refine mA ⟨by decide +kernel, rfl, by decide +kernel⟩ ?_
  refine mA ⟨by decide +kernel, rfl, rfl, ⟨TX0, 2, rfl⟩, q186, cV3⟩ ?_
  refine mA ⟨by decide +kernel, rfl, rfl⟩ ?_
  refine mA ⟨by decide +kernel, rfl, RX3, TX3, 5, rfl, by decide +kernel, mIn_wsX30, Or.inl q155⟩ ?_
  refine mA ⟨by decide +kernel, rfl, rfl, ⟨TX7, 2, rfl⟩, q203, cV53⟩ ?_
  refine mA ⟨by decide +kernel, rfl, rfl⟩ ?_
  refine mA ⟨by decide +kernel, rfl, rfl⟩ ?_
  refine mA ⟨by decide +kernel, rfl, rfl⟩ ?_
  refine mA ⟨by decide +kernel, rfl, rfl⟩ ?_
  refine mA ⟨by decide +kernel, rfl, by decide +kernel⟩ ?_
  refine mA ⟨by decide +kernel, rfl, rfl⟩ ?_
  refine mA ⟨by decide +kernel, rfl, rfl⟩ ?_
  refine mA ⟨by decide +kernel, rfl, rfl⟩ ?_
  refine mA ⟨by decide +kernel, rfl, rfl, ⟨TX5, 8, rfl⟩, q174, cV43⟩ ?_
  refine mA ⟨by decide +kernel, rfl, rfl⟩ ?_
  refine mA ⟨by decide +kernel, rfl, rfl⟩ ?_
  refine mA ⟨by decide +kernel, rfl, rfl⟩ ?_
  refine mA ⟨by decide +kernel, rfl, rfl⟩ ?_
  refine mA ⟨by decide +kernel, rfl, rfl, ⟨TX5, 8, rfl⟩, q204, cV44⟩ ?_
  refine mA ⟨by decide +kernel, rfl⟩ ?_
  refine mA ⟨by decide +kernel, rfl, rfl⟩ ?_
  refine mA ⟨by decide +kernel, rfl, rfl, ⟨TX3, 5, rfl⟩, q205, cV30⟩ ?_
  refine mA ⟨by decide +kernel, rfl, rfl, by decide +kernel⟩ ?_
  refine mA ⟨by decide +kernel, rfl, by decide +kernel⟩ ?_
  refine mA ⟨by decide +kernel, rfl, rfl⟩ ?_
  exact trivial
set_option maxRecDepth 100000 in
set_option maxHeartbeats 4000000 in
theorem okX3_putRest : mAllOk (mMt0 30) tbX3_putRest := by
  rw [mtX3_putRest]
  unfold tbX3_putRest
  refine mA ⟨by decide +kernel, rfl, rfl⟩ ?_
  refine mA ⟨by decide +kernel, rfl, by decide +kernel⟩ ?_
  refine mA ⟨by decide +kernel, rfl⟩ ?_
  refine mA ⟨by decide +kernel, rfl, by decide +kernel⟩ ?_
  refine mA ⟨by decide +kernel, rfl, rfl⟩ ?_
  refine mA ⟨by decide +kernel, rfl, by decide +kernel⟩ ?_
  refine mA ⟨by decide +kernel, rfl, by decide +kernel⟩ ?_
  refine mA ⟨by decide +kernel, rfl, rfl, ⟨TX0, 2, rfl⟩, q186, cV3⟩ ?_
  refine mA ⟨by decide +kernel, rfl, rfl⟩ ?_
  refine mA ⟨by decide +kernel, rfl, rfl⟩ ?_
  refine mA ⟨by decide +kernel, rfl, by decide +kernel⟩ ?_
  refine mA ⟨by decide +kernel, rfl, by decide +kernel⟩ ?_
  refine mA ⟨by decide +kernel, rfl, rfl, ⟨TX0, 2, rfl⟩, q186, cV3⟩ ?_
  refine mA ⟨by decide +kernel, rfl, rfl⟩ ?_
  refine mA ⟨by decide +kernel, rfl, q184, cS144⟩ ?_
  refine mA ⟨by decide +kernel, rfl, rfl⟩ ?_
  refine mA ⟨by decide +kernel, rfl, rfl⟩ ?_
  refine mA ⟨by decide +kernel, rfl, q209, cS145⟩ ?_
  refine mA ⟨by decide +kernel, rfl, rfl⟩ ?_
  refine mA ⟨by decide +kernel, rfl, by decide +kernel⟩ ?_
  refine mA ⟨by decide +kernel, rfl, rfl⟩ ?_
  refine mA ⟨by decide +kernel, rfl⟩ ?_
  refine mA ⟨by decide +kernel, rfl, rfl⟩ ?_
  refine mA ⟨by decide +kernel, rfl⟩ ?_
  refine mA ⟨by decide +kernel, rfl, rfl⟩ ?_
  refine mA ⟨by decide +kernel, rfl, rfl⟩ ?_
  refine mA ⟨by decide +kernel, rfl, RX3, TX3, 5, rfl, by decide +kernel, mIn_wsX30, Or.inl q155⟩ ?_
  refine mA ⟨by decide +kernel, rfl, rfl⟩ ?_
  refine mA ⟨by decide +kernel, rfl, rfl⟩ ?_
  refine mA ⟨by decide +kernel, rfl, rfl, ⟨TX7, 2, rfl⟩, q212, cV57⟩ ?_
  refine mA ⟨by decide +kernel, rfl, by decide +kernel⟩ ?_
  refine mA ⟨by decide +kernel, rfl, rfl⟩ ?_
  refine mA ⟨by decide +kernel, rfl, RX3, TX3, 5, rfl, by decide +kernel, mIn_wsX30, Or.inl q155⟩ ?_
  refine mA ⟨by decide +kernel, rfl, RX7, TX7, 2, rfl, by decide +kernel, mIn_wsX70, Or.inr (by decide +kernel)⟩ ?_
  refine mA ⟨by decide +kernel, rfl, by decide +kernel⟩ ?_
  refine mA ⟨by decide +kernel, rfl, rfl⟩ ?_
  refine mA ⟨by decide +kernel, rfl⟩ ?_
  refine mA ⟨by decide +kernel, rfl, by decide +kernel⟩ ?_
  refine mA ⟨by decide +kernel, rfl, rfl⟩ ?_
  refine mA ⟨by decide +kernel, rfl, by decide +kernel⟩ ?_
  refine mA ⟨by decide +kernel, rfl, by decide +kernel⟩ ?_
  refine mA ⟨by decide +kernel, rfl, rfl, ⟨TX0, 2, rfl⟩, q186, cV3⟩ ?_
  refine mA ⟨by decide +kernel, rfl, rfl⟩ ?_
  refine mA ⟨by decide +kernel, rfl, rfl⟩ ?_
  refine mA ⟨by decide +kernel, rfl, rfl⟩ ?_
  refine mA ⟨by decide +kernel, rfl, RX3, TX3, 5, rfl, by decide +kernel, mIn_wsX30, Or.inl q155⟩ ?_
  refine mA ⟨by decide +kernel, rfl, rfl, ⟨TX7, 2, rfl⟩, q216, cV56⟩ ?_
  refine mA ⟨by decide +kernel, rfl⟩ ?_
  refine mA ⟨by decide +kernel, rfl, rfl⟩ ?_
  refine mA ⟨by decide +kernel, rfl, RX3, TX3, 5, rfl, by decide +kernel, mIn_wsX30, Or.inl q155⟩ ?_
  refine mA ⟨by decide +kernel, rfl, RX7, TX7, 2, rfl, by decide +kernel, mIn_wsX70, Or.inr (by decide +kernel)⟩ ?_
  refine mA ⟨by decide +kernel, rfl, rfl, ⟨TX0, 2, rfl⟩, q186, cV3⟩ ?_
  refine mA ⟨by decide +kernel, rfl, rfl⟩ ?_
  refine mA ⟨by decide +kernel, rfl, rfl⟩ ?_
  refine mA ⟨by decide +kernel, rfl, by decide +kernel⟩ ?_
  refine mA ⟨by decide +kernel, rfl, by decide +kernel⟩ ?_
  refine mA ⟨by decide +kernel, rfl, rfl, ⟨TX0, 2, rfl⟩, q186, cV3⟩ ?_
  refine mA ⟨by decide +kernel, rfl, rfl⟩ ?_
  refine mA ⟨by decide +kernel, rfl, rfl⟩ ?_
  refine mA ⟨by decide +kernel, rfl⟩ ?_
  refine mA ⟨by decide +kernel, rfl, by decide +kernel⟩ ?_
  refine mA ⟨by decide +kernel, rfl, rfl, ⟨TX0, 2, rfl⟩, q186, cV3⟩ ?_
  refine mA ⟨by decide +kernel, rfl, rfl⟩ ?_
  refine mA ⟨by decide +kernel, rfl, rfl⟩ ?_
  refine mA ⟨by decide +kernel, rfl, by decide +kernel⟩ ?_
  refine mA ⟨by decide +kernel, rfl⟩ ?_
  refine mA ⟨by decide +kernel, rfl⟩ ?_
  refine mA ⟨by decide +kernel, rfl, by decide +kernel⟩ ?_
  refine mA ⟨by decide +kernel, rfl, rfl, ⟨TX0, 2, rfl⟩, q186, cV3⟩ ?_
  refine mA ⟨by decide +kernel, rfl, rfl⟩ ?_
  refine mA ⟨by decide +kernel, rfl, rfl⟩ ?_
  refine mA ⟨by decide +kernel, rfl, rfl⟩ ?_
  refine mA ⟨by decide +kernel, rfl⟩ ?_
  refine mA ⟨by decide +kernel, rfl, rfl⟩ ?_
  refine mA ⟨by decide +kernel, rfl, rfl, ⟨TX0, 2, rfl⟩, q186, cV3⟩ ?_
  refine mA ⟨by decide +kernel, rfl, rfl⟩ ?_
  refine mA ⟨by decide +kernel, rfl, RX3, TX3, 5, rfl, by decide +kernel, mIn_wsX30, Or.inl q155⟩ ?_
  refine mA ⟨by decide +kernel, rfl, rfl⟩ ?_
  refine mA ⟨by decide +kernel, rfl, rfl⟩ ?_
  refine mA ⟨by decide +kernel, rfl, rfl, ⟨TX7, 2, rfl⟩, q217, cV54⟩ ?_
  refine mA ⟨by decide +kernel, rfl, rfl⟩ ?_
  exact trivial
set_option maxRecDepth 100000 in
set_option maxHeartbeats 4000000 in
theorem okX3_putDecimals : mAllOk (mMt0 31) tbX3_putDecimals := by
  rw [mtX3_putDecimals]
  unfold tbX3_putDecimals
  refine mA ⟨by decide +kernel, rfl, rfl⟩ ?_
  refine mA ⟨by decide +kernel, rfl, rfl⟩ ?_
  refine mA ⟨by decide +kernel, rfl, RX3, TX3, 5, rfl, by decide +kernel, mIn_wsX30, Or.inl q158⟩ ?_
  refine mA ⟨by decide +kernel, rfl⟩ ?_
  refine mA ⟨by decide +kernel, rfl, by decide +kernel⟩ ?_
  refine mA ⟨by decide +kernel, rfl, rfl, ⟨TX0, 2, rfl⟩, q186, cV3⟩ ?_
  refine mA ⟨by decide +kernel, rfl, rfl⟩ ?_
  refine mA ⟨by decide +kernel, rfl, rfl⟩ ?_
  refine mA ⟨by decide +kernel, rfl, RX3, TX3, 5, rfl, by decide +kernel, mIn_wsX30, Or.inl q159⟩ ?_
  refine mA ⟨by decide +kernel, rfl⟩ ?_
  refine mA ⟨by decide +kernel, rfl, by decide +kernel⟩ ?_
  refine mA ⟨by decide +kernel, rfl, rfl, ⟨TX0, 2, rfl⟩, q186, cV3⟩ ?_
  refine mA ⟨by decide +kernel, rfl, by decide +kernel⟩ ?_
  refine mA ⟨by decide +kernel, rfl, rfl⟩ ?_
  refine mA ⟨by decide +kernel, rfl, rfl⟩ ?_
  refine mA ⟨by decide +kernel, rfl, rfl⟩ ?_
  refine mA ⟨by decide +kernel, rfl, by decide +kernel⟩ ?_
  refine mA ⟨by decide +kernel, rfl, rfl⟩ ?_
  refine mA ⟨by decide +kernel, rfl, by decide +kernel⟩ ?_
  refine mA ⟨by decide +kernel, rfl, by decide +kernel⟩ ?_
  refine mA ⟨by decide +kernel, rfl, rfl⟩ ?_
  refine mA ⟨by decide +kernel, rfl, rfl⟩ ?_
  refine mA ⟨by decide +kernel, rfl, RX3, TX3, 5, rfl, by decide +kernel, mIn_wsX30, Or.inl q156⟩ ?_
  refine mA ⟨by decide +kernel, rfl, rfl⟩ ?_
  refine mA ⟨by decide +kernel, rfl⟩ ?_
  refine mA ⟨by decide +kernel, rfl, rfl⟩ ?_
  refine mA ⟨by decide +kernel, rfl, RX3, TX3, 5, rfl, by decide +kernel, mIn_wsX30, Or.inl q159⟩ ?_
  refine mA ⟨by decide +kernel, rfl, rfl, ⟨TX0, 2, rfl⟩, q186, cV3⟩ ?_
  refine mA ⟨by decide +kernel, rfl, rfl, by decide +kernel⟩ ?_
  refine mA ⟨by decide +kernel, rfl, by decide +kernel⟩ ?_
  refine mA ⟨by decide +kernel, rfl, rfl⟩ ?_
  exact trivial
set_option maxRecDepth 100000 in
set_option maxHeartbeats 4000000 in
theorem okX3_putHeads : mAllOk (mMt0 32) tbX3_putHeads := by
  rw [mtX3_putHeads]
  unfold tbX3_putHeads
  refine mA ⟨by decide +kernel, rfl, _, rfl, q218⟩ ?_
  refine mA ⟨by decide +kernel, rfl, rfl⟩ ?_
  refine mA ⟨by decide +kernel, rfl, rfl⟩ ?_
  refine mA ⟨by decide +kernel, rfl, rfl⟩ ?_
  refine mA ⟨by decide +kernel, rfl, rfl⟩ ?_
  refine mA ⟨by decide +kernel, rfl, rfl⟩ ?_
  refine mA ⟨by decide +kernel, rfl, by decide +kernel⟩ ?_
  refine mA ⟨by decide +kernel, rfl, rfl⟩ ?_
  refine mA ⟨by decide +kernel, rfl, rfl⟩ ?_
  refine mA ⟨by decide +kernel, rfl, rfl, ⟨TX5, 8, rfl⟩, q174, cV43⟩ ?_
  refine mA ⟨by decide +kernel, rfl, by decide +kernel⟩ ?_
  refine mA ⟨by decide +kernel, rfl⟩ ?_
  refine mA ⟨by decide +kernel, rfl, rfl⟩ ?_
  refine mA ⟨by decide +kernel, rfl, rfl⟩ ?_
  refine mA ⟨by decide +kernel, rfl, rfl⟩ ?_
  refine mA ⟨by decide +kernel, rfl, by decide +kernel⟩ ?_
  refine mA ⟨by decide +kernel, rfl, rfl⟩ ?_
  refine mA ⟨by decide +kernel, rfl, rfl⟩ ?_
  refine mA ⟨by decide +kernel, rfl, rfl⟩ ?_
  refine mA ⟨by decide +kernel, rfl⟩ ?_
  refine mA ⟨by decide +kernel, rfl, by decide +kernel⟩ ?_
  refine mA ⟨by decide +kernel, rfl, by decide +kernel⟩ ?_
  refine mA ⟨by decide +kernel, rfl, by decide +kernel⟩ ?_
  refine mA ⟨by decide +kernel, rfl, by decide +kernel⟩ ?_
  refine mA ⟨by decide +kernel, rfl, by decide +kernel⟩ ?_
  refine mA ⟨by decide +kernel, rfl, rfl, ⟨TX0, 2, rfl⟩, q186, cV3⟩ ?_
  refine mA ⟨by decide +kernel, rfl, rfl⟩ ?_
  refine mA ⟨by decide +kernel, rfl, rfl⟩ ?_
  refine mA ⟨by decide +kernel, rfl⟩ ?_
  refine mA ⟨by decide +kernel, rfl, by decide +kernel⟩ ?_
  refine mA ⟨by decide +kernel, rfl, rfl⟩ ?_
  refine mA ⟨by decide +kernel, rfl, rfl⟩ ?_
  refine mA ⟨by decide +kernel, rfl, by decide +kernel⟩ ?_
  refine mA ⟨by decide +kernel, rfl, rfl, ⟨TX0, 2, rfl⟩, q186, cV3⟩ ?_
  refine mA ⟨by decide +kernel, rfl, rfl⟩ ?_
  refine mA ⟨by decide +kernel, rfl, rfl⟩ ?_
  refine mA ⟨by decide +kernel, rfl, rfl, by decide +kernel⟩ ?_
  refine mA ⟨by decide +kernel, rfl, by decide +kernel⟩ ?_
  refine mA ⟨by decide +kernel, rfl, rfl⟩ ?_
  exact trivial
set_option maxRecDepth 100000 in
set_option maxHeartbeats 4000000 in
theorem okX3_putFractions : mAllOk (mMt0 33) tbX3_putFractions := by
  rw [mtX3_putFractions]
  unfold tbX3_putFractions
  refine mA ⟨by decide +kernel, rfl, _, rfl, q219⟩ ?_
  refine mA ⟨by decide +kernel, rfl, rfl⟩ ?_
  refine mA ⟨by decide +kernel, rfl, rfl⟩ ?_
  refine mA ⟨by decide +kernel, rfl, rfl⟩ ?_
  refine mA ⟨by decide +kernel, rfl, rfl⟩ ?_
  refine mA ⟨by decide +kernel, rfl, rfl⟩ ?_
  refine mA ⟨by decide +kernel, rfl, by decide +kernel⟩ ?_
  refine mA ⟨by decide +kernel, rfl, rfl⟩ ?_
  refine mA ⟨by decide +kernel, rfl, rfl⟩ ?_
  refine mA ⟨by decide +kernel, rfl, rfl⟩ ?_
  refine mA ⟨by decide +kernel, rfl, rfl, ⟨TX5, 8, rfl⟩, q174, cV43⟩ ?_
  refine mA ⟨by decide +kernel, rfl⟩ ?_
  refine mA ⟨by decide +kernel, rfl, rfl⟩ ?_
  refine mA ⟨by decide +kernel, rfl, rfl, by decide +kernel⟩ ?_
  refine mA ⟨by decide +kernel, rfl, by decide +kernel⟩ ?_
  refine mA ⟨by decide +kernel, rfl, rfl⟩ ?_
  refine mA ⟨by decide +kernel, rfl, q209, cS145⟩ ?_
  refine mA ⟨by decide +kernel, rfl, rfl⟩ ?_
  refine mA ⟨by decide +kernel, rfl, rfl⟩ ?_
  refine mA ⟨by decide +kernel, rfl, rfl⟩ ?_
  refine mA ⟨by decide +kernel, rfl⟩ ?_
  refine mA ⟨by decide +kernel, rfl, by decide +kernel⟩ ?_
  refine mA ⟨by decide +kernel, rfl, rfl, ⟨TX0, 2, rfl⟩, q186, cV3⟩ ?_
  refine mA ⟨by decide +kernel, rfl, rfl⟩ ?_
  refine mA ⟨by decide +kernel, rfl, rfl⟩ ?_
  refine mA ⟨by decide +kernel, rfl, rfl⟩ ?_
  refine mA ⟨by decide +kernel, rfl, rfl⟩ ?_
  refine mA ⟨by decide +kernel, rfl, by decide +kernel⟩ ?_
  refine mA ⟨by decide +kernel, rfl, rfl⟩ ?_
  refine mA ⟨by decide +kernel, rfl, rfl⟩ ?_
  refine mA ⟨by decide +kernel, rfl, rfl⟩ ?_
  refine mA ⟨by decide +kernel, rfl, rfl, ⟨TX5, 8, rfl⟩, q174, cV43⟩ ?_
  refine mA ⟨by decide +kernel, rfl, rfl⟩ ?_
  refine mA ⟨by decide +kernel, rfl⟩ ?_
  refine mA ⟨by decide +kernel, rfl, by decide +kernel⟩ ?_
  refine mA ⟨by decide +kernel, rfl, rfl⟩ ?_
  refine mA ⟨by decide +kernel, rfl⟩ ?_
  refine mA ⟨by decide +kernel, rfl, rfl, ⟨TX0, 2, rfl⟩, q186, cV3⟩ ?_
  refine mA ⟨by decide +kernel, rfl, rfl, by decide +kernel⟩ ?_
  refine mA ⟨by decide +kernel, rfl, by decide +kernel⟩ ?_
  refine mA ⟨by decide +kernel, rfl, rfl⟩ ?_
  exact trivial
