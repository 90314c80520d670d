set_option maxRecDepth 100000 in
set_option maxHeartbeats 4000000 in
theorem okX2_init : mAllOk (mMt0 11) tbX2_init := by
  rw [mtX2_init]
  unfold tbX2_init
  refine mA ⟨by decide +kernel, rfl, rfl⟩ ?_
  refine mA ⟨by decide +kernel, rfl, q57, q1, q2⟩ ?_
  refine mA ⟨by decide +kernel, rfl, rfl⟩ ?_
  refine mA ⟨by decide +kernel, rfl, RX7, TX7, 2, rfl, rfl, by decide +kernel, mIn_wsX70, q58, q59, q60⟩ ?_
  refine mA ⟨by decide +kernel, rfl⟩ ?_
  refine mA ⟨by decide +kernel, rfl, rfl, rfl, Or.inr (by decide +kernel), cI52⟩ ?_
  refine mA ⟨by decide +kernel, rfl, RX2, TX2, 2, rfl, by decide +kernel, mIn_wsX20, Or.inl q63, Or.inl ⟨_, rfl⟩, Or.inr ⟨rfl, by decide +kernel, rfl, q63⟩⟩ ?_
  refine mA ⟨by decide +kernel, rfl, rfl⟩ ?_
  refine mA ⟨by decide +kernel, rfl, by decide +kernel⟩ ?_
  refine mA ⟨by decide +kernel, rfl, q64⟩ ?_
  refine mA ⟨by decide +kernel, rfl, RX2, TX2, 2, rfl, by decide +kernel, mIn_wsX20, Or.inl q65, Or.inr ⟨_, rfl⟩, Or.inr ⟨rfl, by decide +kernel, rfl, q65⟩⟩ ?_
  refine mA ⟨by decide +kernel, rfl, rfl⟩ ?_
  exact trivial
set_option maxRecDepth 100000 in
set_option maxHeartbeats 4000000 in
theorem okX2_read : mAllOk (mMt0 12) tbX2_read := by
  rw [mtX2_read]
  unfold tbX2_read
  refine mA ⟨by decide +kernel, rfl, rfl⟩ ?_
  refine mA ⟨by decide +kernel, rfl, rfl, ⟨TX5, 8, rfl⟩, q66, cV40⟩ ?_
  refine mA ⟨by decide +kernel, rfl, rfl⟩ ?_
  refine mA ⟨by decide +kernel, rfl, by decide +kernel⟩ ?_
  refine mA ⟨by decide +kernel, rfl, rfl, ⟨TX6, 5, rfl⟩, q71, cV51⟩ ?_
  refine mA ⟨by decide +kernel, rfl⟩ ?_
  refine mA ⟨by decide +kernel, rfl, rfl⟩ ?_
  refine mA ⟨by decide +kernel, rfl, rfl⟩ ?_
  refine mA ⟨by decide +kernel, rfl, by decide +kernel⟩ ?_
  refine mA ⟨by decide +kernel, rfl, by decide +kernel⟩ ?_
  refine mA ⟨by decide +kernel, rfl, rfl⟩ ?_
  refine mA ⟨by decide +kernel, rfl, by decide +kernel⟩ ?_
  refine mA ⟨by decide +kernel, rfl, by decide +kernel⟩ ?_
  refine mA ⟨by decide +kernel, rfl, rfl, ⟨TX6, 5, rfl⟩, q76, cV50⟩ ?_
  refine mA ⟨by decide +kernel, rfl, rfl⟩ ?_
  refine mA ⟨by decide +kernel, rfl, by decide +kernel⟩ ?_
  refine mA ⟨by decide +kernel, rfl, rfl, ⟨TX6, 5, rfl⟩, q71, cV51⟩ ?_
  refine mA ⟨by decide +kernel, rfl⟩ ?_
  refine mA ⟨by decide +kernel, rfl, rfl⟩ ?_
  refine mA ⟨by decide +kernel, rfl, rfl⟩ ?_
  refine mA ⟨by decide +kernel, rfl, by decide +kernel⟩ ?_
  refine mA ⟨by decide +kernel, rfl, by decide +kernel⟩ ?_
  refine mA ⟨by decide +kernel, rfl, rfl⟩ ?_
  refine mA ⟨by decide +kernel, rfl, by decide +kernel⟩ ?_
  refine mA ⟨by decide +kernel, rfl, by decide +kernel⟩ ?_
  refine mA ⟨by decide +kernel, rfl, rfl⟩ ?_
  refine mA ⟨by decide +kernel, rfl, by decide +kernel⟩ ?_
  refine mA ⟨by decide +kernel, rfl, by decide +kernel⟩ ?_
  refine mA ⟨by decide +kernel, rfl, rfl, ⟨TX6, 5, rfl⟩, q76, cV50⟩ ?_
  refine mA ⟨by decide +kernel, rfl, by decide +kernel⟩ ?_
  refine mA ⟨by decide +kernel, rfl, rfl⟩ ?_
  refine mA ⟨by decide +kernel, rfl, rfl⟩ ?_
  refine mA ⟨by decide +kernel, rfl, by decide +kernel⟩ ?_
  refine mA ⟨by decide +kernel, rfl, by decide +kernel⟩ ?_
  refine mA ⟨by decide +kernel, rfl, rfl⟩ ?_
  refine mA ⟨by decide +kernel, rfl, RX5, TX5, 8, rfl, by decide +kernel, mIn_wsX50, Or.inr (by decide +kernel)⟩ ?_
  refine mA ⟨by decide +kernel, rfl, rfl⟩ ?_
  refine mA ⟨by decide +kernel, rfl, by decide +kernel⟩ ?_
  refine mA ⟨by decide +kernel, rfl, rfl⟩ ?_
  refine mA ⟨by decide +kernel, rfl, rfl, ⟨TX6, 5, rfl⟩, q80, cV49⟩ ?_
  refine mA ⟨by decide +kernel, rfl, by decide +kernel⟩ ?_
  refine mA ⟨by decide +kernel, rfl, rfl⟩ ?_
  refine mA ⟨by decide +kernel, rfl, rfl⟩ ?_
  refine mA ⟨by decide +kernel, rfl, rfl⟩ ?_
  refine mA ⟨by decide +kernel, rfl, rfl⟩ ?_
  refine mA ⟨by decide +kernel, rfl, rfl⟩ ?_
  refine mA ⟨by decide +kernel, rfl, rfl⟩ ?_
  refine mA ⟨by decide +kernel, rfl, RX5, TX5, 8, rfl, by decide +kernel, mIn_wsX50, Or.inr (by decide +kernel)⟩ ?_
  refine mA ⟨by decide +kernel, rfl⟩ ?_
  refine mA ⟨by decide +kernel, rfl, q84, q40, q6, q41⟩ ?_
  refine mA ⟨by decide +kernel, rfl, rfl, ⟨TX2, 2, rfl⟩, q85, cV15⟩ ?_
  refine mA ⟨by decide +kernel, rfl, rfl, by decide +kernel⟩ ?_
  refine mA ⟨by decide +kernel, rfl, by decide +kernel⟩ ?_
  refine mA ⟨by decide +kernel, rfl, rfl⟩ ?_
  refine mA ⟨by decide +kernel, rfl, rfl⟩ ?_
  refine mA ⟨by decide +kernel, rfl, rfl, ⟨TX2, 2, rfl⟩, q90, cV13⟩ ?_
  refine mA ⟨by decide +kernel, rfl, rfl⟩ ?_
  refine mA ⟨by decide +kernel, rfl, rfl⟩ ?_
  refine mA ⟨by decide +kernel, rfl, rfl, ⟨TX2, 2, rfl⟩, q94, cV14⟩ ?_
  refine mA ⟨by decide +kernel, rfl, rfl⟩ ?_
  exact trivial
set_option maxRecDepth 100000 in
set_option maxHeartbeats 4000000 in
theorem okX2_readPadding : mAllOk (mMt0 13) tbX2_readPadding := by
  rw [mtX2_readPadding]
  unfold tbX2_readPadding
  refine mA ⟨by decide +kernel, rfl, by decide +kernel⟩ ?_
  refine mA ⟨by decide +kernel, rfl, rfl⟩ ?_
  refine mA ⟨by decide +kernel, rfl, RX6, TX6, 5, rfl, by decide +kernel, mIn_wsX60, Or.inr (by decide +kernel)⟩ ?_
  refine mA ⟨by decide +kernel, rfl, by decide +kernel⟩ ?_
  refine mA ⟨by decide +kernel, rfl⟩ ?_
  refine mA ⟨by decide +kernel, rfl⟩ ?_
  refine mA ⟨by decide +kernel, rfl, by decide +kernel⟩ ?_
  refine mA ⟨by decide +kernel, rfl⟩ ?_
  refine mA ⟨by decide +kernel, rfl, rfl⟩ ?_
  refine mA ⟨by decide +kernel, rfl, by decide +kernel⟩ ?_
  refine mA ⟨by decide +kernel, rfl, rfl⟩ ?_
  refine mA ⟨by decide +kernel, rfl, rfl⟩ ?_
  refine mA ⟨by decide +kernel, rfl, rfl⟩ ?_
  refine mA ⟨by decide +kernel, rfl, by decide +kernel⟩ ?_
  refine mA ⟨by decide +kernel, rfl, rfl⟩ ?_
  refine mA ⟨by decide +kernel, rfl, RX6, TX6, 5, rfl, by decide +kernel, mIn_wsX60, Or.inr (by decide +kernel)⟩ ?_
  refine mA ⟨by decide +kernel, rfl, rfl⟩ ?_
  refine mA ⟨by decide +kernel, rfl, rfl⟩ ?_
  refine mA ⟨by decide +kernel, rfl, by decide +kernel⟩ ?_
  refine mA ⟨by decide +kernel, rfl, rfl, ⟨TX6, 5, rfl⟩, q71, cV51⟩ ?_
  refine mA ⟨by decide +kernel, rfl, by decide +kernel⟩ ?_
  refine mA ⟨by decide +kernel, rfl⟩ ?_
  refine mA ⟨by decide +kernel, rfl, by decide +kernel⟩ ?_
  refine mA ⟨by decide +kernel, rfl, rfl⟩ ?_
  refine mA ⟨by decide +kernel, rfl, by decide +kernel⟩ ?_
  refine mA ⟨by decide +kernel, rfl, rfl⟩ ?_
  refine mA ⟨by decide +kernel, rfl, rfl, ⟨TX6, 5, rfl⟩, q76, cV50⟩ ?_
  refine mA ⟨by decide +kernel, rfl, rfl, by decide +kernel⟩ ?_
  refine mA ⟨by decide +kernel, rfl, by decide +kernel⟩ ?_
  refine mA ⟨by decide +kernel, rfl, rfl⟩ ?_
  exact trivial
set_option maxRecDepth 100000 in
set_option maxHeartbeats 4000000 in
theorem okX2_readEnd : mAllOk (mMt0 14) tbX2_readEnd := by
  rw [mtX2_readEnd]
  unfold tbX2_readEnd
  refine mA ⟨by decide +kernel, rfl, rfl⟩ ?_
  refine mA ⟨by decide +kernel, rfl, RX6, TX6, 5, rfl, by decide +kernel, mIn_wsX60, Or.inr (by decide +kernel)⟩ ?_
  refine mA ⟨by decide +kernel, rfl, rfl⟩ ?_
  refine mA ⟨by decide +kernel, rfl, rfl⟩ ?_
  refine mA ⟨by decide +kernel, rfl, by decide +kernel⟩ ?_
  refine mA ⟨by decide +kernel, rfl, rfl, ⟨TX6, 5, rfl⟩, q71, cV51⟩ ?_
  refine mA ⟨by decide +kernel, rfl, rfl⟩ ?_
  refine mA ⟨by decide +kernel, rfl, RX6, TX6, 5, rfl, by decide +kernel, mIn_wsX60, Or.inr (by decide +kernel)⟩ ?_
  refine mA ⟨by decide +kernel, rfl, rfl⟩ ?_
  refine mA ⟨by decide +kernel, rfl, by decide +kernel⟩ ?_
  refine mA ⟨by decide +kernel, rfl⟩ ?_
  refine mA ⟨by decide +kernel, rfl, rfl, by decide +kernel, cS86⟩ ?_
  refine mA ⟨by decide +kernel, rfl⟩ ?_
  refine mA ⟨by decide +kernel, rfl⟩ ?_
  refine mA ⟨by decide +kernel, rfl, by decide +kernel⟩ ?_
  refine mA ⟨by decide +kernel, rfl, rfl⟩ ?_
  refine mA ⟨by decide +kernel, rfl, by decide +kernel⟩ ?_
  refine mA ⟨by decide +kernel, rfl, rfl⟩ ?_
  refine mA ⟨by decide +kernel, rfl, rfl, ⟨TX6, 5, rfl⟩, q76, cV50⟩ ?_
  refine mA ⟨by decide +kernel, rfl, rfl⟩ ?_
  refine mA ⟨by decide +kernel, rfl, RX6, TX6, 5, rfl, by decide +kernel, mIn_wsX60, Or.inr (by decide +kernel)⟩ ?_
  refine mA ⟨by decide +kernel, rfl, by decide +kernel⟩ ?_
  refine mA ⟨by decide +kernel, rfl, rfl⟩ ?_
  refine mA ⟨by decide +kernel, rfl, RX6, TX6, 5, rfl, by decide +kernel, mIn_wsX60, Or.inr (by decide +kernel)⟩ ?_
  refine mA ⟨by decide +kernel, rfl⟩ ?_
  refine mA ⟨by decide +kernel, rfl, by decide +kernel⟩ ?_
  refine mA ⟨by decide +kernel, rfl, rfl⟩ ?_
  refine mA ⟨by decide +kernel, rfl, by decide +kernel⟩ ?_
  refine mA ⟨by decide +kernel, rfl, rfl⟩ ?_
  refine mA ⟨by decide +kernel, rfl, RX6, TX6, 5, rfl, by decide +kernel, mIn_wsX60, Or.inr (by decide +kernel)⟩ ?_
  refine mA ⟨by decide +kernel, rfl, rfl, ⟨TX6, 5, rfl⟩, q76, cV50⟩ ?_
  refine mA ⟨by decide +kernel, rfl, rfl⟩ ?_
  exact trivial
theorem swX2_readBlock_10 : okI (mMt0 15).1.cls mTs mMt0 ((mMt0 15).1.name == "<init>") (mMt0 15).2.2.2.1 (mMt0 15).2.1 10 (.lookupswitch 70 #[(0, 34), (6, 44), (7, 54)]) 34 [0, 44, 6, 54, 7, 64, 80] .null := ⟨by decide, mSw_l3 (by decide) (by decide) (by decide) (by decide) (by decide) (by decide) (by decide)⟩
set_option maxRecDepth 100000 in
set_option maxHeartbeats 4000000 in
theorem okX2_readBlock : mAllOk (mMt0 15) tbX2_readBlock := by
  rw [mtX2_readBlock]
  unfold tbX2_readBlock
  refine mA ⟨by decide +kernel, rfl, rfl⟩ ?_
  refine mA ⟨by decide +kernel, rfl, by decide +kernel⟩ ?_
  refine mA ⟨by decide +kernel, rfl, rfl, ⟨TX6, 5, rfl⟩, q71, cV51⟩ ?_
  refine mA ⟨by decide +kernel, rfl⟩ ?_
  refine mA ⟨by decide +kernel, rfl, rfl⟩ ?_
  refine mA ⟨by decide +kernel, rfl, rfl⟩ ?_
  refine mA ⟨by decide +kernel, swX2_readBlock_10⟩ ?_
  refine mA ⟨by decide +kernel, rfl, rfl⟩ ?_
  refine mA ⟨by decide +kernel, rfl, rfl⟩ ?_
  refine mA ⟨by decide +kernel, rfl, rfl⟩ ?_
  refine mA ⟨by decide +kernel, rfl, rfl⟩ ?_
  refine mA ⟨by decide +kernel, rfl, rfl, ⟨TX2, 2, rfl⟩, q98, cV16⟩ ?_
  refine mA ⟨by decide +kernel, rfl, by decide +kernel⟩ ?_
  refine mA ⟨by decide +kernel, rfl, rfl⟩ ?_
  refine mA ⟨by decide +kernel, rfl, rfl⟩ ?_
  refine mA ⟨by decide +kernel, rfl, rfl⟩ ?_
  refine mA ⟨by decide +kernel, rfl, rfl⟩ ?_
  refine mA ⟨by decide +kernel, rfl, rfl, ⟨TX2, 2, rfl⟩, q102, cV20⟩ ?_
  refine mA ⟨by decide +kernel, rfl, by decide +kernel⟩ ?_
  refine mA ⟨by decide +kernel, rfl, rfl⟩ ?_
  refine mA ⟨by decide +kernel, rfl, rfl⟩ ?_
  refine mA ⟨by decide +kernel, rfl, rfl⟩ ?_
  refine mA ⟨by decide +kernel, rfl, rfl, ⟨TX2, 2, rfl⟩, q106, cV21⟩ ?_
  refine mA ⟨by decide +kernel, rfl, rfl⟩ ?_
  refine mA ⟨by decide +kernel, rfl, rfl⟩ ?_
  refine mA ⟨by decide +kernel, rfl, rfl⟩ ?_
  refine mA ⟨by decide +kernel, rfl, rfl⟩ ?_
  refine mA ⟨by decide +kernel, rfl, rfl, ⟨TX2, 2, rfl⟩, q110, cV22⟩ ?_
  refine mA ⟨by decide +kernel, rfl, by decide +kernel⟩ ?_
  refine mA ⟨by decide +kernel, rfl, rfl⟩ ?_
  refine mA ⟨by decide +kernel, rfl, rfl⟩ ?_
  refine mA ⟨by decide +kernel, rfl, rfl⟩ ?_
  refine mA ⟨by decide +kernel, rfl, rfl⟩ ?_
  refine mA ⟨by decide +kernel, rfl, rfl⟩ ?_
  refine mA ⟨by decide +kernel, rfl, rfl, ⟨TX2, 2, rfl⟩, q114, cV17⟩ ?_
  refine mA ⟨by decide +kernel, rfl, rfl⟩ ?_
  exact trivial
set_option maxRecDepth 100000 in
set_option maxHeartbeats 4000000 in
theorem okX2_readPlain : mAllOk (mMt0 16) tbX2_readPlain := by
  rw [mtX2_readPlain]
  unfold tbX2_readPlain
  refine mA ⟨by decide +kernel, rfl, by decide +kernel⟩ ?_
  refine mA ⟨by decide +kernel, rfl, rfl⟩ ?_
  refine mA ⟨by decide +kernel, rfl, rfl⟩ ?_
  refine mA ⟨by decide +kernel, rfl, rfl⟩ ?_
  refine mA ⟨by decide +kernel, rfl, by decide +kernel⟩ ?_
  refine mA ⟨by decide +kernel, rfl, rfl⟩ ?_
  refine mA ⟨by decide +kernel, rfl, rfl, ⟨TX6, 5, rfl⟩, q80, cV49⟩ ?_
  refine mA ⟨by decide +kernel, rfl, by decide +kernel⟩ ?_
  refine mA ⟨by decide +kernel, rfl, rfl⟩ ?_
  refine mA ⟨by decide +kernel, rfl, rfl⟩ ?_
  refine mA ⟨by decide +kernel, rfl, by decide +kernel⟩ ?_
  refine mA ⟨by decide +kernel, rfl, rfl, ⟨TX6, 5, rfl⟩, q71, cV51⟩ ?_
  refine mA ⟨by decide +kernel, rfl, rfl, ⟨TX5, 8, rfl⟩, q118, cV41⟩ ?_
  refine mA ⟨by decide +kernel, rfl, rfl, by decide +kernel⟩ ?_
  refine mA ⟨by decide +kernel, rfl, by decide +kernel⟩ ?_
  refine mA ⟨by decide +kernel, rfl, rfl⟩ ?_
  exact trivial
set_option maxRecDepth 100000 in
set_option maxHeartbeats 4000000 in
theorem okX2_readRests : mAllOk (mMt0 17) tbX2_readRests := by
  rw [mtX2_readRests]
  unfold tbX2_readRests
  refine mA ⟨by decide +kernel, rfl, rfl⟩ ?_
  refine mA ⟨by decide +kernel, rfl, by decide +kernel⟩ ?_
  refine mA ⟨by decide +kernel, rfl, by decide +kernel⟩ ?_
  refine mA ⟨by decide +kernel, rfl, rfl⟩ ?_
  refine mA ⟨by decide +kernel, rfl, by decide +kernel⟩ ?_
  refine mA ⟨by decide +kernel, rfl, rfl, ⟨TX6, 5, rfl⟩, q71, cV51⟩ ?_
  refine mA ⟨by decide +kernel, rfl⟩ ?_
  refine mA ⟨by decide +kernel, rfl, by decide +kernel⟩ ?_
  refine mA ⟨by decide +kernel, rfl⟩ ?_
  refine mA ⟨by decide +kernel, rfl, by decide +kernel⟩ ?_
  refine mA ⟨by decide +kernel, rfl, by decide +kernel⟩ ?_
  refine mA ⟨by decide +kernel, rfl, rfl⟩ ?_
  refine mA ⟨by decide +kernel, rfl, rfl⟩ ?_
  refine mA ⟨by decide +kernel, rfl, RX2, TX2, 2, rfl, by decide +kernel, mIn_wsX20, Or.inl q63⟩ ?_
  refine mA ⟨by decide +kernel, rfl, rfl, ⟨TX7, 2, rfl⟩, q122, cV53⟩ ?_
  refine mA ⟨by decide +kernel, rfl, by decide +kernel⟩ ?_
  refine mA ⟨by decide +kernel, rfl, rfl⟩ ?_
  refine mA ⟨by decide +kernel, rfl, rfl⟩ ?_
  refine mA ⟨by decide +kernel, rfl, rfl⟩ ?_
  refine mA ⟨by decide +kernel, rfl, by decide +kernel⟩ ?_
  refine mA ⟨by decide +kernel, rfl, rfl⟩ ?_
  refine mA ⟨by decide +kernel, rfl, rfl, ⟨TX6, 5, rfl⟩, q80, cV49⟩ ?_
  refine mA ⟨by decide +kernel, rfl, by decide +kernel⟩ ?_
  refine mA ⟨by decide +kernel, rfl, rfl⟩ ?_
  refine mA ⟨by decide +kernel, rfl, by decide +kernel⟩ ?_
  refine mA ⟨by decide +kernel, rfl, rfl, ⟨TX6, 5, rfl⟩, q71, cV51⟩ ?_
  refine mA ⟨by decide +kernel, rfl, by decide +kernel⟩ ?_
  refine mA ⟨by decide +kernel, rfl⟩ ?_
  refine mA ⟨by decide +kernel, rfl, by decide +kernel⟩ ?_
  refine mA ⟨by decide +kernel, rfl, by decide +kernel⟩ ?_
  refine mA ⟨by decide +kernel, rfl, by decide +kernel⟩ ?_
  refine mA ⟨by decide +kernel, rfl, rfl⟩ ?_
  refine mA ⟨by decide +kernel, rfl, rfl⟩ ?_
  refine mA ⟨by decide +kernel, rfl, rfl, ⟨TX2, 2, rfl⟩, q126, cV18⟩ ?_
  refine mA ⟨by decide +kernel, rfl, rfl⟩ ?_
  refine mA ⟨by decide +kernel, rfl, rfl⟩ ?_
  refine mA ⟨by decide +kernel, rfl, rfl⟩ ?_
  refine mA ⟨by decide +kernel, rfl, rfl⟩ ?_
  refine mA ⟨by decide +kernel, rfl, rfl⟩ ?_
  refine mA ⟨by decide +kernel, rfl, RX5, TX5, 8, rfl, by decide +kernel, mIn_wsX50, Or.inr (by decide +kernel)⟩ ?_
  refine mA ⟨by decide +kernel, rfl, rfl⟩ ?_
  refine mA ⟨by decide +kernel, rfl, rfl⟩ ?_
  refine mA ⟨by decide +kernel, rfl, rfl, ⟨TX5, 8, rfl⟩, q130, cV44⟩ ?_
  refine mA ⟨by decide +kernel, rfl⟩ ?_
  refine mA ⟨by decide +kernel, rfl, rfl, ⟨TX5, 8, rfl⟩, q118, cV41⟩ ?_
  refine mA ⟨by decide +kernel, rfl, rfl, by decide +kernel⟩ ?_
  refine mA ⟨by decide +kernel, rfl, by decide +kernel⟩ ?_
  refine mA ⟨by decide +kernel, rfl, rfl⟩ ?_
  exact trivial
set_option maxRecDepth 100000 in
set_option maxHeartbeats 4000000 in
theorem okX2_readRest : mAllOk (mMt0 18) tbX2_readRest := by
  rw [mtX2_readRest]
  unfold tbX2_readRest
  refine mA ⟨by decide +kernel, rfl, rfl⟩ ?_
  refine mA ⟨by decide +kernel, rfl, RX6, TX6, 5, rfl, by decide +kernel, mIn_wsX60, Or.inr (by decide +kernel)⟩ ?_
  refine mA ⟨by decide +kernel, rfl, rfl⟩ ?_
  refine mA ⟨by decide +kernel, rfl, rfl⟩ ?_
  refine mA ⟨by decide +kernel, rfl, by decide +kernel⟩ ?_
  refine mA ⟨by decide +kernel, rfl, rfl, ⟨TX6, 5, rfl⟩, q71, cV51⟩ ?_
  refine mA ⟨by decide +kernel, rfl, by decide +kernel⟩ ?_
  refine mA ⟨by decide +kernel, rfl⟩ ?_
  refine mA ⟨by decide +kernel, rfl, by decide +kernel⟩ ?_
  refine mA ⟨by decide +kernel, rfl, rfl⟩ ?_
  refine mA ⟨by decide +kernel, rfl, rfl⟩ ?_
  refine mA ⟨by decide +kernel, rfl, rfl, ⟨TX2, 2, rfl⟩, q134, cV19⟩ ?_
  refine mA ⟨by decide +kernel, rfl, rfl⟩ ?_
  refine mA ⟨by decide +kernel, rfl, rfl⟩ ?_
  refine mA ⟨by decide +kernel, rfl, RX2, TX2, 2, rfl, by decide +kernel, mIn_wsX20, Or.inl q63⟩ ?_
  refine mA ⟨by decide +kernel, rfl, rfl, ⟨TX7, 2, rfl⟩, q138, cV55⟩ ?_
  refine mA ⟨by decide +kernel, rfl, by decide +kernel⟩ ?_
  refine mA ⟨by decide +kernel, rfl, rfl⟩ ?_
  refine mA ⟨by decide +kernel, rfl, by decide +kernel⟩ ?_
  refine mA ⟨by decide +kernel, rfl, rfl⟩ ?_
  refine mA ⟨by decide +kernel, rfl, rfl, ⟨TX6, 5, rfl⟩, q76, cV50⟩ ?_
  refine mA ⟨by decide +kernel, rfl, by decide +kernel⟩ ?_
  refine mA ⟨by decide +kernel, rfl, rfl⟩ ?_
  refine mA ⟨by decide +kernel, rfl, rfl⟩ ?_
  refine mA ⟨by decide +kernel, rfl, rfl⟩ ?_
  refine mA ⟨by decide +kernel, rfl, RX2, TX2, 2, rfl, by decide +kernel, mIn_wsX20, Or.inl q63⟩ ?_
  refine mA ⟨by decide +kernel, rfl, RX7, TX7, 2, rfl, by decide +kernel, mIn_wsX70, Or.inr (by decide +kernel)⟩ ?_
  refine mA ⟨by decide +kernel, rfl, rfl, ⟨TX6, 5, rfl⟩, q71, cV51⟩ ?_
  refine mA ⟨by decide +kernel, rfl, rfl⟩ ?_
  refine mA ⟨by decide +kernel, rfl, RX2, TX2, 2, rfl, by decide +kernel, mIn_wsX20, Or.inl q63⟩ ?_
  refine mA ⟨by decide +kernel, rfl, rfl, ⟨TX7, 2, rfl⟩, q142, cV56⟩ ?_
  refine mA ⟨by decide +kernel, rfl⟩ ?_
  refine mA ⟨by decide +kernel, rfl, rfl⟩ ?_
  exact trivial
set_option maxRecDepth 100000 in
set_option maxHeartbeats 4000000 in
theorem okX2_readNewWindow : mAllOk (mMt0 19) tbX2_readNewWindow := by
  rw [mtX2_readNewWindow]
  unfold tbX2_readNewWindow
  refine mA ⟨by decide +kernel, rfl, rfl⟩ ?_
  refine mA ⟨by decide +kernel, rfl, RX6, TX6, 5, rfl, by decide +kernel, mIn_wsX60, Or.inr (by decide +kernel)⟩ ?_
  refine mA ⟨by decide +kernel, rfl, rfl⟩ ?_
  refine mA ⟨by decide +kernel, rfl, rfl⟩ ?_
  refine mA ⟨by decide +kernel, rfl, by decide +kernel⟩ ?_
  refine mA ⟨by decide +kernel, rfl, rfl, ⟨TX6, 5, rfl⟩, q71, cV51⟩ ?_
  refine mA ⟨by decide +kernel, rfl⟩ ?_
  refine mA ⟨by decide +kernel, rfl, rfl⟩ ?_
  refine mA ⟨by decide +kernel, rfl, rfl⟩ ?_
  refine mA ⟨by decide +kernel, rfl, by decide +kernel⟩ ?_
  refine mA ⟨by decide +kernel, rfl, rfl, ⟨TX6, 5, rfl⟩, q71, cV51⟩ ?_
  refine mA ⟨by decide +kernel, rfl⟩ ?_
  refine mA ⟨by decide +kernel, rfl, by decide +kernel⟩ ?_
  refine mA ⟨by decide +kernel, rfl⟩ ?_
  refine mA ⟨by decide +kernel, rfl, rfl⟩ ?_
  refine mA ⟨by decide +kernel, rfl, rfl⟩ ?_
  refine mA ⟨by decide +kernel, rfl, rfl⟩ ?_
  refine mA ⟨by decide +kernel, rfl⟩ ?_
  refine mA ⟨by decide +kernel, rfl, by decide +kernel⟩ ?_
  refine mA ⟨by decide +kernel, rfl, by decide +kernel⟩ ?_
  refine mA ⟨by decide +kernel, rfl, rfl⟩ ?_
  refine mA ⟨by decide +kernel, rfl, by decide +kernel⟩ ?_
  refine mA ⟨by decide +kernel, rfl, rfl⟩ ?_
  refine mA ⟨by decide +kernel, rfl, rfl, ⟨TX6, 5, rfl⟩, q76, cV50⟩ ?_
  refine mA ⟨by decide +kernel, rfl, by decide +kernel⟩ ?_
  refine mA ⟨by decide +kernel, rfl, rfl⟩ ?_
  refine mA ⟨by decide +kernel, rfl, rfl⟩ ?_
  refine mA ⟨by decide +kernel, rfl, rfl⟩ ?_
  refine mA ⟨by decide +kernel, rfl, rfl, ⟨TX6, 5, rfl⟩, q71, cV51⟩ ?_
  refine mA ⟨by decide +kernel, rfl, rfl⟩ ?_
  refine mA ⟨by decide +kernel, rfl, rfl⟩ ?_
  refine mA ⟨by decide +kernel, rfl, by decide +kernel⟩ ?_
  refine mA ⟨by decide +kernel, rfl⟩ ?_
  refine mA ⟨by decide +kernel, rfl, by decide +kernel⟩ ?_
  refine mA ⟨by decide +kernel, rfl⟩ ?_
  refine mA ⟨by decide +kernel, rfl, by decide +kernel⟩ ?_
  refine mA ⟨by decide +kernel, rfl, rfl⟩ ?_
  refine mA ⟨by decide +kernel, rfl, rfl⟩ ?_
  refine mA ⟨by decide +kernel, rfl, by decide +kernel⟩ ?_
  refine mA ⟨by decide +kernel, rfl⟩ ?_
  refine mA ⟨by decide +kernel, rfl⟩ ?_
  refine mA ⟨by decide +kernel, rfl, by decide +kernel⟩ ?_
  refine mA ⟨by decide +kernel, rfl⟩ ?_
  refine mA ⟨by decide +kernel, rfl, by decide +kernel⟩ ?_
  refine mA ⟨by decide +kernel, rfl, rfl⟩ ?_
  refine mA ⟨by decide +kernel, rfl, by decide +kernel⟩ ?_
  refine mA ⟨by decide +kernel, rfl, rfl⟩ ?_
  refine mA ⟨by decide +kernel, rfl, rfl, ⟨TX6, 5, rfl⟩, q76, cV50⟩ ?_
  refine mA ⟨by decide +kernel, rfl, rfl⟩ ?_
  refine mA ⟨by decide +kernel, rfl, RX2, TX2, 2, rfl, by decide +kernel, mIn_wsX20, Or.inl q63⟩ ?_
  refine mA ⟨by decide +kernel, rfl, rfl⟩ ?_
  refine mA ⟨by decide +kernel, rfl, rfl⟩ ?_
  refine mA ⟨by decide +kernel, rfl, rfl, ⟨TX7, 2, rfl⟩, q146, cV54⟩ ?_
  refine mA ⟨by decide +kernel, rfl, rfl⟩ ?_
  refine mA ⟨by decide +kernel, rfl, rfl⟩ ?_
  refine mA ⟨by decide +kernel, rfl, RX2, TX2, 2, rfl, by decide +kernel, mIn_wsX20, Or.inl q63⟩ ?_
  refine mA ⟨by decide +kernel, rfl, rfl, ⟨TX7, 2, rfl⟩, q142, cV56⟩ ?_
  refine mA ⟨by decide +kernel, rfl⟩ ?_
  refine mA ⟨by decide +kernel, rfl, rfl⟩ ?_
  exact trivial
set_option maxRecDepth 100000 in
set_option maxHeartbeats 4000000 in
theorem okX2_readDecimals : mAllOk (mMt0 20) tbX2_readDecimals := by
  rw [mtX2_readDecimals]
  unfold tbX2_readDecimals
  refine mA ⟨by decide +kernel, rfl, rfl⟩ ?_
  refine mA ⟨by decide +kernel, rfl, by decide +kernel⟩ ?_
  refine mA ⟨by decide +kernel, rfl, rfl, ⟨TX6, 5, rfl⟩, q71, cV51⟩ ?_
  refine mA ⟨by decide +kernel, rfl⟩ ?_
  refine mA ⟨by decide +kernel, rfl, rfl⟩ ?_
  refine mA ⟨by decide +kernel, rfl, rfl⟩ ?_
  refine mA ⟨by decide +kernel, rfl, RX6, TX6, 5, rfl, by decide +kernel, mIn_wsX60, Or.inr (by decide +kernel)⟩ ?_
  refine mA ⟨by decide +kernel, rfl, rfl⟩ ?_
  refine mA ⟨by decide +kernel, rfl, rfl⟩ ?_
  refine mA ⟨by decide +kernel, rfl, by decide +kernel⟩ ?_
  refine mA ⟨by decide +kernel, rfl, rfl, ⟨TX6, 5, rfl⟩, q71, cV51⟩ ?_
  refine mA ⟨by decide +kernel, rfl⟩ ?_
  refine mA ⟨by decide +kernel, rfl, rfl⟩ ?_
  refine mA ⟨by decide +kernel, rfl, rfl⟩ ?_
  refine mA ⟨by decide +kernel, rfl, by decide +kernel⟩ ?_
  refine mA ⟨by decide +kernel, rfl, by decide +kernel⟩ ?_
  refine mA ⟨by decide +kernel, rfl, rfl⟩ ?_
  refine mA ⟨by decide +kernel, rfl, by decide +kernel⟩ ?_
  refine mA ⟨by decide +kernel, rfl, rfl⟩ ?_
  refine mA ⟨by decide +kernel, rfl, rfl, ⟨TX6, 5, rfl⟩, q76, cV50⟩ ?_
  refine mA ⟨by decide +kernel, rfl, by decide +kernel⟩ ?_
  refine mA ⟨by decide +kernel, rfl, rfl⟩ ?_
  refine mA ⟨by decide +kernel, rfl, by decide +kernel⟩ ?_
  refine mA ⟨by decide +kernel, rfl, rfl⟩ ?_
  refine mA ⟨by decide +kernel, rfl, rfl⟩ ?_
  refine mA ⟨by decide +kernel, rfl, rfl⟩ ?_
  refine mA ⟨by decide +kernel, rfl, by decide +kernel⟩ ?_
  refine mA ⟨by decide +kernel, rfl, rfl⟩ ?_
  refine mA ⟨by decide +kernel, rfl, rfl, ⟨TX6, 5, rfl⟩, q80, cV49⟩ ?_
  refine mA ⟨by decide +kernel, rfl, by decide +kernel⟩ ?_
  refine mA ⟨by decide +kernel, rfl, rfl⟩ ?_
  refine mA ⟨by decide +kernel, rfl, RX6, TX6, 5, rfl, by decide +kernel, mIn_wsX60, Or.inr (by decide +kernel)⟩ ?_
  refine mA ⟨by decide +kernel, rfl, rfl⟩ ?_
  refine mA ⟨by decide +kernel, rfl, rfl⟩ ?_
  refine mA ⟨by decide +kernel, rfl, rfl⟩ ?_
  refine mA ⟨by decide +kernel, rfl, rfl, ⟨TX6, 5, rfl⟩, q71, cV51⟩ ?_
  refine mA ⟨by decide +kernel, rfl, rfl⟩ ?_
  refine mA ⟨by decide +kernel, rfl, rfl⟩ ?_
  refine mA ⟨by decide +kernel, rfl, by decide +kernel⟩ ?_
  refine mA ⟨by decide +kernel, rfl⟩ ?_
  refine mA ⟨by decide +kernel, rfl, rfl⟩ ?_
  refine mA ⟨by decide +kernel, rfl, rfl⟩ ?_
  refine mA ⟨by decide +kernel, rfl, rfl⟩ ?_
  refine mA ⟨by decide +kernel, rfl, by decide +kernel⟩ ?_
  refine mA ⟨by decide +kernel, rfl⟩ ?_
  refine mA ⟨by decide +kernel, rfl, by decide +kernel⟩ ?_
  refine mA ⟨by decide +kernel, rfl⟩ ?_
  refine mA ⟨by decide +kernel, rfl, by decide +kernel⟩ ?_
  refine mA ⟨by decide +kernel, rfl, rfl⟩ ?_
  refine mA ⟨by decide +kernel, rfl, by decide +kernel⟩ ?_
  refine mA ⟨by decide +kernel, rfl, rfl⟩ ?_
  refine mA ⟨by decide +kernel, rfl⟩ ?_
  refine mA ⟨by decide +kernel, rfl, by decide +kernel⟩ ?_
  refine mA ⟨by decide +kernel, rfl⟩ ?_
  refine mA ⟨by decide +kernel, rfl⟩ ?_
  refine mA ⟨by decide +kernel, rfl, rfl⟩ ?_
  refine mA ⟨by decide +kernel, rfl, rfl⟩ ?_
  refine mA ⟨by decide +kernel, rfl, q150, q32, q6, q33⟩ ?_
  refine mA ⟨by decide +kernel, rfl, _, rfl, q151⟩ ?_
  refine mA ⟨by decide +kernel, rfl⟩ ?_
  refine mA ⟨by decide +kernel, rfl, by decide +kernel⟩ ?_
  refine mA ⟨by decide +kernel, rfl, rfl⟩ ?_
  refine mA ⟨by decide +kernel, rfl, by decide +kernel⟩ ?_
  refine mA ⟨by decide +kernel, rfl, rfl⟩ ?_
  refine mA ⟨by decide +kernel, rfl, rfl, ⟨TX6, 5, rfl⟩, q76, cV50⟩ ?_
  refine mA ⟨by decide +kernel, rfl, rfl⟩ ?_
  refine mA ⟨by decide +kernel, rfl, rfl⟩ ?_
  refine mA ⟨by decide +kernel, rfl, rfl⟩ ?_
  refine mA ⟨by decide +kernel, rfl, rfl⟩ ?_
  refine mA ⟨by decide +kernel, rfl, q152, cS7⟩ ?_
  refine mA ⟨by decide +kernel, rfl, rfl, ⟨TX5, 8, rfl⟩, q118, cV41⟩ ?_
  refine mA ⟨by decide +kernel, rfl, rfl, by decide +kernel⟩ ?_
  refine mA ⟨by decide +kernel, rfl, by decide +kernel⟩ ?_
  refine mA ⟨by decide +kernel, rfl, rfl⟩ ?_
  exact trivial
set_option maxRecDepth 100000 in
set_option maxHeartbeats 4000000 in
theorem okX2_readHeads : mAllOk (mMt0 21) tbX2_readHeads := by
  rw [mtX2_readHeads]
  unfold tbX2_readHeads
  refine mA ⟨by decide +kernel, rfl, by decide +kernel⟩ ?_
  refine mA ⟨by decide +kernel, rfl, rfl⟩ ?_
  refine mA ⟨by decide +kernel, rfl, rfl⟩ ?_
  refine mA ⟨by decide +kernel, rfl, rfl⟩ ?_
  refine mA ⟨by decide +kernel, rfl, by decide +kernel⟩ ?_
  refine mA ⟨by decide +kernel, rfl, rfl⟩ ?_
  refine mA ⟨by decide +kernel, rfl, by decide +kernel⟩ ?_
  refine mA ⟨by decide +kernel, rfl, by decide +kernel⟩ ?_
  refine mA ⟨by decide +kernel, rfl, rfl⟩ ?_
  refine mA ⟨by decide +kernel, rfl, by decide +kernel⟩ ?_
  refine mA ⟨by decide +kernel, rfl, rfl⟩ ?_
  refine mA ⟨by decide +kernel, rfl, by decide +kernel⟩ ?_
  refine mA ⟨by decide +kernel, rfl, rfl, ⟨TX6, 5, rfl⟩, q71, cV51⟩ ?_
  refine mA ⟨by decide +kernel, rfl, by decide +kernel⟩ ?_
  refine mA ⟨by decide +kernel, rfl⟩ ?_
  refine mA ⟨by decide +kernel, rfl, by decide +kernel⟩ ?_
  refine mA ⟨by decide +kernel, rfl, by decide +kernel⟩ ?_
  refine mA ⟨by decide +kernel, rfl, by decide +kernel⟩ ?_
  refine mA ⟨by decide +kernel, rfl, by decide +kernel⟩ ?_
  refine mA ⟨by decide +kernel, rfl, rfl⟩ ?_
  refine mA ⟨by decide +kernel, rfl, rfl⟩ ?_
  refine mA ⟨by decide +kernel, rfl, RX2, TX2, 2, rfl, by decide +kernel, mIn_wsX20, Or.inl q65⟩ ?_
  refine mA ⟨by decide +kernel, rfl, rfl⟩ ?_
  refine mA ⟨by decide +kernel, rfl, rfl⟩ ?_
  refine mA ⟨by decide +kernel, rfl, by decide +kernel⟩ ?_
  refine mA ⟨by decide +kernel, rfl, rfl⟩ ?_
  refine mA ⟨by decide +kernel, rfl, RX2, TX2, 2, rfl, by decide +kernel, mIn_wsX20, Or.inl q65⟩ ?_
  refine mA ⟨by decide +kernel, rfl, rfl⟩ ?_
  refine mA ⟨by decide +kernel, rfl, by decide +kernel⟩ ?_
  refine mA ⟨by decide +kernel, rfl⟩ ?_
  refine mA ⟨by decide +kernel, rfl⟩ ?_
  refine mA ⟨by decide +kernel, rfl, by decide +kernel⟩ ?_
  refine mA ⟨by decide +kernel, rfl, rfl⟩ ?_
  refine mA ⟨by decide +kernel, rfl, by decide +kernel⟩ ?_
  refine mA ⟨by decide +kernel, rfl, rfl, ⟨TX6, 5, rfl⟩, q71, cV51⟩ ?_
  refine mA ⟨by decide +kernel, rfl⟩ ?_
  refine mA ⟨by decide +kernel, rfl, rfl, by decide +kernel⟩ ?_
  refine mA ⟨by decide +kernel, rfl, by decide +kernel⟩ ?_
  refine mA ⟨by decide +kernel, rfl, rfl⟩ ?_
  exact trivial
set_option maxRecDepth 100000 in
set_option maxHeartbeats 4000000 in
theorem okX2_readFractions : mAllOk (mMt0 22) tbX2_readFractions := by
  rw [mtX2_readFractions]
  unfold tbX2_readFractions
  refine mA ⟨by decide +kernel, rfl, rfl⟩ ?_
  refine mA ⟨by decide +kernel, rfl, RX6, TX6, 5, rfl, by decide +kernel, mIn_wsX60, Or.inr (by decide +kernel)⟩ ?_
  refine mA ⟨by decide +kernel, rfl, rfl⟩ ?_
  refine mA ⟨by decide +kernel, rfl, rfl⟩ ?_
  refine mA ⟨by decide +kernel, rfl, by decide +kernel⟩ ?_
  refine mA ⟨by decide +kernel, rfl, rfl, ⟨TX6, 5, rfl⟩, q71, cV51⟩ ?_
  refine mA ⟨by decide +kernel, rfl⟩ ?_
  refine mA ⟨by decide +kernel, rfl, rfl⟩ ?_
  refine mA ⟨by decide +kernel, rfl, rfl⟩ ?_
  refine mA ⟨by decide +kernel, rfl, by decide +kernel⟩ ?_
  refine mA ⟨by decide +kernel, rfl, by decide +kernel⟩ ?_
  refine mA ⟨by decide +kernel, rfl, rfl⟩ ?_
  refine mA ⟨by decide +kernel, rfl, by decide +kernel⟩ ?_
  refine mA ⟨by decide +kernel, rfl, rfl⟩ ?_
  refine mA ⟨by decide +kernel, rfl, rfl, ⟨TX6, 5, rfl⟩, q76, cV50⟩ ?_
  refine mA ⟨by decide +kernel, rfl, by decide +kernel⟩ ?_
  refine mA ⟨by decide +kernel, rfl, rfl⟩ ?_
  refine mA ⟨by decide +kernel, rfl, rfl⟩ ?_
  refine mA ⟨by decide +kernel, rfl, rfl⟩ ?_
  refine mA ⟨by decide +kernel, rfl, by decide +kernel⟩ ?_
  refine mA ⟨by decide +kernel, rfl, rfl⟩ ?_
  refine mA ⟨by decide +kernel, rfl, by decide +kernel⟩ ?_
  refine mA ⟨by decide +kernel, rfl, by decide +kernel⟩ ?_
  refine mA ⟨by decide +kernel, rfl, rfl⟩ ?_
  refine mA ⟨by decide +kernel, rfl, rfl, ⟨TX6, 5, rfl⟩, q80, cV49⟩ ?_
  refine mA ⟨by decide +kernel, rfl, by decide +kernel⟩ ?_
  refine mA ⟨by decide +kernel, rfl, rfl⟩ ?_
  refine mA ⟨by decide +kernel, rfl, rfl⟩ ?_
  refine mA ⟨by decide +kernel, rfl, RX2, TX2, 2, rfl, by decide +kernel, mIn_wsX20, Or.inl q65⟩ ?_
  refine mA ⟨by decide +kernel, rfl, rfl⟩ ?_
  refine mA ⟨by decide +kernel, rfl⟩ ?_
  refine mA ⟨by decide +kernel, rfl, by decide +kernel⟩ ?_
  refine mA ⟨by decide +kernel, rfl⟩ ?_
  refine mA ⟨by decide +kernel, rfl, rfl⟩ ?_
  refine mA ⟨by decide +kernel, rfl, by decide +kernel⟩ ?_
  refine mA ⟨by decide +kernel, rfl, rfl⟩ ?_
  refine mA ⟨by decide +kernel, rfl⟩ ?_
  refine mA ⟨by decide +kernel, rfl, rfl, ⟨TX6, 5, rfl⟩, q71, cV51⟩ ?_
  refine mA ⟨by decide +kernel, rfl, rfl⟩ ?_
  refine mA ⟨by decide +kernel, rfl⟩ ?_
  refine mA ⟨by decide +kernel, rfl⟩ ?_
  refine mA ⟨by decide +kernel, rfl, rfl, ⟨TX5, 8, rfl⟩, q118, cV41⟩ ?_
  refine mA ⟨by decide +kernel, rfl, rfl, by decide +kernel⟩ ?_
  refine mA ⟨by decide +kernel, rfl, by decide +kernel⟩ ?_
  refine mA ⟨by decide +kernel, rfl, rfl⟩ ?_
  exact trivial
