def tb_0 : List mT := [(6, [.inr (.inl 0), .inl 0, .inl 4], (hB 0), some (.inl 18), (hB 33)),
  (6, [.inr (.inl 0), .inl 1, .inl 5], (hB 33), some (.inl 9), (hB 64)),
  (6, [.inr (.inl 0), .inl 0, .inl 3], (hB 64), some (.inl 14), (hB 32)),
  (6, [.inr (.inl 0), .inl 1, .inl 6], (hB 32), some (.inl 13), (hB 68)),
  (6, [.inr (.inl 0), .inl 0, .inl 4], (hB 68), some (.inl 18), (hB 33)),
  (6, [.inr (.inl 0), .inl 2, .inl 1], (hB 33), some (.inl 14), (hB 8)),
  (6, [.inr (.inl 0), .inl 0, .inl 3], (hB 8), some (.inl 14), (hB 32)),
  (6, [.inr (.inl 0), .inl 2, .inl 2], (hB 32), some (.inl 14), (hB 8))]
theorem tb_0_t : ta tb_0 = true := by decide +kernel
def tb_1 : List mT := [(6, [.inr (.inl 0), .inl 0, .inl 4], (hB 8), some (.inl 18), (hB 33)),
  (6, [.inr (.inl 0), .inl 3, .inl 3], (hB 33), some (.inl 9), (hB 16)),
  (6, [.inr (.inl 0), .inl 0, .inl 3], (hB 16), some (.inl 14), (hB 32)),
  (6, [.inr (.inl 0), .inl 3, .inl 4], (hB 32), some (.inl 13), (hB 144)),
  (6, [.inr (.inl 0), .inl 1, .inl 5], (hB 144), some (.inl 9), (hB 64)),
  (6, [.inr (.inl 0), .inl 0, .inl 4], (hB 64), some (.inl 18), (hB 33)),
  (6, [.inr (.inl 0), .inl 1, .inl 4], (hB 33), some (.inl 9), (hB 64))]
theorem tb_1_t : ta tb_1 = true := by decide +kernel
def tb_2 : List mT := [(6, [.inr (.inl 0), .inl 0, .inl 5], (hB 64), some (.inl 23), (hB 34)),
  (6, [.inr (.inl 0), .inl 1, .inl 5], (hB 34), some (.inl 9), (hB 64)),
  (6, [.inr (.inl 0), .inl 2, .inl 1], (hB 64), some (.inl 14), (hB 8)),
  (6, [.inr (.inl 0), .inl 1, .inl 4], (hB 8), some (.inl 9), (hB 64)),
  (6, [.inr (.inl 0), .inl 2, .inl 2], (hB 64), some (.inl 14), (hB 8)),
  (6, [.inr (.inl 0), .inl 1, .inl 5], (hB 8), some (.inl 9), (hB 64)),
  (6, [.inr (.inl 0), .inl 3, .inl 3], (hB 64), some (.inl 9), (hB 16)),
  (6, [.inr (.inl 0), .inl 1, .inl 4], (hB 16), some (.inl 9), (hB 64)),
  (6, [.inr (.inl 0), .inl 3, .inl 4], (hB 64), some (.inl 13), (hB 144)),
  (6, [.inr (.inl 0), .inl 2, .inl 1], (hB 144), some (.inl 14), (hB 8)),
  (6, [.inr (.inl 0), .inl 2, .inl 0], (hB 33), some (.inl 0), (hB 0)),
  (6, [.inr (.inl 0), .inl 0, .inl 5], (hB 0), some (.inl 23), (hB 34)),
  (6, [.inr (.inl 0), .inl 2, .inl 1], (hB 34), some (.inl 14), (hB 8)),
  (6, [.inr (.inl 0), .inl 2, .inl 0], (hB 64), some (.inl 0), (hB 0)),
  (6, [.inr (.inl 0), .inl 1, .inl 6], (hB 0), some (.inl 13), (hB 68)),
  (6, [.inr (.inl 0), .inl 2, .inl 1], (hB 68), some (.inl 14), (hB 8))]
theorem tb_2_t : ta tb_2 = true := by decide +kernel
