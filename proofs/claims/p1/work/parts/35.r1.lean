def tb_3 : List mT := [(6, [.inr (.inl 0), .inl 3, .inl 3], (hB 8), some (.inl 9), (hB 16)),
  (6, [.inr (.inl 0), .inl 2, .inl 0], (hB 16), some (.inl 0), (hB 0)),
  (6, [.inr (.inl 0), .inl 3, .inl 4], (hB 0), some (.inl 13), (hB 144)),
  (6, [.inr (.inl 0), .inl 3, .inl 3], (hB 144), some (.inl 9), (hB 16)),
  (6, [.inr (.inl 0), .inl 0, .inl 4], (hB 16), some (.inl 18), (hB 33)),
  (6, [.inr (.inl 0), .inl 3, .inl 2], (hB 33), some (.inl 4), (hB 128)),
  (6, [.inr (.inl 0), .inl 0, .inl 5], (hB 128), some (.inl 23), (hB 34)),
  (6, [.inr (.inl 0), .inl 3, .inl 3], (hB 34), some (.inl 9), (hB 16)),
  (6, [.inr (.inl 0), .inl 1, .inl 5], (hB 16), some (.inl 9), (hB 64)),
  (6, [.inr (.inl 0), .inl 3, .inl 2], (hB 64), some (.inl 4), (hB 128))]
theorem tb_3_t : ta tb_3 = true := by decide +kernel
def tb_4 : List mT := [(6, [.inr (.inl 0), .inl 1, .inl 6], (hB 128), some (.inl 13), (hB 68)),
  (6, [.inr (.inl 0), .inl 3, .inl 3], (hB 68), some (.inl 9), (hB 16)),
  (6, [.inr (.inl 0), .inl 2, .inl 1], (hB 16), some (.inl 14), (hB 8)),
  (6, [.inr (.inl 0), .inl 3, .inl 2], (hB 8), some (.inl 4), (hB 128)),
  (6, [.inr (.inl 0), .inl 2, .inl 2], (hB 128), some (.inl 14), (hB 8))]
theorem tb_4_t : ta tb_4 = true := by decide +kernel
def ts_0 : List mT := [(123, [.inr (.inl 0), .inl 15], (hB 0), some (.inl 41), (hB 144)),
  (123, [.inr (.inl 0), .inl 14], (hB 144), some (.inl 41), (hB 144))]
theorem ts_0_t : ta ts_0 = true := by decide +kernel
