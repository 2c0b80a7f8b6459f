def ts_1 : List mT := [(123, [.inr (.inl 0), .inl 13], (hB 144), some (.inl 41), (hB 144)),
  (123, [.inr (.inl 0), .inl 12], (hB 144), some (.inl 41), (hB 144))]
theorem ts_1_t : ta ts_1 = true := by decide +kernel
def ts_2 : List mT := [(123, [.inr (.inl 0), .inl 11], (hB 144), some (.inl 41), (hB 144)),
  (123, [.inr (.inl 0), .inl 10], (hB 144), some (.inl 41), (hB 144))]
theorem ts_2_t : ta ts_2 = true := by decide +kernel
def ts_3 : List mT := [(123, [.inr (.inl 0), .inl 9], (hB 144), some (.inl 41), (hB 144)),
  (123, [.inr (.inl 0), .inl 8], (hB 144), some (.inl 41), (hB 144))]
theorem ts_3_t : ta ts_3 = true := by decide +kernel
