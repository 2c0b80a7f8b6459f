def ts_4 : List mT := [(123, [.inr (.inl 0), .inl 7], (hB 144), some (.inl 41), (hB 144)),
  (123, [.inr (.inl 0), .inl 6], (hB 144), some (.inl 40), (hB 144))]
theorem ts_4_t : ta ts_4 = true := by decide +kernel
def ts_5 : List mT := [(123, [.inr (.inl 0), .inl 5], (hB 144), some (.inl 39), (hB 144)),
  (123, [.inr (.inl 0), .inl 4], (hB 144), some (.inl 34), (hB 144))]
theorem ts_5_t : ta ts_5 = true := by decide +kernel
def ts_6 : List mT := [(123, [.inr (.inl 0), .inl 3], (hB 144), some (.inl 29), (hB 16)),
  (123, [.inr (.inl 0), .inl 2], (hB 16), some (.inl 20), (hB 128))]
theorem ts_6_t : ta ts_6 = true := by decide +kernel
