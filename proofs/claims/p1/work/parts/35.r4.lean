def ts_7 : List mT := [(123, [.inr (.inl 0), .inl 1], (hB 128), some (.inl 14), (hB 0))]
theorem ts_7_t : ta ts_7 = true := by decide +kernel
