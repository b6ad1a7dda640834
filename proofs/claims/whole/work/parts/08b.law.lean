theorem okl_215 : ((tb119.drop 215).take 43).all (okD 119) = true := by decide +kernel
theorem okl_258 : ((tb119.drop 258).take 43).all (okD 119) = true := by decide +kernel
theorem okl_301 : ((tb119.drop 301).take 43).all (okD 119) = true := by decide +kernel
theorem okl_344 : ((tb119.drop 344).take 43).all (okD 119) = true := by decide +kernel
theorem okl_387 : ((tb119.drop 387).take 43).all (okD 119) = true := by decide +kernel
