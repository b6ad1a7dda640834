theorem okl_0 : ((tb119.drop 0).take 43).all (okD 119) = true := by decide +kernel
theorem okl_43 : ((tb119.drop 43).take 43).all (okD 119) = true := by decide +kernel
theorem okl_86 : ((tb119.drop 86).take 43).all (okD 119) = true := by decide +kernel
theorem okl_129 : ((tb119.drop 129).take 43).all (okD 119) = true := by decide +kernel
theorem okl_172 : ((tb119.drop 172).take 43).all (okD 119) = true := by decide +kernel
