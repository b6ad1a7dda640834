theorem okl_430 : ((tb119.drop 430).take 43).all (okD 119) = true := by decide +kernel
theorem okl_473 : ((tb119.drop 473).take 43).all (okD 119) = true := by decide +kernel
theorem okl_516 : ((tb119.drop 516).take 43).all (okD 119) = true := by decide +kernel
theorem okl_559 : ((tb119.drop 559).take 43).all (okD 119) = true := by decide +kernel
theorem okl_602 : ((tb119.drop 602).take 43).all (okD 119) = true := by decide +kernel
