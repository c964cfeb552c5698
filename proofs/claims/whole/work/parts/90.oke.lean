/-! the words of the law, checked by the kernel -/
theorem ok_211_0 : (((P_c 211).drop 0).take 60).all (okE 211) = true := by decide +kernel
theorem ok_211_60 : (((P_c 211).drop 60).take 60).all (okE 211) = true := by decide +kernel
theorem ok_211_120 : (((P_c 211).drop 120).take 60).all (okE 211) = true := by decide +kernel
