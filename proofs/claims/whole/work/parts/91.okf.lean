/-! the words of the law, checked by the kernel -/
theorem ok_211_180 : (((P_c 211).drop 180).take 60).all (okE 211) = true := by decide +kernel
theorem ok_211_240 : (((P_c 211).drop 240).take 60).all (okE 211) = true := by decide +kernel
theorem ok_211_300 : (((P_c 211).drop 300).take 60).all (okE 211) = true := by decide +kernel
