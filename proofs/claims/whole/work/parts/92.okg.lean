/-! the words of the law, checked by the kernel -/
theorem ok_211_360 : (((P_c 211).drop 360).take 60).all (okE 211) = true := by decide +kernel
theorem ok_211_420 : (((P_c 211).drop 420).take 60).all (okE 211) = true := by decide +kernel
theorem ok_211_480 : (((P_c 211).drop 480).take 60).all (okE 211) = true := by decide +kernel
