/-! the words of the law, checked by the kernel -/
theorem ok_211_540 : (((P_c 211).drop 540).take 60).all (okE 211) = true := by decide +kernel
theorem ok_211_600 : (((P_c 211).drop 600).take 60).all (okE 211) = true := by decide +kernel
theorem ok_211_660 : (((P_c 211).drop 660).take 60).all (okE 211) = true := by decide +kernel
