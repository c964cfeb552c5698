/-! the words of the law, checked by the kernel -/
theorem ok_211_720 : (((P_c 211).drop 720).take 60).all (okE 211) = true := by decide +kernel
theorem ok_211_780 : (((P_c 211).drop 780).take 60).all (okE 211) = true := by decide +kernel
theorem ok_211_840 : (((P_c 211).drop 840).take 60).all (okE 211) = true := by decide +kernel
