/-! the words of every instruction, checked by the kernel -/
theorem ok_acp : (inW 245 (.native arraycopyName) && inW 244 (.static arraycopyName) && inW 66 (.initialized "java/lang/System")) = true := by decide +kernel
theorem ok_oi : (inW 73 (.instanceMethod objectInit) && inW 74 (.code objectInit ⟨#[0xb1]⟩ 1 none)) = true := by decide +kernel
theorem ok_arr : (inW 118 (.arrayClass .int) && inW 726 (.arrayClass .boolean)) = true := by decide +kernel
