/-! more words: those of members of the JDK that have names of their own -/
theorem wML_X5_288 : Cond.methodLink RX5 288 ⟨"java/lang/IndexOutOfBoundsException", "<init>", "(Ljava/lang/String;)V"⟩ ∈ gTb := gm (List.mem_of_getElem? (i := 243) (by decide +kernel)) rfl
theorem wML_X5_303 : Cond.methodLink RX5 303 ⟨"java/lang/IllegalArgumentException", "<init>", "(Ljava/lang/String;)V"⟩ ∈ gTb := gm (List.mem_of_getElem? (i := 282) (by decide +kernel)) rfl
theorem wML_Jx4a65c_112 : Cond.methodLink RJx4a65c 112 ⟨"java/lang/System", "arraycopy", "(Ljava/lang/Object;ILjava/lang/Object;II)V"⟩ ∈ gTb := gm (List.mem_of_getElem? (i := 319) (by decide +kernel)) rfl
theorem w_static_320 : Cond.static ⟨"java/lang/System", "arraycopy", "(Ljava/lang/Object;ILjava/lang/Object;II)V"⟩ ∈ gTb := gm (List.mem_of_getElem? (i := 320) (by decide +kernel)) rfl
theorem wML_X5_76 : Cond.methodLink RX5 76 ⟨"java/lang/IllegalStateException", "<init>", "(Ljava/lang/String;)V"⟩ ∈ gTb := gm (List.mem_of_getElem? (i := 416) (by decide +kernel)) rfl
theorem wML_J7_86 : Cond.methodLink RJ7 86 ⟨"java/lang/Object", "getClass", "()Ljava/lang/Class;"⟩ ∈ gTb := gm (List.mem_of_getElem? (i := 569) (by decide +kernel)) rfl
theorem w_instanceMethod_570 : Cond.instanceMethod ⟨"java/lang/Object", "getClass", "()Ljava/lang/Class;"⟩ ∈ gTb := gm (List.mem_of_getElem? (i := 570) (by decide +kernel)) rfl
theorem w_selects_578 : Cond.selects "java/lang/IllegalArgumentException" ⟨"java/lang/Object", "getClass", "()Ljava/lang/Class;"⟩ ⟨"java/lang/Object", "getClass", "()Ljava/lang/Class;"⟩ ∈ gTb := gm (List.mem_of_getElem? (i := 578) (by decide +kernel)) rfl
theorem w_selects_579 : Cond.selects "java/lang/IllegalStateException" ⟨"java/lang/Object", "getClass", "()Ljava/lang/Class;"⟩ ⟨"java/lang/Object", "getClass", "()Ljava/lang/Class;"⟩ ∈ gTb := gm (List.mem_of_getElem? (i := 579) (by decide +kernel)) rfl
theorem w_selects_580 : Cond.selects "java/lang/IndexOutOfBoundsException" ⟨"java/lang/Object", "getClass", "()Ljava/lang/Class;"⟩ ⟨"java/lang/Object", "getClass", "()Ljava/lang/Class;"⟩ ∈ gTb := gm (List.mem_of_getElem? (i := 580) (by decide +kernel)) rfl
theorem wML_J7_150 : Cond.methodLink RJ7 150 ⟨"java/lang/System", "arraycopy", "(Ljava/lang/Object;ILjava/lang/Object;II)V"⟩ ∈ gTb := gm (List.mem_of_getElem? (i := 594) (by decide +kernel)) rfl
theorem wML_J7_310 : Cond.methodLink RJ7 310 ⟨"[B", "clone", "()Ljava/lang/Object;"⟩ ∈ gTb := gm (List.mem_of_getElem? (i := 721) (by decide +kernel)) rfl
theorem w_instanceMethod_724 : Cond.instanceMethod ⟨"java/lang/Object", "clone", "()Ljava/lang/Object;"⟩ ∈ gTb := gm (List.mem_of_getElem? (i := 724) (by decide +kernel)) rfl
theorem wML_J7_65 : Cond.methodLink RJ7 65 ⟨"java/lang/IllegalArgumentException", "<init>", "(Ljava/lang/String;)V"⟩ ∈ gTb := gm (List.mem_of_getElem? (i := 871) (by decide +kernel)) rfl
theorem wML_Jx4a65c_193 : Cond.methodLink RJx4a65c 193 ⟨"java/lang/IndexOutOfBoundsException", "<init>", "(Ljava/lang/String;)V"⟩ ∈ gTb := gm (List.mem_of_getElem? (i := 896) (by decide +kernel)) rfl
theorem w_selects_1105 : Cond.selects "[Ljava/lang/Object;" ⟨"java/lang/Object", "getClass", "()Ljava/lang/Class;"⟩ ⟨"java/lang/Object", "getClass", "()Ljava/lang/Class;"⟩ ∈ gTb := gm (List.mem_of_getElem? (i := 1105) (by decide +kernel)) rfl
theorem wMM_J8_194 : Cond.methodLink RJ8 194 Lib.Math.max.name ∈ gTb := gm (List.mem_of_getElem? (i := 559) (by decide +kernel)) rfl
theorem wST_Math_max : Cond.static Lib.Math.max.name ∈ gTb := gm (List.mem_of_getElem? (i := 560) (by decide +kernel)) rfl
theorem wCO_Math_max : Cond.code Lib.Math.max.name Lib.Math.max.code 2 (some .int) ∈ gTb := gm (List.mem_of_getElem? (i := 561) (by decide +kernel)) rfl
theorem wMM_Jx4a65c_79 : Cond.methodLink RJx4a65c 79 Lib.Math.max.name ∈ gTb := gm (List.mem_of_getElem? (i := 595) (by decide +kernel)) rfl
theorem wMM_J7_304 : Cond.methodLink RJ7 304 Lib.Math.min.name ∈ gTb := gm (List.mem_of_getElem? (i := 591) (by decide +kernel)) rfl
theorem wST_Math_min : Cond.static Lib.Math.min.name ∈ gTb := gm (List.mem_of_getElem? (i := 592) (by decide +kernel)) rfl
theorem wCO_Math_min : Cond.code Lib.Math.min.name Lib.Math.min.code 2 (some .int) ∈ gTb := gm (List.mem_of_getElem? (i := 593) (by decide +kernel)) rfl
theorem wMM_J5_138 : Cond.methodLink RJ5 138 Lib.Math.min.name ∈ gTb := gm (List.mem_of_getElem? (i := 1068) (by decide +kernel)) rfl
theorem wINs_J9 : Cond.initialized "java/lang/Math" ∈ gTb := gm (List.mem_of_getElem? (i := 48) (by decide +kernel)) rfl
theorem wINs_J10 : Cond.initialized "java/lang/System" ∈ gTb := gm (List.mem_of_getElem? (i := 50) (by decide +kernel)) rfl
theorem wMA_Jx4a65c_112 : Cond.methodLink RJx4a65c 112 arraycopyName ∈ gTb := gm (List.mem_of_getElem? (i := 319) (by decide +kernel)) rfl
theorem wST_arraycopy : Cond.static arraycopyName ∈ gTb := gm (List.mem_of_getElem? (i := 320) (by decide +kernel)) rfl
theorem wNA_arraycopy : Cond.native arraycopyName ∈ gTb := gm (List.mem_of_getElem? (i := 321) (by decide +kernel)) rfl
theorem wMA_J7_150 : Cond.methodLink RJ7 150 arraycopyName ∈ gTb := gm (List.mem_of_getElem? (i := 594) (by decide +kernel)) rfl
theorem wMA_J0_212 : Cond.methodLink RJ0 212 arraycopyName ∈ gTb := gm (List.mem_of_getElem? (i := 800) (by decide +kernel)) rfl
