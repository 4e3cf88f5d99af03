theorem zt_soleField : goodWord (Cond.soleField "java/util/ArrayList" "elementData") = true := by decide +kernel
theorem zt_superclass : goodWord (Cond.superclass "java/util/ArrayList" "java/util/AbstractList") = true := by decide +kernel
theorem zt_privateMethod : goodWord (Cond.privateMethod yX9_takeDraft) = true := by decide +kernel
theorem zt_castable : goodWord (Cond.castable "java/lang/IllegalArgumentException" "java/lang/IllegalArgumentException") = true := by decide +kernel
theorem zt_declares : goodWord (Cond.declares ⟨"java/lang/RuntimeException", "<init>", "()V"⟩) = true := by decide +kernel
theorem zt_sameMethod : goodWord (Cond.sameMethod "java/lang/Throwable" "java/lang/Throwable" "fillInStackTrace" "()Ljava/lang/Throwable;") = true := by decide +kernel
theorem zt_codeSync : goodWord (Cond.codeSync ⟨"java/lang/Throwable", "fillInStackTrace", "()Ljava/lang/Throwable;"⟩ prog_25_method_18_code 1 (Option.some (FieldType.object "java/lang/Throwable"))) = true := by decide +kernel
theorem zt_native : goodWord (Cond.native ⟨"java/lang/Throwable", "fillInStackTrace", "(I)Ljava/lang/Throwable;"⟩) = true := by decide +kernel
theorem zt_arrayOver : goodWord (Cond.arrayOver (FieldType.object "java/lang/Object")) = true := by decide +kernel
theorem zz_last : True := trivial
