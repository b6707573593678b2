/-! instructions of the law's methods, written by wip/g1.py -/
theorem P_i204_0 : P_in P_Y0 204 0 (Option.some Jvm.ClassFile.FieldType.boolean) [] (.iconst 1) 1 0 0 [] [] := ⟨_, _, rfl, rfl⟩
theorem P_i204_1 : P_in P_Y0 204 1 (Option.some Jvm.ClassFile.FieldType.boolean) [] (.newarray .int) 3 0 0 [] [] := ⟨_, _, rfl, rfl⟩
theorem P_i204_3 : P_in P_Y0 204 3 (Option.some Jvm.ClassFile.FieldType.boolean) [] (.dup) 4 0 0 [] [] := ⟨_, _, rfl, rfl⟩
theorem P_i204_4 : P_in P_Y0 204 4 (Option.some Jvm.ClassFile.FieldType.boolean) [] (.iconst 0) 5 0 0 [] [] := ⟨_, _, rfl, rfl⟩
theorem P_i204_5 : P_in P_Y0 204 5 (Option.some Jvm.ClassFile.FieldType.boolean) [] (.iconst (-1)) 6 0 0 [] [] := ⟨_, _, rfl, rfl⟩
theorem P_i204_6 : P_in P_Y0 204 6 (Option.some Jvm.ClassFile.FieldType.boolean) [] (.iastore) 7 0 0 [] [] := ⟨_, _, rfl, rfl⟩
theorem P_i204_7 : P_in P_Y0 204 7 (Option.some Jvm.ClassFile.FieldType.boolean) [] (.astore_n 1) 8 0 0 [] [] := ⟨_, _, rfl, rfl⟩
theorem P_i204_8 : P_in P_Y0 204 8 (Option.some Jvm.ClassFile.FieldType.boolean) [] (.ldc2_w 170) 11 (-1) 0 [] [] := ⟨_, _, rfl, rfl⟩
theorem P_i204_11 : P_in P_Y0 204 11 (Option.some Jvm.ClassFile.FieldType.boolean) [] (.lstore_n 2) 12 0 0 [] [] := ⟨_, _, rfl, rfl⟩
theorem P_i204_12 : P_in P_Y0 204 12 (Option.some Jvm.ClassFile.FieldType.boolean) [] (.aload_n 0) 13 0 0 [] [] := ⟨_, _, rfl, rfl⟩
theorem P_i204_13 : P_in P_Y0 204 13 (Option.some Jvm.ClassFile.FieldType.boolean) [] (.getfield 49) 16 11 12 [] [] := ⟨_, _, rfl, rfl⟩
theorem P_i204_16 : P_in P_Y0 204 16 (Option.some Jvm.ClassFile.FieldType.boolean) [] (.arraylength) 17 0 0 [] [] := ⟨_, _, rfl, rfl⟩
theorem P_i204_17 : P_in P_Y0 204 17 (Option.some Jvm.ClassFile.FieldType.boolean) [] (.istore 4) 19 0 0 [] [] := ⟨_, _, rfl, rfl⟩
theorem P_i204_19 : P_in P_Y0 204 19 (Option.some Jvm.ClassFile.FieldType.boolean) [] (.iconst 0) 20 0 0 [] [] := ⟨_, _, rfl, rfl⟩
theorem P_i204_20 : P_in P_Y0 204 20 (Option.some Jvm.ClassFile.FieldType.boolean) [] (.istore 5) 22 0 0 [3, 6, 7, 8, 9, 10, 11, 12] [] := ⟨_, _, rfl, rfl⟩
