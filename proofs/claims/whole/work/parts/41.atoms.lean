/-! The words of the throw (by a program, gen41.py). -/
section ZThrow2
theorem k_400 : (Jvm.Cond.codeSync ({ cls := "java/lang/Throwable", name := "fillInStackTrace", desc := "()Ljava/lang/Throwable;" } : Jvm.MethodName) prog_23_method_18_code (1 : Nat) (Option.some (Jvm.ClassFile.FieldType.object "java/lang/Throwable"))) ∈ tables_1 := zt_2 _ (List.mem_of_getElem? (i := 160) rfl)
abbrev zup : List String := ["java/lang/RuntimeException", "java/lang/Exception"]
theorem zall_cons {P : Cond → Prop} {a : Cond} {l : List Cond} (h : P a) (t : ∀ w ∈ l, P w) : ∀ w ∈ a :: l, P w := List.forall_mem_cons.mpr ⟨h, t⟩
theorem zall_nil {P : Cond → Prop} : ∀ w ∈ ([] : List Cond), P w := fun w h => by cases h
theorem zat_IA : ∀ w ∈ Bundle.ownAtoms "LinkHost" 269 "java/lang/IllegalArgumentException" zup, w ∈ ztb ∨ w ∈ zvw :=
  zall_cons (Or.inl (ztb_of k_16 rfl)) <|
  zall_cons (Or.inl (ztb_of k_387 rfl)) <|
  zall_cons (Or.inl (ztb_of k_396 rfl)) <|
  zall_cons (Or.inl ((by decide +kernel : prog_23_method_18_code = LibCode.Throwable.Fill.code) ▸ ztb_of k_400 rfl)) <|
  zall_cons (Or.inl (ztb_of k_403 rfl)) <|
  zall_cons (Or.inl (ztb_of k_405 rfl)) <|
  zall_cons (Or.inl (ztb_of k_388 rfl)) <|
  zall_cons (Or.inl ((by decide +kernel : prog_23_method_1_code = LibCode.Throwable.Init0.code) ▸ ztb_of k_389 rfl)) <|
  zall_cons (Or.inl (ztb_of k_32 rfl)) <|
  zall_cons (Or.inl ((by decide +kernel : object_method_1_code = (⟨#[0xb1]⟩ : ByteArray)) ▸ ztb_of k_33 rfl)) <|
  zall_cons (Or.inl (ztb_of k_390 rfl)) <|
  zall_cons (Or.inl (ztb_of k_395 rfl)) <|
  zall_cons (Or.inl (ztb_of k_401 rfl)) <|
  zall_cons (Or.inl (ztb_of k_421 rfl)) <|
  zall_cons (Or.inl (ztb_of k_377 rfl)) <|
  zall_cons (Or.inl (ztb_of k_422 rfl)) <|
  zall_cons (Or.inl (ztb_of k_379 rfl)) <|
  zall_cons (Or.inl (ztb_of k_423 rfl)) <|
  zall_cons (Or.inl (ztb_of k_381 rfl)) <|
  zall_cons (Or.inl (ztb_of k_391 rfl)) <|
  zall_cons (Or.inr (List.mem_of_getElem? (i := 0) rfl)) <|
  zall_cons (Or.inl (ztb_of k_393 rfl)) <|
  zall_cons (Or.inr (List.mem_of_getElem? (i := 1) rfl)) <|
  zall_cons (Or.inl (ztb_of k_383 rfl)) <|
  zall_cons (Or.inl (ztb_of k_417 rfl)) <|
  zall_cons (Or.inl ((by decide +kernel : prog_23_method_2_code = LibCode.Throwable.InitS.code) ▸ ztb_of k_418 rfl)) <|
  zall_cons (Or.inl (ztb_of k_420 rfl)) <|
  zall_cons (Or.inl (ztb_of k_383 rfl)) <|
  zall_cons (Or.inl (ztb_of k_408 rfl)) <|
  zall_cons (Or.inl ((by decide +kernel : prog_15_method_2_code = Bundle.six) ▸ ztb_of k_409 rfl)) <|
  zall_cons (Or.inl (ztb_of k_410 rfl)) <|
  zall_cons (Or.inl (ztb_of k_411 rfl)) <|
  zall_cons (Or.inl (ztb_of k_369 rfl)) <|
  zall_cons (Or.inl (ztb_of k_411 rfl)) <|
  zall_cons (Or.inl ((by decide +kernel : prog_20_method_2_code = Bundle.six) ▸ ztb_of k_412 rfl)) <|
  zall_cons (Or.inl (ztb_of k_413 rfl)) <|
  zall_cons (Or.inl (ztb_of k_414 rfl)) <|
  zall_cons (Or.inl (ztb_of k_371 rfl)) <|
  zall_cons (Or.inl (ztb_of k_414 rfl)) <|
  zall_cons (Or.inl ((by decide +kernel : prog_14_method_2_code = Bundle.six) ▸ ztb_of k_415 rfl)) <|
  zall_cons (Or.inl (ztb_of k_416 rfl)) <|
  zall_cons (Or.inl (ztb_of k_417 rfl)) <|
  zall_cons (Or.inl (ztb_of k_373 rfl)) <|
  zall_cons (Or.inl (ztb_of k_407 rfl)) <|
  zall_cons (Or.inl (ztb_of k_366 rfl)) <|
  zall_cons (Or.inl (ztb_of k_367 rfl)) <|
  zall_cons (Or.inl (ztb_of k_374 rfl)) <|
  zall_cons (Or.inl (ztb_of k_375 rfl)) <|
  zall_cons (Or.inl (ztb_of k_376 rfl)) <|
  zall_cons (Or.inl (ztb_of k_378 rfl)) <|
  zall_cons (Or.inl (ztb_of k_380 rfl)) <|
  zall_cons (Or.inl (ztb_of k_382 rfl)) <|
  zall_cons (Or.inr (List.mem_of_getElem? (i := 2) rfl)) <|
  zall_cons (Or.inr (List.mem_of_getElem? (i := 3) rfl)) <|
  zall_cons (Or.inl (ztb_of k_386 rfl)) <|
  zall_cons (Or.inl (ztb_of k_385 rfl)) <|
  zall_cons (Or.inl (ztb_of k_384 rfl)) <|
  zall_nil
theorem zat_IS : ∀ w ∈ Bundle.ownAtoms "LinkHost" 197 "java/lang/IllegalStateException" zup, w ∈ ztb ∨ w ∈ zvw :=
  zall_cons (Or.inl (ztb_of k_16 rfl)) <|
  zall_cons (Or.inl (ztb_of k_387 rfl)) <|
  zall_cons (Or.inl (ztb_of k_396 rfl)) <|
  zall_cons (Or.inl ((by decide +kernel : prog_23_method_18_code = LibCode.Throwable.Fill.code) ▸ ztb_of k_400 rfl)) <|
  zall_cons (Or.inl (ztb_of k_403 rfl)) <|
  zall_cons (Or.inl (ztb_of k_405 rfl)) <|
  zall_cons (Or.inl (ztb_of k_388 rfl)) <|
  zall_cons (Or.inl ((by decide +kernel : prog_23_method_1_code = LibCode.Throwable.Init0.code) ▸ ztb_of k_389 rfl)) <|
  zall_cons (Or.inl (ztb_of k_32 rfl)) <|
  zall_cons (Or.inl ((by decide +kernel : object_method_1_code = (⟨#[0xb1]⟩ : ByteArray)) ▸ ztb_of k_33 rfl)) <|
  zall_cons (Or.inl (ztb_of k_390 rfl)) <|
  zall_cons (Or.inl (ztb_of k_395 rfl)) <|
  zall_cons (Or.inl (ztb_of k_401 rfl)) <|
  zall_cons (Or.inl (ztb_of k_421 rfl)) <|
  zall_cons (Or.inl (ztb_of k_377 rfl)) <|
  zall_cons (Or.inl (ztb_of k_422 rfl)) <|
  zall_cons (Or.inl (ztb_of k_379 rfl)) <|
  zall_cons (Or.inl (ztb_of k_423 rfl)) <|
  zall_cons (Or.inl (ztb_of k_381 rfl)) <|
  zall_cons (Or.inl (ztb_of k_391 rfl)) <|
  zall_cons (Or.inr (List.mem_of_getElem? (i := 0) rfl)) <|
  zall_cons (Or.inl (ztb_of k_393 rfl)) <|
  zall_cons (Or.inr (List.mem_of_getElem? (i := 1) rfl)) <|
  zall_cons (Or.inl (ztb_of k_383 rfl)) <|
  zall_cons (Or.inl (ztb_of k_417 rfl)) <|
  zall_cons (Or.inl ((by decide +kernel : prog_23_method_2_code = LibCode.Throwable.InitS.code) ▸ ztb_of k_418 rfl)) <|
  zall_cons (Or.inl (ztb_of k_420 rfl)) <|
  zall_cons (Or.inl (ztb_of k_383 rfl)) <|
  zall_cons (Or.inl (ztb_of k_530 rfl)) <|
  zall_cons (Or.inl ((by decide +kernel : prog_16_method_2_code = Bundle.six) ▸ ztb_of k_531 rfl)) <|
  zall_cons (Or.inl (ztb_of k_532 rfl)) <|
  zall_cons (Or.inl (ztb_of k_411 rfl)) <|
  zall_cons (Or.inl (ztb_of k_369 rfl)) <|
  zall_cons (Or.inl (ztb_of k_411 rfl)) <|
  zall_cons (Or.inl ((by decide +kernel : prog_20_method_2_code = Bundle.six) ▸ ztb_of k_412 rfl)) <|
  zall_cons (Or.inl (ztb_of k_413 rfl)) <|
  zall_cons (Or.inl (ztb_of k_414 rfl)) <|
  zall_cons (Or.inl (ztb_of k_371 rfl)) <|
  zall_cons (Or.inl (ztb_of k_414 rfl)) <|
  zall_cons (Or.inl ((by decide +kernel : prog_14_method_2_code = Bundle.six) ▸ ztb_of k_415 rfl)) <|
  zall_cons (Or.inl (ztb_of k_416 rfl)) <|
  zall_cons (Or.inl (ztb_of k_417 rfl)) <|
  zall_cons (Or.inl (ztb_of k_373 rfl)) <|
  zall_cons (Or.inl (ztb_of k_529 rfl)) <|
  zall_cons (Or.inl (ztb_of k_520 rfl)) <|
  zall_cons (Or.inl (ztb_of k_521 rfl)) <|
  zall_cons (Or.inl (ztb_of k_522 rfl)) <|
  zall_cons (Or.inl (ztb_of k_398 rfl)) <|
  zall_cons (Or.inl (ztb_of k_523 rfl)) <|
  zall_cons (Or.inl (ztb_of k_524 rfl)) <|
  zall_cons (Or.inl (ztb_of k_525 rfl)) <|
  zall_cons (Or.inl (ztb_of k_526 rfl)) <|
  zall_cons (Or.inr (List.mem_of_getElem? (i := 2) rfl)) <|
  zall_cons (Or.inr (List.mem_of_getElem? (i := 3) rfl)) <|
  zall_cons (Or.inl (ztb_of k_386 rfl)) <|
  zall_cons (Or.inl (ztb_of k_385 rfl)) <|
  zall_cons (Or.inl (ztb_of k_527 rfl)) <|
  zall_nil
theorem zat_IO : ∀ w ∈ Bundle.ownAtoms "LinkHost" 274 "java/lang/IndexOutOfBoundsException" zup, w ∈ ztb ∨ w ∈ zvw :=
  zall_cons (Or.inl (ztb_of k_16 rfl)) <|
  zall_cons (Or.inl (ztb_of k_387 rfl)) <|
  zall_cons (Or.inl (ztb_of k_396 rfl)) <|
  zall_cons (Or.inl ((by decide +kernel : prog_23_method_18_code = LibCode.Throwable.Fill.code) ▸ ztb_of k_400 rfl)) <|
  zall_cons (Or.inl (ztb_of k_403 rfl)) <|
  zall_cons (Or.inl (ztb_of k_405 rfl)) <|
  zall_cons (Or.inl (ztb_of k_388 rfl)) <|
  zall_cons (Or.inl ((by decide +kernel : prog_23_method_1_code = LibCode.Throwable.Init0.code) ▸ ztb_of k_389 rfl)) <|
  zall_cons (Or.inl (ztb_of k_32 rfl)) <|
  zall_cons (Or.inl ((by decide +kernel : object_method_1_code = (⟨#[0xb1]⟩ : ByteArray)) ▸ ztb_of k_33 rfl)) <|
  zall_cons (Or.inl (ztb_of k_390 rfl)) <|
  zall_cons (Or.inl (ztb_of k_395 rfl)) <|
  zall_cons (Or.inl (ztb_of k_401 rfl)) <|
  zall_cons (Or.inl (ztb_of k_421 rfl)) <|
  zall_cons (Or.inl (ztb_of k_377 rfl)) <|
  zall_cons (Or.inl (ztb_of k_422 rfl)) <|
  zall_cons (Or.inl (ztb_of k_379 rfl)) <|
  zall_cons (Or.inl (ztb_of k_423 rfl)) <|
  zall_cons (Or.inl (ztb_of k_381 rfl)) <|
  zall_cons (Or.inl (ztb_of k_391 rfl)) <|
  zall_cons (Or.inr (List.mem_of_getElem? (i := 0) rfl)) <|
  zall_cons (Or.inl (ztb_of k_393 rfl)) <|
  zall_cons (Or.inr (List.mem_of_getElem? (i := 1) rfl)) <|
  zall_cons (Or.inl (ztb_of k_383 rfl)) <|
  zall_cons (Or.inl (ztb_of k_417 rfl)) <|
  zall_cons (Or.inl ((by decide +kernel : prog_23_method_2_code = LibCode.Throwable.InitS.code) ▸ ztb_of k_418 rfl)) <|
  zall_cons (Or.inl (ztb_of k_420 rfl)) <|
  zall_cons (Or.inl (ztb_of k_383 rfl)) <|
  zall_cons (Or.inl (ztb_of k_797 rfl)) <|
  zall_cons (Or.inl ((by decide +kernel : prog_17_method_2_code = Bundle.six) ▸ ztb_of k_798 rfl)) <|
  zall_cons (Or.inl (ztb_of k_799 rfl)) <|
  zall_cons (Or.inl (ztb_of k_411 rfl)) <|
  zall_cons (Or.inl (ztb_of k_369 rfl)) <|
  zall_cons (Or.inl (ztb_of k_411 rfl)) <|
  zall_cons (Or.inl ((by decide +kernel : prog_20_method_2_code = Bundle.six) ▸ ztb_of k_412 rfl)) <|
  zall_cons (Or.inl (ztb_of k_413 rfl)) <|
  zall_cons (Or.inl (ztb_of k_414 rfl)) <|
  zall_cons (Or.inl (ztb_of k_371 rfl)) <|
  zall_cons (Or.inl (ztb_of k_414 rfl)) <|
  zall_cons (Or.inl ((by decide +kernel : prog_14_method_2_code = Bundle.six) ▸ ztb_of k_415 rfl)) <|
  zall_cons (Or.inl (ztb_of k_416 rfl)) <|
  zall_cons (Or.inl (ztb_of k_417 rfl)) <|
  zall_cons (Or.inl (ztb_of k_373 rfl)) <|
  zall_cons (Or.inl (ztb_of k_796 rfl)) <|
  zall_cons (Or.inl (ztb_of k_787 rfl)) <|
  zall_cons (Or.inl (ztb_of k_788 rfl)) <|
  zall_cons (Or.inl (ztb_of k_789 rfl)) <|
  zall_cons (Or.inl (ztb_of k_399 rfl)) <|
  zall_cons (Or.inl (ztb_of k_790 rfl)) <|
  zall_cons (Or.inl (ztb_of k_791 rfl)) <|
  zall_cons (Or.inl (ztb_of k_792 rfl)) <|
  zall_cons (Or.inl (ztb_of k_793 rfl)) <|
  zall_cons (Or.inr (List.mem_of_getElem? (i := 2) rfl)) <|
  zall_cons (Or.inr (List.mem_of_getElem? (i := 3) rfl)) <|
  zall_cons (Or.inl (ztb_of k_386 rfl)) <|
  zall_cons (Or.inl (ztb_of k_385 rfl)) <|
  zall_cons (Or.inl (ztb_of k_794 rfl)) <|
  zall_nil
end ZThrow2
