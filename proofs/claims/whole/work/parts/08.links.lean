theorem okX0_init : gMok mX0_init := ⟨by decide +kernel, rfl, fun _ => rfl⟩
theorem cdX0_init : Cond.code (gNm mX0_init) (gCode mX0_init) (gNL mX0_init) (gRet mX0_init) ∈ gTb := inT 183 (by decide +kernel) (by decide +kernel)
theorem imX0_init : Cond.instanceMethod (gNm mX0_init) ∈ gTb ∧ (gNm mX0_init).name = "<init>" := ⟨inT 182 (by decide +kernel) (by decide +kernel), rfl⟩
theorem pdX0_init : (gNm mX0_init).cls ≠ "java/lang/invoke/MethodHandle" ∧ (gNm mX0_init).cls ≠ "java/lang/invoke/VarHandle" ∧ (parseMethodDescriptor (gNm mX0_init).desc).map (fun d => d.parameters.length) = some 1 := by decide +kernel
theorem okX0_putUp : gMok mX0_putUp := ⟨by decide +kernel, rfl, fun h => (by cases h)⟩
theorem cdX0_putUp : Cond.code (gNm mX0_putUp) (gCode mX0_putUp) (gNL mX0_putUp) (gRet mX0_putUp) ∈ gTb := inT 620 (by decide +kernel) (by decide +kernel)
theorem imX0_putUp : Cond.instanceMethod (gNm mX0_putUp) ∈ gTb ∧ Cond.selects (gNm mX0_putUp).cls (gNm mX0_putUp) (gNm mX0_putUp) ∈ gTb := ⟨inT 618 (by decide +kernel) (by decide +kernel), inT 619 (by decide +kernel) (by decide +kernel)⟩
theorem pdX0_putUp : (gNm mX0_putUp).cls ≠ "java/lang/invoke/MethodHandle" ∧ (gNm mX0_putUp).cls ≠ "java/lang/invoke/VarHandle" ∧ (parseMethodDescriptor (gNm mX0_putUp).desc).map (fun d => d.parameters.length) = some 0 := by decide +kernel
theorem okX0_improve : gMok mX0_improve := ⟨by decide +kernel, rfl, fun h => (by cases h)⟩
theorem cdX0_improve : Cond.code (gNm mX0_improve) (gCode mX0_improve) (gNL mX0_improve) (gRet mX0_improve) ∈ gTb := inT 643 (by decide +kernel) (by decide +kernel)
theorem imX0_improve : Cond.instanceMethod (gNm mX0_improve) ∈ gTb ∧ Cond.selects (gNm mX0_improve).cls (gNm mX0_improve) (gNm mX0_improve) ∈ gTb := ⟨inT 641 (by decide +kernel) (by decide +kernel), inT 642 (by decide +kernel) (by decide +kernel)⟩
theorem pdX0_improve : (gNm mX0_improve).cls ≠ "java/lang/invoke/MethodHandle" ∧ (gNm mX0_improve).cls ≠ "java/lang/invoke/VarHandle" ∧ (parseMethodDescriptor (gNm mX0_improve).desc).map (fun d => d.parameters.length) = some 1 := by decide +kernel
theorem okX0_withOneMore : gMok mX0_withOneMore := ⟨by decide +kernel, rfl, fun h => (by cases h)⟩
theorem cdX0_withOneMore : Cond.code (gNm mX0_withOneMore) (gCode mX0_withOneMore) (gNL mX0_withOneMore) (gRet mX0_withOneMore) ∈ gTb := inT 624 (by decide +kernel) (by decide +kernel)
theorem imX0_withOneMore : Cond.instanceMethod (gNm mX0_withOneMore) ∈ gTb ∧ Cond.selects (gNm mX0_withOneMore).cls (gNm mX0_withOneMore) (gNm mX0_withOneMore) ∈ gTb := ⟨inT 623 (by decide +kernel) (by decide +kernel), inP 14 (by decide +kernel) (by decide +kernel)⟩
theorem pdX0_withOneMore : (gNm mX0_withOneMore).cls ≠ "java/lang/invoke/MethodHandle" ∧ (gNm mX0_withOneMore).cls ≠ "java/lang/invoke/VarHandle" ∧ (parseMethodDescriptor (gNm mX0_withOneMore).desc).map (fun d => d.parameters.length) = some 1 := by decide +kernel
theorem okX0_withOneForAnother : gMok mX0_withOneForAnother := ⟨by decide +kernel, rfl, fun h => (by cases h)⟩
theorem cdX0_withOneForAnother : Cond.code (gNm mX0_withOneForAnother) (gCode mX0_withOneForAnother) (gNL mX0_withOneForAnother) (gRet mX0_withOneForAnother) ∈ gTb := inT 647 (by decide +kernel) (by decide +kernel)
theorem imX0_withOneForAnother : Cond.instanceMethod (gNm mX0_withOneForAnother) ∈ gTb ∧ Cond.selects (gNm mX0_withOneForAnother).cls (gNm mX0_withOneForAnother) (gNm mX0_withOneForAnother) ∈ gTb := ⟨inT 646 (by decide +kernel) (by decide +kernel), inP 17 (by decide +kernel) (by decide +kernel)⟩
theorem pdX0_withOneForAnother : (gNm mX0_withOneForAnother).cls ≠ "java/lang/invoke/MethodHandle" ∧ (gNm mX0_withOneForAnother).cls ≠ "java/lang/invoke/VarHandle" ∧ (parseMethodDescriptor (gNm mX0_withOneForAnother).desc).map (fun d => d.parameters.length) = some 1 := by decide +kernel
theorem okX0_startFrom : gMok mX0_startFrom := ⟨by decide +kernel, rfl, fun h => (by cases h)⟩
theorem cdX0_startFrom : Cond.code (gNm mX0_startFrom) (gCode mX0_startFrom) (gNL mX0_startFrom) (gRet mX0_startFrom) ∈ gTb := inT 628 (by decide +kernel) (by decide +kernel)
theorem imX0_startFrom : Cond.instanceMethod (gNm mX0_startFrom) ∈ gTb ∧ Cond.selects (gNm mX0_startFrom).cls (gNm mX0_startFrom) (gNm mX0_startFrom) ∈ gTb := ⟨inT 627 (by decide +kernel) (by decide +kernel), inP 15 (by decide +kernel) (by decide +kernel)⟩
theorem pdX0_startFrom : (gNm mX0_startFrom).cls ≠ "java/lang/invoke/MethodHandle" ∧ (gNm mX0_startFrom).cls ≠ "java/lang/invoke/VarHandle" ∧ (parseMethodDescriptor (gNm mX0_startFrom).desc).map (fun d => d.parameters.length) = some 1 := by decide +kernel
theorem okX0_consider : gMok mX0_consider := ⟨by decide +kernel, rfl, fun h => (by cases h)⟩
theorem cdX0_consider : Cond.code (gNm mX0_consider) (gCode mX0_consider) (gNL mX0_consider) (gRet mX0_consider) ∈ gTb := inT 634 (by decide +kernel) (by decide +kernel)
theorem imX0_consider : Cond.instanceMethod (gNm mX0_consider) ∈ gTb ∧ Cond.selects (gNm mX0_consider).cls (gNm mX0_consider) (gNm mX0_consider) ∈ gTb := ⟨inT 633 (by decide +kernel) (by decide +kernel), inP 16 (by decide +kernel) (by decide +kernel)⟩
theorem pdX0_consider : (gNm mX0_consider).cls ≠ "java/lang/invoke/MethodHandle" ∧ (gNm mX0_consider).cls ≠ "java/lang/invoke/VarHandle" ∧ (parseMethodDescriptor (gNm mX0_consider).desc).map (fun d => d.parameters.length) = some 1 := by decide +kernel
theorem okX1_init : gMok mX1_init := ⟨by decide +kernel, rfl, fun _ => rfl⟩
theorem cdX1_init : Cond.code (gNm mX1_init) (gCode mX1_init) (gNL mX1_init) (gRet mX1_init) ∈ gTb := inT 230 (by decide +kernel) (by decide +kernel)
theorem imX1_init : Cond.instanceMethod (gNm mX1_init) ∈ gTb ∧ (gNm mX1_init).name = "<init>" := ⟨inT 229 (by decide +kernel) (by decide +kernel), rfl⟩
theorem pdX1_init : (gNm mX1_init).cls ≠ "java/lang/invoke/MethodHandle" ∧ (gNm mX1_init).cls ≠ "java/lang/invoke/VarHandle" ∧ (parseMethodDescriptor (gNm mX1_init).desc).map (fun d => d.parameters.length) = some 0 := by decide +kernel
theorem okX1_renew : gMok mX1_renew := ⟨by decide +kernel, rfl, fun h => (by cases h)⟩
theorem cdX1_renew : Cond.code (gNm mX1_renew) (gCode mX1_renew) (gNL mX1_renew) (gRet mX1_renew) ∈ gTb := inT 416 (by decide +kernel) (by decide +kernel)
theorem imX1_renew : Cond.instanceMethod (gNm mX1_renew) ∈ gTb ∧ Cond.selects (gNm mX1_renew).cls (gNm mX1_renew) (gNm mX1_renew) ∈ gTb := ⟨inT 414 (by decide +kernel) (by decide +kernel), inT 415 (by decide +kernel) (by decide +kernel)⟩
theorem pdX1_renew : (gNm mX1_renew).cls ≠ "java/lang/invoke/MethodHandle" ∧ (gNm mX1_renew).cls ≠ "java/lang/invoke/VarHandle" ∧ (parseMethodDescriptor (gNm mX1_renew).desc).map (fun d => d.parameters.length) = some 2 := by decide +kernel
theorem okX1_write : gMok mX1_write := ⟨by decide +kernel, rfl, fun h => (by cases h)⟩
theorem cdX1_write : Cond.code (gNm mX1_write) (gCode mX1_write) (gNL mX1_write) (gRet mX1_write) ∈ gTb := inT 424 (by decide +kernel) (by decide +kernel)
theorem imX1_write : Cond.instanceMethod (gNm mX1_write) ∈ gTb ∧ Cond.selects (gNm mX1_write).cls (gNm mX1_write) (gNm mX1_write) ∈ gTb := ⟨inT 422 (by decide +kernel) (by decide +kernel), inT 423 (by decide +kernel) (by decide +kernel)⟩
theorem pdX1_write : (gNm mX1_write).cls ≠ "java/lang/invoke/MethodHandle" ∧ (gNm mX1_write).cls ≠ "java/lang/invoke/VarHandle" ∧ (parseMethodDescriptor (gNm mX1_write).desc).map (fun d => d.parameters.length) = some 2 := by decide +kernel
theorem okX1_holdsRoad : gMok mX1_holdsRoad := ⟨by decide +kernel, rfl, fun h => (by cases h)⟩
theorem cdX1_holdsRoad : Cond.code (gNm mX1_holdsRoad) (gCode mX1_holdsRoad) (gNL mX1_holdsRoad) (gRet mX1_holdsRoad) ∈ gTb := inT 436 (by decide +kernel) (by decide +kernel)
theorem imX1_holdsRoad : Cond.instanceMethod (gNm mX1_holdsRoad) ∈ gTb ∧ Cond.selects (gNm mX1_holdsRoad).cls (gNm mX1_holdsRoad) (gNm mX1_holdsRoad) ∈ gTb := ⟨inT 434 (by decide +kernel) (by decide +kernel), inT 435 (by decide +kernel) (by decide +kernel)⟩
theorem pdX1_holdsRoad : (gNm mX1_holdsRoad).cls ≠ "java/lang/invoke/MethodHandle" ∧ (gNm mX1_holdsRoad).cls ≠ "java/lang/invoke/VarHandle" ∧ (parseMethodDescriptor (gNm mX1_holdsRoad).desc).map (fun d => d.parameters.length) = some 1 := by decide +kernel
theorem okX2_init : gMok mX2_init := ⟨by decide +kernel, rfl, fun _ => rfl⟩
theorem cdX2_init : Cond.code (gNm mX2_init) (gCode mX2_init) (gNL mX2_init) (gRet mX2_init) ∈ gTb := inT 81 (by decide +kernel) (by decide +kernel)
theorem imX2_init : Cond.instanceMethod (gNm mX2_init) ∈ gTb ∧ (gNm mX2_init).name = "<init>" := ⟨inT 80 (by decide +kernel) (by decide +kernel), rfl⟩
theorem pdX2_init : (gNm mX2_init).cls ≠ "java/lang/invoke/MethodHandle" ∧ (gNm mX2_init).cls ≠ "java/lang/invoke/VarHandle" ∧ (parseMethodDescriptor (gNm mX2_init).desc).map (fun d => d.parameters.length) = some 0 := by decide +kernel
theorem okX2_open : gMok mX2_open := ⟨by decide +kernel, rfl, fun h => (by cases h)⟩
theorem cdX2_open : Cond.code (gNm mX2_open) (gCode mX2_open) (gNL mX2_open) (gRet mX2_open) ∈ gTb := inT 284 (by decide +kernel) (by decide +kernel)
theorem imX2_open : Cond.instanceMethod (gNm mX2_open) ∈ gTb ∧ Cond.selects (gNm mX2_open).cls (gNm mX2_open) (gNm mX2_open) ∈ gTb := ⟨inT 282 (by decide +kernel) (by decide +kernel), inT 283 (by decide +kernel) (by decide +kernel)⟩
theorem pdX2_open : (gNm mX2_open).cls ≠ "java/lang/invoke/MethodHandle" ∧ (gNm mX2_open).cls ≠ "java/lang/invoke/VarHandle" ∧ (parseMethodDescriptor (gNm mX2_open).desc).map (fun d => d.parameters.length) = some 1 := by decide +kernel
theorem okX2_close : gMok mX2_close := ⟨by decide +kernel, rfl, fun h => (by cases h)⟩
theorem cdX2_close : Cond.code (gNm mX2_close) (gCode mX2_close) (gNL mX2_close) (gRet mX2_close) ∈ gTb := inT 303 (by decide +kernel) (by decide +kernel)
theorem imX2_close : Cond.instanceMethod (gNm mX2_close) ∈ gTb ∧ Cond.selects (gNm mX2_close).cls (gNm mX2_close) (gNm mX2_close) ∈ gTb := ⟨inT 301 (by decide +kernel) (by decide +kernel), inT 302 (by decide +kernel) (by decide +kernel)⟩
theorem pdX2_close : (gNm mX2_close).cls ≠ "java/lang/invoke/MethodHandle" ∧ (gNm mX2_close).cls ≠ "java/lang/invoke/VarHandle" ∧ (parseMethodDescriptor (gNm mX2_close).desc).map (fun d => d.parameters.length) = some 1 := by decide +kernel
theorem okX2_turnBack : gMok mX2_turnBack := ⟨by decide +kernel, rfl, fun h => (by cases h)⟩
theorem cdX2_turnBack : Cond.code (gNm mX2_turnBack) (gCode mX2_turnBack) (gNL mX2_turnBack) (gRet mX2_turnBack) ∈ gTb := inT 738 (by decide +kernel) (by decide +kernel)
theorem imX2_turnBack : Cond.instanceMethod (gNm mX2_turnBack) ∈ gTb ∧ Cond.selects (gNm mX2_turnBack).cls (gNm mX2_turnBack) (gNm mX2_turnBack) ∈ gTb := ⟨inT 736 (by decide +kernel) (by decide +kernel), inT 737 (by decide +kernel) (by decide +kernel)⟩
theorem pdX2_turnBack : (gNm mX2_turnBack).cls ≠ "java/lang/invoke/MethodHandle" ∧ (gNm mX2_turnBack).cls ≠ "java/lang/invoke/VarHandle" ∧ (parseMethodDescriptor (gNm mX2_turnBack).desc).map (fun d => d.parameters.length) = some 1 := by decide +kernel
theorem okX3_init : gMok mX3_init := ⟨by decide +kernel, rfl, fun _ => rfl⟩
theorem cdX3_init : Cond.code (gNm mX3_init) (gCode mX3_init) (gNL mX3_init) (gRet mX3_init) ∈ gTb := inT 113 (by decide +kernel) (by decide +kernel)
theorem imX3_init : Cond.instanceMethod (gNm mX3_init) ∈ gTb ∧ (gNm mX3_init).name = "<init>" := ⟨inT 112 (by decide +kernel) (by decide +kernel), rfl⟩
theorem pdX3_init : (gNm mX3_init).cls ≠ "java/lang/invoke/MethodHandle" ∧ (gNm mX3_init).cls ≠ "java/lang/invoke/VarHandle" ∧ (parseMethodDescriptor (gNm mX3_init).desc).map (fun d => d.parameters.length) = some 1 := by decide +kernel
theorem okX3_carry : gMok mX3_carry := ⟨by decide +kernel, rfl, fun h => (by cases h)⟩
theorem cdX3_carry : Cond.code (gNm mX3_carry) (gCode mX3_carry) (gNL mX3_carry) (gRet mX3_carry) ∈ gTb := inT 342 (by decide +kernel) (by decide +kernel)
theorem imX3_carry : Cond.instanceMethod (gNm mX3_carry) ∈ gTb ∧ Cond.selects (gNm mX3_carry).cls (gNm mX3_carry) (gNm mX3_carry) ∈ gTb := ⟨inT 340 (by decide +kernel) (by decide +kernel), inT 341 (by decide +kernel) (by decide +kernel)⟩
theorem pdX3_carry : (gNm mX3_carry).cls ≠ "java/lang/invoke/MethodHandle" ∧ (gNm mX3_carry).cls ≠ "java/lang/invoke/VarHandle" ∧ (parseMethodDescriptor (gNm mX3_carry).desc).map (fun d => d.parameters.length) = some 1 := by decide +kernel
theorem okX3_carriedOver : gMok mX3_carriedOver := ⟨by decide +kernel, rfl, fun h => (by cases h)⟩
theorem cdX3_carriedOver : Cond.code (gNm mX3_carriedOver) (gCode mX3_carriedOver) (gNL mX3_carriedOver) (gRet mX3_carriedOver) ∈ gTb := inT 351 (by decide +kernel) (by decide +kernel)
theorem imX3_carriedOver : Cond.instanceMethod (gNm mX3_carriedOver) ∈ gTb ∧ Cond.selects (gNm mX3_carriedOver).cls (gNm mX3_carriedOver) (gNm mX3_carriedOver) ∈ gTb := ⟨inT 350 (by decide +kernel) (by decide +kernel), inP 4 (by decide +kernel) (by decide +kernel)⟩
theorem pdX3_carriedOver : (gNm mX3_carriedOver).cls ≠ "java/lang/invoke/MethodHandle" ∧ (gNm mX3_carriedOver).cls ≠ "java/lang/invoke/VarHandle" ∧ (parseMethodDescriptor (gNm mX3_carriedOver).desc).map (fun d => d.parameters.length) = some 2 := by decide +kernel
theorem okX3_carriedTo : gMok mX3_carriedTo := ⟨by decide +kernel, rfl, fun h => (by cases h)⟩
theorem cdX3_carriedTo : Cond.code (gNm mX3_carriedTo) (gCode mX3_carriedTo) (gNL mX3_carriedTo) (gRet mX3_carriedTo) ∈ gTb := inT 500 (by decide +kernel) (by decide +kernel)
theorem imX3_carriedTo : Cond.instanceMethod (gNm mX3_carriedTo) ∈ gTb ∧ Cond.selects (gNm mX3_carriedTo).cls (gNm mX3_carriedTo) (gNm mX3_carriedTo) ∈ gTb := ⟨inT 498 (by decide +kernel) (by decide +kernel), inT 499 (by decide +kernel) (by decide +kernel)⟩
theorem pdX3_carriedTo : (gNm mX3_carriedTo).cls ≠ "java/lang/invoke/MethodHandle" ∧ (gNm mX3_carriedTo).cls ≠ "java/lang/invoke/VarHandle" ∧ (parseMethodDescriptor (gNm mX3_carriedTo).desc).map (fun d => d.parameters.length) = some 2 := by decide +kernel
theorem okX3_isChoice : gMok mX3_isChoice := ⟨by decide +kernel, rfl, fun h => (by cases h)⟩
theorem cdX3_isChoice : Cond.code (gNm mX3_isChoice) (gCode mX3_isChoice) (gNL mX3_isChoice) (gRet mX3_isChoice) ∈ gTb := inT 466 (by decide +kernel) (by decide +kernel)
theorem imX3_isChoice : Cond.instanceMethod (gNm mX3_isChoice) ∈ gTb ∧ Cond.selects (gNm mX3_isChoice).cls (gNm mX3_isChoice) (gNm mX3_isChoice) ∈ gTb := ⟨inT 464 (by decide +kernel) (by decide +kernel), inT 465 (by decide +kernel) (by decide +kernel)⟩
theorem pdX3_isChoice : (gNm mX3_isChoice).cls ≠ "java/lang/invoke/MethodHandle" ∧ (gNm mX3_isChoice).cls ≠ "java/lang/invoke/VarHandle" ∧ (parseMethodDescriptor (gNm mX3_isChoice).desc).map (fun d => d.parameters.length) = some 1 := by decide +kernel
theorem okX3_mayStand : gMok mX3_mayStand := ⟨by decide +kernel, rfl, fun h => (by cases h)⟩
theorem cdX3_mayStand : Cond.code (gNm mX3_mayStand) (gCode mX3_mayStand) (gNL mX3_mayStand) (gRet mX3_mayStand) ∈ gTb := inT 470 (by decide +kernel) (by decide +kernel)
theorem imX3_mayStand : Cond.instanceMethod (gNm mX3_mayStand) ∈ gTb ∧ Cond.selects (gNm mX3_mayStand).cls (gNm mX3_mayStand) (gNm mX3_mayStand) ∈ gTb := ⟨inT 468 (by decide +kernel) (by decide +kernel), inT 469 (by decide +kernel) (by decide +kernel)⟩
theorem pdX3_mayStand : (gNm mX3_mayStand).cls ≠ "java/lang/invoke/MethodHandle" ∧ (gNm mX3_mayStand).cls ≠ "java/lang/invoke/VarHandle" ∧ (parseMethodDescriptor (gNm mX3_mayStand).desc).map (fun d => d.parameters.length) = some 1 := by decide +kernel
theorem okX3_ovenFor : gMok mX3_ovenFor := ⟨by decide +kernel, rfl, fun h => (by cases h)⟩
theorem cdX3_ovenFor : Cond.code (gNm mX3_ovenFor) (gCode mX3_ovenFor) (gNL mX3_ovenFor) (gRet mX3_ovenFor) ∈ gTb := inT 496 (by decide +kernel) (by decide +kernel)
theorem imX3_ovenFor : Cond.instanceMethod (gNm mX3_ovenFor) ∈ gTb ∧ Cond.selects (gNm mX3_ovenFor).cls (gNm mX3_ovenFor) (gNm mX3_ovenFor) ∈ gTb := ⟨inT 494 (by decide +kernel) (by decide +kernel), inT 495 (by decide +kernel) (by decide +kernel)⟩
theorem pdX3_ovenFor : (gNm mX3_ovenFor).cls ≠ "java/lang/invoke/MethodHandle" ∧ (gNm mX3_ovenFor).cls ≠ "java/lang/invoke/VarHandle" ∧ (parseMethodDescriptor (gNm mX3_ovenFor).desc).map (fun d => d.parameters.length) = some 2 := by decide +kernel
theorem okX3_measureOf : gMok mX3_measureOf := ⟨by decide +kernel, rfl, fun h => (by cases h)⟩
theorem cdX3_measureOf : Cond.code (gNm mX3_measureOf) (gCode mX3_measureOf) (gNL mX3_measureOf) (gRet mX3_measureOf) ∈ gTb := inT 485 (by decide +kernel) (by decide +kernel)
theorem imX3_measureOf : Cond.instanceMethod (gNm mX3_measureOf) ∈ gTb ∧ Cond.selects (gNm mX3_measureOf).cls (gNm mX3_measureOf) (gNm mX3_measureOf) ∈ gTb := ⟨inT 483 (by decide +kernel) (by decide +kernel), inT 484 (by decide +kernel) (by decide +kernel)⟩
theorem pdX3_measureOf : (gNm mX3_measureOf).cls ≠ "java/lang/invoke/MethodHandle" ∧ (gNm mX3_measureOf).cls ≠ "java/lang/invoke/VarHandle" ∧ (parseMethodDescriptor (gNm mX3_measureOf).desc).map (fun d => d.parameters.length) = some 1 := by decide +kernel
theorem okX3_feeds : gMok mX3_feeds := ⟨by decide +kernel, rfl, fun h => (by cases h)⟩
theorem cdX3_feeds : Cond.code (gNm mX3_feeds) (gCode mX3_feeds) (gNL mX3_feeds) (gRet mX3_feeds) ∈ gTb := inT 521 (by decide +kernel) (by decide +kernel)
theorem imX3_feeds : Cond.instanceMethod (gNm mX3_feeds) ∈ gTb ∧ Cond.selects (gNm mX3_feeds).cls (gNm mX3_feeds) (gNm mX3_feeds) ∈ gTb := ⟨inT 520 (by decide +kernel) (by decide +kernel), inP 8 (by decide +kernel) (by decide +kernel)⟩
theorem pdX3_feeds : (gNm mX3_feeds).cls ≠ "java/lang/invoke/MethodHandle" ∧ (gNm mX3_feeds).cls ≠ "java/lang/invoke/VarHandle" ∧ (parseMethodDescriptor (gNm mX3_feeds).desc).map (fun d => d.parameters.length) = some 3 := by decide +kernel
theorem okX3_villagesOf : gMok mX3_villagesOf := ⟨by decide +kernel, rfl, fun h => (by cases h)⟩
theorem cdX3_villagesOf : Cond.code (gNm mX3_villagesOf) (gCode mX3_villagesOf) (gNL mX3_villagesOf) (gRet mX3_villagesOf) ∈ gTb := inT 517 (by decide +kernel) (by decide +kernel)
theorem imX3_villagesOf : Cond.instanceMethod (gNm mX3_villagesOf) ∈ gTb ∧ Cond.selects (gNm mX3_villagesOf).cls (gNm mX3_villagesOf) (gNm mX3_villagesOf) ∈ gTb := ⟨inT 515 (by decide +kernel) (by decide +kernel), inT 516 (by decide +kernel) (by decide +kernel)⟩
theorem pdX3_villagesOf : (gNm mX3_villagesOf).cls ≠ "java/lang/invoke/MethodHandle" ∧ (gNm mX3_villagesOf).cls ≠ "java/lang/invoke/VarHandle" ∧ (parseMethodDescriptor (gNm mX3_villagesOf).desc).map (fun d => d.parameters.length) = some 2 := by decide +kernel
theorem okX3_loavesOf : gMok mX3_loavesOf := ⟨by decide +kernel, rfl, fun h => (by cases h)⟩
theorem cdX3_loavesOf : Cond.code (gNm mX3_loavesOf) (gCode mX3_loavesOf) (gNL mX3_loavesOf) (gRet mX3_loavesOf) ∈ gTb := inT 525 (by decide +kernel) (by decide +kernel)
theorem imX3_loavesOf : Cond.instanceMethod (gNm mX3_loavesOf) ∈ gTb ∧ Cond.selects (gNm mX3_loavesOf).cls (gNm mX3_loavesOf) (gNm mX3_loavesOf) ∈ gTb := ⟨inT 523 (by decide +kernel) (by decide +kernel), inT 524 (by decide +kernel) (by decide +kernel)⟩
theorem pdX3_loavesOf : (gNm mX3_loavesOf).cls ≠ "java/lang/invoke/MethodHandle" ∧ (gNm mX3_loavesOf).cls ≠ "java/lang/invoke/VarHandle" ∧ (parseMethodDescriptor (gNm mX3_loavesOf).desc).map (fun d => d.parameters.length) = some 2 := by decide +kernel
theorem okX3_farthestOf : gMok mX3_farthestOf := ⟨by decide +kernel, rfl, fun h => (by cases h)⟩
theorem cdX3_farthestOf : Cond.code (gNm mX3_farthestOf) (gCode mX3_farthestOf) (gNL mX3_farthestOf) (gRet mX3_farthestOf) ∈ gTb := inT 529 (by decide +kernel) (by decide +kernel)
theorem imX3_farthestOf : Cond.instanceMethod (gNm mX3_farthestOf) ∈ gTb ∧ Cond.selects (gNm mX3_farthestOf).cls (gNm mX3_farthestOf) (gNm mX3_farthestOf) ∈ gTb := ⟨inT 527 (by decide +kernel) (by decide +kernel), inT 528 (by decide +kernel) (by decide +kernel)⟩
theorem pdX3_farthestOf : (gNm mX3_farthestOf).cls ≠ "java/lang/invoke/MethodHandle" ∧ (gNm mX3_farthestOf).cls ≠ "java/lang/invoke/VarHandle" ∧ (parseMethodDescriptor (gNm mX3_farthestOf).desc).map (fun d => d.parameters.length) = some 2 := by decide +kernel
theorem okX3_farthestOfAll : gMok mX3_farthestOfAll := ⟨by decide +kernel, rfl, fun h => (by cases h)⟩
theorem cdX3_farthestOfAll : Cond.code (gNm mX3_farthestOfAll) (gCode mX3_farthestOfAll) (gNL mX3_farthestOfAll) (gRet mX3_farthestOfAll) ∈ gTb := inT 569 (by decide +kernel) (by decide +kernel)
theorem imX3_farthestOfAll : Cond.instanceMethod (gNm mX3_farthestOfAll) ∈ gTb ∧ Cond.selects (gNm mX3_farthestOfAll).cls (gNm mX3_farthestOfAll) (gNm mX3_farthestOfAll) ∈ gTb := ⟨inT 567 (by decide +kernel) (by decide +kernel), inT 568 (by decide +kernel) (by decide +kernel)⟩
theorem pdX3_farthestOfAll : (gNm mX3_farthestOfAll).cls ≠ "java/lang/invoke/MethodHandle" ∧ (gNm mX3_farthestOfAll).cls ≠ "java/lang/invoke/VarHandle" ∧ (parseMethodDescriptor (gNm mX3_farthestOfAll).desc).map (fun d => d.parameters.length) = some 1 := by decide +kernel
theorem okX4_init : gMok mX4_init := ⟨by decide +kernel, rfl, fun _ => rfl⟩
theorem cdX4_init : Cond.code (gNm mX4_init) (gCode mX4_init) (gNL mX4_init) (gRet mX4_init) ∈ gTb := inT 203 (by decide +kernel) (by decide +kernel)
theorem imX4_init : Cond.instanceMethod (gNm mX4_init) ∈ gTb ∧ (gNm mX4_init).name = "<init>" := ⟨inT 202 (by decide +kernel) (by decide +kernel), rfl⟩
theorem pdX4_init : (gNm mX4_init).cls ≠ "java/lang/invoke/MethodHandle" ∧ (gNm mX4_init).cls ≠ "java/lang/invoke/VarHandle" ∧ (parseMethodDescriptor (gNm mX4_init).desc).map (fun d => d.parameters.length) = some 2 := by decide +kernel
theorem okX4_forgetFrom : gMok mX4_forgetFrom := ⟨by decide +kernel, rfl, fun h => (by cases h)⟩
theorem cdX4_forgetFrom : Cond.code (gNm mX4_forgetFrom) (gCode mX4_forgetFrom) (gNL mX4_forgetFrom) (gRet mX4_forgetFrom) ∈ gTb := inT 742 (by decide +kernel) (by decide +kernel)
theorem imX4_forgetFrom : Cond.instanceMethod (gNm mX4_forgetFrom) ∈ gTb ∧ Cond.selects (gNm mX4_forgetFrom).cls (gNm mX4_forgetFrom) (gNm mX4_forgetFrom) ∈ gTb := ⟨inT 740 (by decide +kernel) (by decide +kernel), inT 741 (by decide +kernel) (by decide +kernel)⟩
theorem pdX4_forgetFrom : (gNm mX4_forgetFrom).cls ≠ "java/lang/invoke/MethodHandle" ∧ (gNm mX4_forgetFrom).cls ≠ "java/lang/invoke/VarHandle" ∧ (parseMethodDescriptor (gNm mX4_forgetFrom).desc).map (fun d => d.parameters.length) = some 1 := by decide +kernel
theorem okX4_giftOf : gMok mX4_giftOf := ⟨by decide +kernel, rfl, fun h => (by cases h)⟩
theorem cdX4_giftOf : Cond.code (gNm mX4_giftOf) (gCode mX4_giftOf) (gNL mX4_giftOf) (gRet mX4_giftOf) ∈ gTb := inT 668 (by decide +kernel) (by decide +kernel)
theorem imX4_giftOf : Cond.instanceMethod (gNm mX4_giftOf) ∈ gTb ∧ Cond.selects (gNm mX4_giftOf).cls (gNm mX4_giftOf) (gNm mX4_giftOf) ∈ gTb := ⟨inT 666 (by decide +kernel) (by decide +kernel), inT 667 (by decide +kernel) (by decide +kernel)⟩
theorem pdX4_giftOf : (gNm mX4_giftOf).cls ≠ "java/lang/invoke/MethodHandle" ∧ (gNm mX4_giftOf).cls ≠ "java/lang/invoke/VarHandle" ∧ (parseMethodDescriptor (gNm mX4_giftOf).desc).map (fun d => d.parameters.length) = some 2 := by decide +kernel
theorem okX4_worthOf : gMok mX4_worthOf := ⟨by decide +kernel, rfl, fun h => (by cases h)⟩
theorem cdX4_worthOf : Cond.code (gNm mX4_worthOf) (gCode mX4_worthOf) (gNL mX4_worthOf) (gRet mX4_worthOf) ∈ gTb := inT 681 (by decide +kernel) (by decide +kernel)
theorem imX4_worthOf : Cond.instanceMethod (gNm mX4_worthOf) ∈ gTb ∧ Cond.selects (gNm mX4_worthOf).cls (gNm mX4_worthOf) (gNm mX4_worthOf) ∈ gTb := ⟨inT 679 (by decide +kernel) (by decide +kernel), inT 680 (by decide +kernel) (by decide +kernel)⟩
theorem pdX4_worthOf : (gNm mX4_worthOf).cls ≠ "java/lang/invoke/MethodHandle" ∧ (gNm mX4_worthOf).cls ≠ "java/lang/invoke/VarHandle" ∧ (parseMethodDescriptor (gNm mX4_worthOf).desc).map (fun d => d.parameters.length) = some 1 := by decide +kernel
theorem okX4_findTop : gMok mX4_findTop := ⟨by decide +kernel, rfl, fun h => (by cases h)⟩
theorem cdX4_findTop : Cond.code (gNm mX4_findTop) (gCode mX4_findTop) (gNL mX4_findTop) (gRet mX4_findTop) ∈ gTb := inT 691 (by decide +kernel) (by decide +kernel)
theorem imX4_findTop : Cond.instanceMethod (gNm mX4_findTop) ∈ gTb ∧ Cond.selects (gNm mX4_findTop).cls (gNm mX4_findTop) (gNm mX4_findTop) ∈ gTb := ⟨inT 689 (by decide +kernel) (by decide +kernel), inT 690 (by decide +kernel) (by decide +kernel)⟩
theorem pdX4_findTop : (gNm mX4_findTop).cls ≠ "java/lang/invoke/MethodHandle" ∧ (gNm mX4_findTop).cls ≠ "java/lang/invoke/VarHandle" ∧ (parseMethodDescriptor (gNm mX4_findTop).desc).map (fun d => d.parameters.length) = some 0 := by decide +kernel
theorem okX4_addUpWorths : gMok mX4_addUpWorths := ⟨by decide +kernel, rfl, fun h => (by cases h)⟩
theorem cdX4_addUpWorths : Cond.code (gNm mX4_addUpWorths) (gCode mX4_addUpWorths) (gNL mX4_addUpWorths) (gRet mX4_addUpWorths) ∈ gTb := inT 695 (by decide +kernel) (by decide +kernel)
theorem imX4_addUpWorths : Cond.instanceMethod (gNm mX4_addUpWorths) ∈ gTb ∧ Cond.selects (gNm mX4_addUpWorths).cls (gNm mX4_addUpWorths) (gNm mX4_addUpWorths) ∈ gTb := ⟨inT 694 (by decide +kernel) (by decide +kernel), inP 18 (by decide +kernel) (by decide +kernel)⟩
theorem pdX4_addUpWorths : (gNm mX4_addUpWorths).cls ≠ "java/lang/invoke/MethodHandle" ∧ (gNm mX4_addUpWorths).cls ≠ "java/lang/invoke/VarHandle" ∧ (parseMethodDescriptor (gNm mX4_addUpWorths).desc).map (fun d => d.parameters.length) = some 0 := by decide +kernel
theorem okX4_boundOfTop : gMok mX4_boundOfTop := ⟨by decide +kernel, rfl, fun h => (by cases h)⟩
theorem cdX4_boundOfTop : Cond.code (gNm mX4_boundOfTop) (gCode mX4_boundOfTop) (gNL mX4_boundOfTop) (gRet mX4_boundOfTop) ∈ gTb := inT 701 (by decide +kernel) (by decide +kernel)
theorem imX4_boundOfTop : Cond.instanceMethod (gNm mX4_boundOfTop) ∈ gTb ∧ Cond.selects (gNm mX4_boundOfTop).cls (gNm mX4_boundOfTop) (gNm mX4_boundOfTop) ∈ gTb := ⟨inT 699 (by decide +kernel) (by decide +kernel), inT 700 (by decide +kernel) (by decide +kernel)⟩
theorem pdX4_boundOfTop : (gNm mX4_boundOfTop).cls ≠ "java/lang/invoke/MethodHandle" ∧ (gNm mX4_boundOfTop).cls ≠ "java/lang/invoke/VarHandle" ∧ (parseMethodDescriptor (gNm mX4_boundOfTop).desc).map (fun d => d.parameters.length) = some 0 := by decide +kernel
theorem okX4_climbFromTop : gMok mX4_climbFromTop := ⟨by decide +kernel, rfl, fun h => (by cases h)⟩
theorem cdX4_climbFromTop : Cond.code (gNm mX4_climbFromTop) (gCode mX4_climbFromTop) (gNL mX4_climbFromTop) (gRet mX4_climbFromTop) ∈ gTb := inT 710 (by decide +kernel) (by decide +kernel)
theorem imX4_climbFromTop : Cond.instanceMethod (gNm mX4_climbFromTop) ∈ gTb ∧ Cond.selects (gNm mX4_climbFromTop).cls (gNm mX4_climbFromTop) (gNm mX4_climbFromTop) ∈ gTb := ⟨inT 708 (by decide +kernel) (by decide +kernel), inT 709 (by decide +kernel) (by decide +kernel)⟩
theorem pdX4_climbFromTop : (gNm mX4_climbFromTop).cls ≠ "java/lang/invoke/MethodHandle" ∧ (gNm mX4_climbFromTop).cls ≠ "java/lang/invoke/VarHandle" ∧ (parseMethodDescriptor (gNm mX4_climbFromTop).desc).map (fun d => d.parameters.length) = some 2 := by decide +kernel
theorem okX4_movePrices : gMok mX4_movePrices := ⟨by decide +kernel, rfl, fun h => (by cases h)⟩
theorem cdX4_movePrices : Cond.code (gNm mX4_movePrices) (gCode mX4_movePrices) (gNL mX4_movePrices) (gRet mX4_movePrices) ∈ gTb := inT 715 (by decide +kernel) (by decide +kernel)
theorem imX4_movePrices : Cond.instanceMethod (gNm mX4_movePrices) ∈ gTb ∧ Cond.selects (gNm mX4_movePrices).cls (gNm mX4_movePrices) (gNm mX4_movePrices) ∈ gTb := ⟨inT 714 (by decide +kernel) (by decide +kernel), inP 19 (by decide +kernel) (by decide +kernel)⟩
theorem pdX4_movePrices : (gNm mX4_movePrices).cls ≠ "java/lang/invoke/MethodHandle" ∧ (gNm mX4_movePrices).cls ≠ "java/lang/invoke/VarHandle" ∧ (parseMethodDescriptor (gNm mX4_movePrices).desc).map (fun d => d.parameters.length) = some 1 := by decide +kernel
theorem okX4_movedPrice : gMok mX4_movedPrice := ⟨by decide +kernel, rfl, fun h => (by cases h)⟩
theorem cdX4_movedPrice : Cond.code (gNm mX4_movedPrice) (gCode mX4_movedPrice) (gNL mX4_movedPrice) (gRet mX4_movedPrice) ∈ gTb := inT 723 (by decide +kernel) (by decide +kernel)
theorem smX4_movedPrice : Cond.static (gNm mX4_movedPrice) ∈ gTb := inT 722 (by decide +kernel) (by decide +kernel)
theorem pdX4_movedPrice : (gNm mX4_movedPrice).cls ≠ "java/lang/invoke/MethodHandle" ∧ (gNm mX4_movedPrice).cls ≠ "java/lang/invoke/VarHandle" ∧ (parseMethodDescriptor (gNm mX4_movedPrice).desc).map (fun d => d.parameters.length) = some 3 := by decide +kernel
theorem okX4_giversOfTop : gMok mX4_giversOfTop := ⟨by decide +kernel, rfl, fun h => (by cases h)⟩
theorem cdX4_giversOfTop : Cond.code (gNm mX4_giversOfTop) (gCode mX4_giversOfTop) (gNL mX4_giversOfTop) (gRet mX4_giversOfTop) ∈ gTb := inT 719 (by decide +kernel) (by decide +kernel)
theorem imX4_giversOfTop : Cond.instanceMethod (gNm mX4_giversOfTop) ∈ gTb ∧ Cond.selects (gNm mX4_giversOfTop).cls (gNm mX4_giversOfTop) (gNm mX4_giversOfTop) ∈ gTb := ⟨inT 718 (by decide +kernel) (by decide +kernel), inP 20 (by decide +kernel) (by decide +kernel)⟩
theorem pdX4_giversOfTop : (gNm mX4_giversOfTop).cls ≠ "java/lang/invoke/MethodHandle" ∧ (gNm mX4_giversOfTop).cls ≠ "java/lang/invoke/VarHandle" ∧ (parseMethodDescriptor (gNm mX4_giversOfTop).desc).map (fun d => d.parameters.length) = some 1 := by decide +kernel
theorem okX5_init : gMok mX5_init := ⟨by decide +kernel, rfl, fun _ => rfl⟩
theorem cdX5_init : Cond.code (gNm mX5_init) (gCode mX5_init) (gNL mX5_init) (gRet mX5_init) ∈ gTb := inT 136 (by decide +kernel) (by decide +kernel)
theorem imX5_init : Cond.instanceMethod (gNm mX5_init) ∈ gTb ∧ (gNm mX5_init).name = "<init>" := ⟨inT 135 (by decide +kernel) (by decide +kernel), rfl⟩
theorem pdX5_init : (gNm mX5_init).cls ≠ "java/lang/invoke/MethodHandle" ∧ (gNm mX5_init).cls ≠ "java/lang/invoke/VarHandle" ∧ (parseMethodDescriptor (gNm mX5_init).desc).map (fun d => d.parameters.length) = some 0 := by decide +kernel
theorem okX5_take : gMok mX5_take := ⟨by decide +kernel, rfl, fun h => (by cases h)⟩
theorem cdX5_take : Cond.code (gNm mX5_take) (gCode mX5_take) (gNL mX5_take) (gRet mX5_take) ∈ gTb := inT 544 (by decide +kernel) (by decide +kernel)
theorem imX5_take : Cond.instanceMethod (gNm mX5_take) ∈ gTb ∧ Cond.selects (gNm mX5_take).cls (gNm mX5_take) (gNm mX5_take) ∈ gTb := ⟨inT 542 (by decide +kernel) (by decide +kernel), inT 543 (by decide +kernel) (by decide +kernel)⟩
theorem pdX5_take : (gNm mX5_take).cls ≠ "java/lang/invoke/MethodHandle" ∧ (gNm mX5_take).cls ≠ "java/lang/invoke/VarHandle" ∧ (parseMethodDescriptor (gNm mX5_take).desc).map (fun d => d.parameters.length) = some 1 := by decide +kernel
theorem okX5_forget : gMok mX5_forget := ⟨by decide +kernel, rfl, fun h => (by cases h)⟩
theorem cdX5_forget : Cond.code (gNm mX5_forget) (gCode mX5_forget) (gNL mX5_forget) (gRet mX5_forget) ∈ gTb := inT 548 (by decide +kernel) (by decide +kernel)
theorem imX5_forget : Cond.instanceMethod (gNm mX5_forget) ∈ gTb ∧ Cond.selects (gNm mX5_forget).cls (gNm mX5_forget) (gNm mX5_forget) ∈ gTb := ⟨inT 547 (by decide +kernel) (by decide +kernel), inP 10 (by decide +kernel) (by decide +kernel)⟩
theorem pdX5_forget : (gNm mX5_forget).cls ≠ "java/lang/invoke/MethodHandle" ∧ (gNm mX5_forget).cls ≠ "java/lang/invoke/VarHandle" ∧ (parseMethodDescriptor (gNm mX5_forget).desc).map (fun d => d.parameters.length) = some 0 := by decide +kernel
theorem okX5_noteCost : gMok mX5_noteCost := ⟨by decide +kernel, rfl, fun h => (by cases h)⟩
theorem cdX5_noteCost : Cond.code (gNm mX5_noteCost) (gCode mX5_noteCost) (gNL mX5_noteCost) (gRet mX5_noteCost) ∈ gTb := inT 557 (by decide +kernel) (by decide +kernel)
theorem imX5_noteCost : Cond.instanceMethod (gNm mX5_noteCost) ∈ gTb ∧ Cond.selects (gNm mX5_noteCost).cls (gNm mX5_noteCost) (gNm mX5_noteCost) ∈ gTb := ⟨inT 556 (by decide +kernel) (by decide +kernel), inP 11 (by decide +kernel) (by decide +kernel)⟩
theorem pdX5_noteCost : (gNm mX5_noteCost).cls ≠ "java/lang/invoke/MethodHandle" ∧ (gNm mX5_noteCost).cls ≠ "java/lang/invoke/VarHandle" ∧ (parseMethodDescriptor (gNm mX5_noteCost).desc).map (fun d => d.parameters.length) = some 2 := by decide +kernel
theorem okX5_noteLosses : gMok mX5_noteLosses := ⟨by decide +kernel, rfl, fun h => (by cases h)⟩
theorem cdX5_noteLosses : Cond.code (gNm mX5_noteLosses) (gCode mX5_noteLosses) (gNL mX5_noteLosses) (gRet mX5_noteLosses) ∈ gTb := inT 561 (by decide +kernel) (by decide +kernel)
theorem imX5_noteLosses : Cond.instanceMethod (gNm mX5_noteLosses) ∈ gTb ∧ Cond.selects (gNm mX5_noteLosses).cls (gNm mX5_noteLosses) (gNm mX5_noteLosses) ∈ gTb := ⟨inT 560 (by decide +kernel) (by decide +kernel), inP 12 (by decide +kernel) (by decide +kernel)⟩
theorem pdX5_noteLosses : (gNm mX5_noteLosses).cls ≠ "java/lang/invoke/MethodHandle" ∧ (gNm mX5_noteLosses).cls ≠ "java/lang/invoke/VarHandle" ∧ (parseMethodDescriptor (gNm mX5_noteLosses).desc).map (fun d => d.parameters.length) = some 2 := by decide +kernel
theorem okX5_noteFar : gMok mX5_noteFar := ⟨by decide +kernel, rfl, fun h => (by cases h)⟩
theorem cdX5_noteFar : Cond.code (gNm mX5_noteFar) (gCode mX5_noteFar) (gNL mX5_noteFar) (gRet mX5_noteFar) ∈ gTb := inT 573 (by decide +kernel) (by decide +kernel)
theorem imX5_noteFar : Cond.instanceMethod (gNm mX5_noteFar) ∈ gTb ∧ Cond.selects (gNm mX5_noteFar).cls (gNm mX5_noteFar) (gNm mX5_noteFar) ∈ gTb := ⟨inT 572 (by decide +kernel) (by decide +kernel), inP 13 (by decide +kernel) (by decide +kernel)⟩
theorem pdX5_noteFar : (gNm mX5_noteFar).cls ≠ "java/lang/invoke/MethodHandle" ∧ (gNm mX5_noteFar).cls ≠ "java/lang/invoke/VarHandle" ∧ (parseMethodDescriptor (gNm mX5_noteFar).desc).map (fun d => d.parameters.length) = some 2 := by decide +kernel
theorem okX5_dearestLoss : gMok mX5_dearestLoss := ⟨by decide +kernel, rfl, fun h => (by cases h)⟩
theorem cdX5_dearestLoss : Cond.code (gNm mX5_dearestLoss) (gCode mX5_dearestLoss) (gNL mX5_dearestLoss) (gRet mX5_dearestLoss) ∈ gTb := inT 603 (by decide +kernel) (by decide +kernel)
theorem imX5_dearestLoss : Cond.instanceMethod (gNm mX5_dearestLoss) ∈ gTb ∧ Cond.selects (gNm mX5_dearestLoss).cls (gNm mX5_dearestLoss) (gNm mX5_dearestLoss) ∈ gTb := ⟨inT 601 (by decide +kernel) (by decide +kernel), inT 602 (by decide +kernel) (by decide +kernel)⟩
theorem pdX5_dearestLoss : (gNm mX5_dearestLoss).cls ≠ "java/lang/invoke/MethodHandle" ∧ (gNm mX5_dearestLoss).cls ≠ "java/lang/invoke/VarHandle" ∧ (parseMethodDescriptor (gNm mX5_dearestLoss).desc).map (fun d => d.parameters.length) = some 1 := by decide +kernel
theorem okX6_init : gMok mX6_init := ⟨by decide +kernel, rfl, fun _ => rfl⟩
theorem cdX6_init : Cond.code (gNm mX6_init) (gCode mX6_init) (gNL mX6_init) (gRet mX6_init) ∈ gTb := inT 26 (by decide +kernel) (by decide +kernel)
theorem imX6_init : Cond.instanceMethod (gNm mX6_init) ∈ gTb ∧ (gNm mX6_init).name = "<init>" := ⟨inT 25 (by decide +kernel) (by decide +kernel), rfl⟩
theorem pdX6_init : (gNm mX6_init).cls ≠ "java/lang/invoke/MethodHandle" ∧ (gNm mX6_init).cls ≠ "java/lang/invoke/VarHandle" ∧ (parseMethodDescriptor (gNm mX6_init).desc).map (fun d => d.parameters.length) = some 0 := by decide +kernel
theorem okX6_hasVillage : gMok mX6_hasVillage := ⟨by decide +kernel, rfl, fun h => (by cases h)⟩
theorem cdX6_hasVillage : Cond.code (gNm mX6_hasVillage) (gCode mX6_hasVillage) (gNL mX6_hasVillage) (gRet mX6_hasVillage) ∈ gTb := inT 360 (by decide +kernel) (by decide +kernel)
theorem imX6_hasVillage : Cond.instanceMethod (gNm mX6_hasVillage) ∈ gTb ∧ Cond.selects (gNm mX6_hasVillage).cls (gNm mX6_hasVillage) (gNm mX6_hasVillage) ∈ gTb := ⟨inT 358 (by decide +kernel) (by decide +kernel), inT 359 (by decide +kernel) (by decide +kernel)⟩
theorem pdX6_hasVillage : (gNm mX6_hasVillage).cls ≠ "java/lang/invoke/MethodHandle" ∧ (gNm mX6_hasVillage).cls ≠ "java/lang/invoke/VarHandle" ∧ (parseMethodDescriptor (gNm mX6_hasVillage).desc).map (fun d => d.parameters.length) = some 1 := by decide +kernel
theorem okX6_hasPlace : gMok mX6_hasPlace := ⟨by decide +kernel, rfl, fun h => (by cases h)⟩
theorem cdX6_hasPlace : Cond.code (gNm mX6_hasPlace) (gCode mX6_hasPlace) (gNL mX6_hasPlace) (gRet mX6_hasPlace) ∈ gTb := inT 394 (by decide +kernel) (by decide +kernel)
theorem imX6_hasPlace : Cond.instanceMethod (gNm mX6_hasPlace) ∈ gTb ∧ Cond.selects (gNm mX6_hasPlace).cls (gNm mX6_hasPlace) (gNm mX6_hasPlace) ∈ gTb := ⟨inT 392 (by decide +kernel) (by decide +kernel), inT 393 (by decide +kernel) (by decide +kernel)⟩
theorem pdX6_hasPlace : (gNm mX6_hasPlace).cls ≠ "java/lang/invoke/MethodHandle" ∧ (gNm mX6_hasPlace).cls ≠ "java/lang/invoke/VarHandle" ∧ (parseMethodDescriptor (gNm mX6_hasPlace).desc).map (fun d => d.parameters.length) = some 1 := by decide +kernel
theorem okX6_takesRoad : gMok mX6_takesRoad := ⟨by decide +kernel, rfl, fun h => (by cases h)⟩
theorem cdX6_takesRoad : Cond.code (gNm mX6_takesRoad) (gCode mX6_takesRoad) (gNL mX6_takesRoad) (gRet mX6_takesRoad) ∈ gTb := inT 369 (by decide +kernel) (by decide +kernel)
theorem imX6_takesRoad : Cond.instanceMethod (gNm mX6_takesRoad) ∈ gTb ∧ Cond.selects (gNm mX6_takesRoad).cls (gNm mX6_takesRoad) (gNm mX6_takesRoad) ∈ gTb := ⟨inT 367 (by decide +kernel) (by decide +kernel), inT 368 (by decide +kernel) (by decide +kernel)⟩
theorem pdX6_takesRoad : (gNm mX6_takesRoad).cls ≠ "java/lang/invoke/MethodHandle" ∧ (gNm mX6_takesRoad).cls ≠ "java/lang/invoke/VarHandle" ∧ (parseMethodDescriptor (gNm mX6_takesRoad).desc).map (fun d => d.parameters.length) = some 3 := by decide +kernel
theorem okX6_settle : gMok mX6_settle := ⟨by decide +kernel, rfl, fun h => (by cases h)⟩
theorem cdX6_settle : Cond.code (gNm mX6_settle) (gCode mX6_settle) (gNL mX6_settle) (gRet mX6_settle) ∈ gTb := inT 295 (by decide +kernel) (by decide +kernel)
theorem imX6_settle : Cond.instanceMethod (gNm mX6_settle) ∈ gTb ∧ Cond.selects (gNm mX6_settle).cls (gNm mX6_settle) (gNm mX6_settle) ∈ gTb := ⟨inT 293 (by decide +kernel) (by decide +kernel), inT 294 (by decide +kernel) (by decide +kernel)⟩
theorem pdX6_settle : (gNm mX6_settle).cls ≠ "java/lang/invoke/MethodHandle" ∧ (gNm mX6_settle).cls ≠ "java/lang/invoke/VarHandle" ∧ (parseMethodDescriptor (gNm mX6_settle).desc).map (fun d => d.parameters.length) = some 1 := by decide +kernel
theorem okX6_stake : gMok mX6_stake := ⟨by decide +kernel, rfl, fun h => (by cases h)⟩
theorem cdX6_stake : Cond.code (gNm mX6_stake) (gCode mX6_stake) (gNL mX6_stake) (gRet mX6_stake) ∈ gTb := inT 386 (by decide +kernel) (by decide +kernel)
theorem imX6_stake : Cond.instanceMethod (gNm mX6_stake) ∈ gTb ∧ Cond.selects (gNm mX6_stake).cls (gNm mX6_stake) (gNm mX6_stake) ∈ gTb := ⟨inT 384 (by decide +kernel) (by decide +kernel), inT 385 (by decide +kernel) (by decide +kernel)⟩
theorem pdX6_stake : (gNm mX6_stake).cls ≠ "java/lang/invoke/MethodHandle" ∧ (gNm mX6_stake).cls ≠ "java/lang/invoke/VarHandle" ∧ (parseMethodDescriptor (gNm mX6_stake).desc).map (fun d => d.parameters.length) = some 3 := by decide +kernel
theorem okX6_lengthOf : gMok mX6_lengthOf := ⟨by decide +kernel, rfl, fun h => (by cases h)⟩
theorem cdX6_lengthOf : Cond.code (gNm mX6_lengthOf) (gCode mX6_lengthOf) (gNL mX6_lengthOf) (gRet mX6_lengthOf) ∈ gTb := inT 329 (by decide +kernel) (by decide +kernel)
theorem imX6_lengthOf : Cond.instanceMethod (gNm mX6_lengthOf) ∈ gTb ∧ Cond.selects (gNm mX6_lengthOf).cls (gNm mX6_lengthOf) (gNm mX6_lengthOf) ∈ gTb := ⟨inT 327 (by decide +kernel) (by decide +kernel), inT 328 (by decide +kernel) (by decide +kernel)⟩
theorem pdX6_lengthOf : (gNm mX6_lengthOf).cls ≠ "java/lang/invoke/MethodHandle" ∧ (gNm mX6_lengthOf).cls ≠ "java/lang/invoke/VarHandle" ∧ (parseMethodDescriptor (gNm mX6_lengthOf).desc).map (fun d => d.parameters.length) = some 2 := by decide +kernel
theorem okX6_pave : gMok mX6_pave := ⟨by decide +kernel, rfl, fun h => (by cases h)⟩
theorem cdX6_pave : Cond.code (gNm mX6_pave) (gCode mX6_pave) (gNL mX6_pave) (gRet mX6_pave) ∈ gTb := inT 376 (by decide +kernel) (by decide +kernel)
theorem imX6_pave : Cond.instanceMethod (gNm mX6_pave) ∈ gTb ∧ Cond.selects (gNm mX6_pave).cls (gNm mX6_pave) (gNm mX6_pave) ∈ gTb := ⟨inT 374 (by decide +kernel) (by decide +kernel), inT 375 (by decide +kernel) (by decide +kernel)⟩
theorem pdX6_pave : (gNm mX6_pave).cls ≠ "java/lang/invoke/MethodHandle" ∧ (gNm mX6_pave).cls ≠ "java/lang/invoke/VarHandle" ∧ (parseMethodDescriptor (gNm mX6_pave).desc).map (fun d => d.parameters.length) = some 3 := by decide +kernel
theorem okX6_roads : gMok mX6_roads := ⟨by decide +kernel, rfl, fun h => (by cases h)⟩
theorem cdX6_roads : Cond.code (gNm mX6_roads) (gCode mX6_roads) (gNL mX6_roads) (gRet mX6_roads) ∈ gTb := inT 750 (by decide +kernel) (by decide +kernel)
theorem imX6_roads : Cond.instanceMethod (gNm mX6_roads) ∈ gTb ∧ Cond.selects (gNm mX6_roads).cls (gNm mX6_roads) (gNm mX6_roads) ∈ gTb := ⟨inT 748 (by decide +kernel) (by decide +kernel), inT 749 (by decide +kernel) (by decide +kernel)⟩
theorem pdX6_roads : (gNm mX6_roads).cls ≠ "java/lang/invoke/MethodHandle" ∧ (gNm mX6_roads).cls ≠ "java/lang/invoke/VarHandle" ∧ (parseMethodDescriptor (gNm mX6_roads).desc).map (fun d => d.parameters.length) = some 0 := by decide +kernel
theorem okX6_allLoaves : gMok mX6_allLoaves := ⟨by decide +kernel, rfl, fun h => (by cases h)⟩
theorem cdX6_allLoaves : Cond.code (gNm mX6_allLoaves) (gCode mX6_allLoaves) (gNL mX6_allLoaves) (gRet mX6_allLoaves) ∈ gTb := inT 755 (by decide +kernel) (by decide +kernel)
theorem imX6_allLoaves : Cond.instanceMethod (gNm mX6_allLoaves) ∈ gTb ∧ Cond.selects (gNm mX6_allLoaves).cls (gNm mX6_allLoaves) (gNm mX6_allLoaves) ∈ gTb := ⟨inT 753 (by decide +kernel) (by decide +kernel), inT 754 (by decide +kernel) (by decide +kernel)⟩
theorem pdX6_allLoaves : (gNm mX6_allLoaves).cls ≠ "java/lang/invoke/MethodHandle" ∧ (gNm mX6_allLoaves).cls ≠ "java/lang/invoke/VarHandle" ∧ (parseMethodDescriptor (gNm mX6_allLoaves).desc).map (fun d => d.parameters.length) = some 0 := by decide +kernel
theorem okX6_placesOfKind : gMok mX6_placesOfKind := ⟨by decide +kernel, rfl, fun h => (by cases h)⟩
theorem cdX6_placesOfKind : Cond.code (gNm mX6_placesOfKind) (gCode mX6_placesOfKind) (gNL mX6_placesOfKind) (gRet mX6_placesOfKind) ∈ gTb := inT 346 (by decide +kernel) (by decide +kernel)
theorem imX6_placesOfKind : Cond.instanceMethod (gNm mX6_placesOfKind) ∈ gTb ∧ Cond.selects (gNm mX6_placesOfKind).cls (gNm mX6_placesOfKind) (gNm mX6_placesOfKind) ∈ gTb := ⟨inT 344 (by decide +kernel) (by decide +kernel), inT 345 (by decide +kernel) (by decide +kernel)⟩
theorem pdX6_placesOfKind : (gNm mX6_placesOfKind).cls ≠ "java/lang/invoke/MethodHandle" ∧ (gNm mX6_placesOfKind).cls ≠ "java/lang/invoke/VarHandle" ∧ (parseMethodDescriptor (gNm mX6_placesOfKind).desc).map (fun d => d.parameters.length) = some 1 := by decide +kernel
theorem okX6_ovenCost : gMok mX6_ovenCost := ⟨by decide +kernel, rfl, fun h => (by cases h)⟩
theorem cdX6_ovenCost : Cond.code (gNm mX6_ovenCost) (gCode mX6_ovenCost) (gNL mX6_ovenCost) (gRet mX6_ovenCost) ∈ gTb := inT 492 (by decide +kernel) (by decide +kernel)
theorem imX6_ovenCost : Cond.instanceMethod (gNm mX6_ovenCost) ∈ gTb ∧ Cond.selects (gNm mX6_ovenCost).cls (gNm mX6_ovenCost) (gNm mX6_ovenCost) ∈ gTb := ⟨inT 490 (by decide +kernel) (by decide +kernel), inT 491 (by decide +kernel) (by decide +kernel)⟩
theorem pdX6_ovenCost : (gNm mX6_ovenCost).cls ≠ "java/lang/invoke/MethodHandle" ∧ (gNm mX6_ovenCost).cls ≠ "java/lang/invoke/VarHandle" ∧ (parseMethodDescriptor (gNm mX6_ovenCost).desc).map (fun d => d.parameters.length) = some 1 := by decide +kernel
theorem okX6_copyFrom : gMok mX6_copyFrom := ⟨by decide +kernel, rfl, fun h => (by cases h)⟩
theorem cdX6_copyFrom : Cond.code (gNm mX6_copyFrom) (gCode mX6_copyFrom) (gNL mX6_copyFrom) (gRet mX6_copyFrom) ∈ gTb := inT 288 (by decide +kernel) (by decide +kernel)
theorem imX6_copyFrom : Cond.instanceMethod (gNm mX6_copyFrom) ∈ gTb ∧ Cond.selects (gNm mX6_copyFrom).cls (gNm mX6_copyFrom) (gNm mX6_copyFrom) ∈ gTb := ⟨inT 286 (by decide +kernel) (by decide +kernel), inT 287 (by decide +kernel) (by decide +kernel)⟩
theorem pdX6_copyFrom : (gNm mX6_copyFrom).cls ≠ "java/lang/invoke/MethodHandle" ∧ (gNm mX6_copyFrom).cls ≠ "java/lang/invoke/VarHandle" ∧ (parseMethodDescriptor (gNm mX6_copyFrom).desc).map (fun d => d.parameters.length) = some 1 := by decide +kernel
theorem okX6_isLike : gMok mX6_isLike := ⟨by decide +kernel, rfl, fun h => (by cases h)⟩
theorem cdX6_isLike : Cond.code (gNm mX6_isLike) (gCode mX6_isLike) (gNL mX6_isLike) (gRet mX6_isLike) ∈ gTb := inT 307 (by decide +kernel) (by decide +kernel)
theorem imX6_isLike : Cond.instanceMethod (gNm mX6_isLike) ∈ gTb ∧ Cond.selects (gNm mX6_isLike).cls (gNm mX6_isLike) (gNm mX6_isLike) ∈ gTb := ⟨inT 305 (by decide +kernel) (by decide +kernel), inT 306 (by decide +kernel) (by decide +kernel)⟩
theorem pdX6_isLike : (gNm mX6_isLike).cls ≠ "java/lang/invoke/MethodHandle" ∧ (gNm mX6_isLike).cls ≠ "java/lang/invoke/VarHandle" ∧ (parseMethodDescriptor (gNm mX6_isLike).desc).map (fun d => d.parameters.length) = some 1 := by decide +kernel
theorem okX6_sameRows : gMok mX6_sameRows := ⟨by decide +kernel, rfl, fun h => (by cases h)⟩
theorem cdX6_sameRows : Cond.code (gNm mX6_sameRows) (gCode mX6_sameRows) (gNL mX6_sameRows) (gRet mX6_sameRows) ∈ gTb := inT 310 (by decide +kernel) (by decide +kernel)
theorem smX6_sameRows : Cond.static (gNm mX6_sameRows) ∈ gTb := inT 309 (by decide +kernel) (by decide +kernel)
theorem pdX6_sameRows : (gNm mX6_sameRows).cls ≠ "java/lang/invoke/MethodHandle" ∧ (gNm mX6_sameRows).cls ≠ "java/lang/invoke/VarHandle" ∧ (parseMethodDescriptor (gNm mX6_sameRows).desc).map (fun d => d.parameters.length) = some 2 := by decide +kernel
theorem okX7_init : gMok mX7_init := ⟨by decide +kernel, rfl, fun _ => rfl⟩
theorem cdX7_init : Cond.code (gNm mX7_init) (gCode mX7_init) (gNL mX7_init) (gRet mX7_init) ∈ gTb := inT 103 (by decide +kernel) (by decide +kernel)
theorem imX7_init : Cond.instanceMethod (gNm mX7_init) ∈ gTb ∧ (gNm mX7_init).name = "<init>" := ⟨inT 102 (by decide +kernel) (by decide +kernel), rfl⟩
theorem pdX7_init : (gNm mX7_init).cls ≠ "java/lang/invoke/MethodHandle" ∧ (gNm mX7_init).cls ≠ "java/lang/invoke/VarHandle" ∧ (parseMethodDescriptor (gNm mX7_init).desc).map (fun d => d.parameters.length) = some 0 := by decide +kernel
theorem okX7_between : gMok mX7_between := ⟨by decide +kernel, rfl, fun h => (by cases h)⟩
theorem cdX7_between : Cond.code (gNm mX7_between) (gCode mX7_between) (gNL mX7_between) (gRet mX7_between) ∈ gTb := inT 338 (by decide +kernel) (by decide +kernel)
theorem imX7_between : Cond.instanceMethod (gNm mX7_between) ∈ gTb ∧ Cond.selects (gNm mX7_between).cls (gNm mX7_between) (gNm mX7_between) ∈ gTb := ⟨inT 336 (by decide +kernel) (by decide +kernel), inT 337 (by decide +kernel) (by decide +kernel)⟩
theorem pdX7_between : (gNm mX7_between).cls ≠ "java/lang/invoke/MethodHandle" ∧ (gNm mX7_between).cls ≠ "java/lang/invoke/VarHandle" ∧ (parseMethodDescriptor (gNm mX7_between).desc).map (fun d => d.parameters.length) = some 2 := by decide +kernel
theorem okX7_measure : gMok mX7_measure := ⟨by decide +kernel, rfl, fun h => (by cases h)⟩
theorem cdX7_measure : Cond.code (gNm mX7_measure) (gCode mX7_measure) (gNL mX7_measure) (gRet mX7_measure) ∈ gTb := inT 321 (by decide +kernel) (by decide +kernel)
theorem imX7_measure : Cond.instanceMethod (gNm mX7_measure) ∈ gTb ∧ Cond.selects (gNm mX7_measure).cls (gNm mX7_measure) (gNm mX7_measure) ∈ gTb := ⟨inT 319 (by decide +kernel) (by decide +kernel), inT 320 (by decide +kernel) (by decide +kernel)⟩
theorem pdX7_measure : (gNm mX7_measure).cls ≠ "java/lang/invoke/MethodHandle" ∧ (gNm mX7_measure).cls ≠ "java/lang/invoke/VarHandle" ∧ (parseMethodDescriptor (gNm mX7_measure).desc).map (fun d => d.parameters.length) = some 1 := by decide +kernel
theorem okX7_takeRoads : gMok mX7_takeRoads := ⟨by decide +kernel, rfl, fun h => (by cases h)⟩
theorem cdX7_takeRoads : Cond.code (gNm mX7_takeRoads) (gCode mX7_takeRoads) (gNL mX7_takeRoads) (gRet mX7_takeRoads) ∈ gTb := inT 325 (by decide +kernel) (by decide +kernel)
theorem imX7_takeRoads : Cond.instanceMethod (gNm mX7_takeRoads) ∈ gTb ∧ Cond.selects (gNm mX7_takeRoads).cls (gNm mX7_takeRoads) (gNm mX7_takeRoads) ∈ gTb := ⟨inT 324 (by decide +kernel) (by decide +kernel), inP 2 (by decide +kernel) (by decide +kernel)⟩
theorem pdX7_takeRoads : (gNm mX7_takeRoads).cls ≠ "java/lang/invoke/MethodHandle" ∧ (gNm mX7_takeRoads).cls ≠ "java/lang/invoke/VarHandle" ∧ (parseMethodDescriptor (gNm mX7_takeRoads).desc).map (fun d => d.parameters.length) = some 1 := by decide +kernel
theorem okX7_shorten : gMok mX7_shorten := ⟨by decide +kernel, rfl, fun h => (by cases h)⟩
theorem cdX7_shorten : Cond.code (gNm mX7_shorten) (gCode mX7_shorten) (gNL mX7_shorten) (gRet mX7_shorten) ∈ gTb := inT 334 (by decide +kernel) (by decide +kernel)
theorem imX7_shorten : Cond.instanceMethod (gNm mX7_shorten) ∈ gTb ∧ Cond.selects (gNm mX7_shorten).cls (gNm mX7_shorten) (gNm mX7_shorten) ∈ gTb := ⟨inT 333 (by decide +kernel) (by decide +kernel), inP 3 (by decide +kernel) (by decide +kernel)⟩
theorem pdX7_shorten : (gNm mX7_shorten).cls ≠ "java/lang/invoke/MethodHandle" ∧ (gNm mX7_shorten).cls ≠ "java/lang/invoke/VarHandle" ∧ (parseMethodDescriptor (gNm mX7_shorten).desc).map (fun d => d.parameters.length) = some 3 := by decide +kernel
theorem okX7_villageAt : gMok mX7_villageAt := ⟨by decide +kernel, rfl, fun h => (by cases h)⟩
theorem cdX7_villageAt : Cond.code (gNm mX7_villageAt) (gCode mX7_villageAt) (gNL mX7_villageAt) (gRet mX7_villageAt) ∈ gTb := inT 454 (by decide +kernel) (by decide +kernel)
theorem imX7_villageAt : Cond.instanceMethod (gNm mX7_villageAt) ∈ gTb ∧ Cond.selects (gNm mX7_villageAt).cls (gNm mX7_villageAt) (gNm mX7_villageAt) ∈ gTb := ⟨inT 452 (by decide +kernel) (by decide +kernel), inT 453 (by decide +kernel) (by decide +kernel)⟩
theorem pdX7_villageAt : (gNm mX7_villageAt).cls ≠ "java/lang/invoke/MethodHandle" ∧ (gNm mX7_villageAt).cls ≠ "java/lang/invoke/VarHandle" ∧ (parseMethodDescriptor (gNm mX7_villageAt).desc).map (fun d => d.parameters.length) = some 4 := by decide +kernel
theorem okX7_nextOf : gMok mX7_nextOf := ⟨by decide +kernel, rfl, fun h => (by cases h)⟩
theorem cdX7_nextOf : Cond.code (gNm mX7_nextOf) (gCode mX7_nextOf) (gNL mX7_nextOf) (gRet mX7_nextOf) ∈ gTb := inT 458 (by decide +kernel) (by decide +kernel)
theorem imX7_nextOf : Cond.instanceMethod (gNm mX7_nextOf) ∈ gTb ∧ Cond.selects (gNm mX7_nextOf).cls (gNm mX7_nextOf) (gNm mX7_nextOf) ∈ gTb := ⟨inT 457 (by decide +kernel) (by decide +kernel), inP 7 (by decide +kernel) (by decide +kernel)⟩
theorem pdX7_nextOf : (gNm mX7_nextOf).cls ≠ "java/lang/invoke/MethodHandle" ∧ (gNm mX7_nextOf).cls ≠ "java/lang/invoke/VarHandle" ∧ (parseMethodDescriptor (gNm mX7_nextOf).desc).map (fun d => d.parameters.length) = some 3 := by decide +kernel
theorem okX8_init : gMok mX8_init := ⟨by decide +kernel, rfl, fun _ => rfl⟩
theorem cdX8_init : Cond.code (gNm mX8_init) (gCode mX8_init) (gNL mX8_init) (gRet mX8_init) ∈ gTb := inT 18 (by decide +kernel) (by decide +kernel)
theorem imX8_init : Cond.instanceMethod (gNm mX8_init) ∈ gTb ∧ (gNm mX8_init).name = "<init>" := ⟨inT 17 (by decide +kernel) (by decide +kernel), rfl⟩
theorem pdX8_init : (gNm mX8_init).cls ≠ "java/lang/invoke/MethodHandle" ∧ (gNm mX8_init).cls ≠ "java/lang/invoke/VarHandle" ∧ (parseMethodDescriptor (gNm mX8_init).desc).map (fun d => d.parameters.length) = some 0 := by decide +kernel
theorem okX8_village : gMok mX8_village := ⟨by decide +kernel, rfl, fun h => (by cases h)⟩
theorem cdX8_village : Cond.code (gNm mX8_village) (gCode mX8_village) (gNL mX8_village) (gRet mX8_village) ∈ gTb := inT 276 (by decide +kernel) (by decide +kernel)
theorem imX8_village : Cond.instanceMethod (gNm mX8_village) ∈ gTb ∧ Cond.selects (gNm mX8_village).cls (gNm mX8_village) (gNm mX8_village) ∈ gTb := ⟨inT 274 (by decide +kernel) (by decide +kernel), inT 275 (by decide +kernel) (by decide +kernel)⟩
theorem pdX8_village : (gNm mX8_village).cls ≠ "java/lang/invoke/MethodHandle" ∧ (gNm mX8_village).cls ≠ "java/lang/invoke/VarHandle" ∧ (parseMethodDescriptor (gNm mX8_village).desc).map (fun d => d.parameters.length) = some 1 := by decide +kernel
theorem okX8_loaves : gMok mX8_loaves := ⟨by decide +kernel, rfl, fun h => (by cases h)⟩
theorem cdX8_loaves : Cond.code (gNm mX8_loaves) (gCode mX8_loaves) (gNL mX8_loaves) (gRet mX8_loaves) ∈ gTb := inT 356 (by decide +kernel) (by decide +kernel)
theorem imX8_loaves : Cond.instanceMethod (gNm mX8_loaves) ∈ gTb ∧ Cond.selects (gNm mX8_loaves).cls (gNm mX8_loaves) (gNm mX8_loaves) ∈ gTb := ⟨inT 354 (by decide +kernel) (by decide +kernel), inT 355 (by decide +kernel) (by decide +kernel)⟩
theorem pdX8_loaves : (gNm mX8_loaves).cls ≠ "java/lang/invoke/MethodHandle" ∧ (gNm mX8_loaves).cls ≠ "java/lang/invoke/VarHandle" ∧ (parseMethodDescriptor (gNm mX8_loaves).desc).map (fun d => d.parameters.length) = some 2 := by decide +kernel
theorem okX8_road : gMok mX8_road := ⟨by decide +kernel, rfl, fun h => (by cases h)⟩
theorem cdX8_road : Cond.code (gNm mX8_road) (gCode mX8_road) (gNL mX8_road) (gRet mX8_road) ∈ gTb := inT 365 (by decide +kernel) (by decide +kernel)
theorem imX8_road : Cond.instanceMethod (gNm mX8_road) ∈ gTb ∧ Cond.selects (gNm mX8_road).cls (gNm mX8_road) (gNm mX8_road) ∈ gTb := ⟨inT 363 (by decide +kernel) (by decide +kernel), inT 364 (by decide +kernel) (by decide +kernel)⟩
theorem pdX8_road : (gNm mX8_road).cls ≠ "java/lang/invoke/MethodHandle" ∧ (gNm mX8_road).cls ≠ "java/lang/invoke/VarHandle" ∧ (parseMethodDescriptor (gNm mX8_road).desc).map (fun d => d.parameters.length) = some 3 := by decide +kernel
theorem okX8_place : gMok mX8_place := ⟨by decide +kernel, rfl, fun h => (by cases h)⟩
theorem cdX8_place : Cond.code (gNm mX8_place) (gCode mX8_place) (gNL mX8_place) (gRet mX8_place) ∈ gTb := inT 380 (by decide +kernel) (by decide +kernel)
theorem imX8_place : Cond.instanceMethod (gNm mX8_place) ∈ gTb ∧ Cond.selects (gNm mX8_place).cls (gNm mX8_place) (gNm mX8_place) ∈ gTb := ⟨inT 378 (by decide +kernel) (by decide +kernel), inT 379 (by decide +kernel) (by decide +kernel)⟩
theorem pdX8_place : (gNm mX8_place).cls ≠ "java/lang/invoke/MethodHandle" ∧ (gNm mX8_place).cls ≠ "java/lang/invoke/VarHandle" ∧ (parseMethodDescriptor (gNm mX8_place).desc).map (fun d => d.parameters.length) = some 3 := by decide +kernel
theorem okX8_reach : gMok mX8_reach := ⟨by decide +kernel, rfl, fun h => (by cases h)⟩
theorem cdX8_reach : Cond.code (gNm mX8_reach) (gCode mX8_reach) (gNL mX8_reach) (gRet mX8_reach) ∈ gTb := inT 390 (by decide +kernel) (by decide +kernel)
theorem imX8_reach : Cond.instanceMethod (gNm mX8_reach) ∈ gTb ∧ Cond.selects (gNm mX8_reach).cls (gNm mX8_reach) (gNm mX8_reach) ∈ gTb := ⟨inT 388 (by decide +kernel) (by decide +kernel), inT 389 (by decide +kernel) (by decide +kernel)⟩
theorem pdX8_reach : (gNm mX8_reach).cls ≠ "java/lang/invoke/MethodHandle" ∧ (gNm mX8_reach).cls ≠ "java/lang/invoke/VarHandle" ∧ (parseMethodDescriptor (gNm mX8_reach).desc).map (fun d => d.parameters.length) = some 2 := by decide +kernel
theorem okX8_number : gMok mX8_number := ⟨by decide +kernel, rfl, fun h => (by cases h)⟩
theorem cdX8_number : Cond.code (gNm mX8_number) (gCode mX8_number) (gNL mX8_number) (gRet mX8_number) ∈ gTb := inT 399 (by decide +kernel) (by decide +kernel)
theorem imX8_number : Cond.instanceMethod (gNm mX8_number) ∈ gTb ∧ Cond.selects (gNm mX8_number).cls (gNm mX8_number) (gNm mX8_number) ∈ gTb := ⟨inT 397 (by decide +kernel) (by decide +kernel), inT 398 (by decide +kernel) (by decide +kernel)⟩
theorem pdX8_number : (gNm mX8_number).cls ≠ "java/lang/invoke/MethodHandle" ∧ (gNm mX8_number).cls ≠ "java/lang/invoke/VarHandle" ∧ (parseMethodDescriptor (gNm mX8_number).desc).map (fun d => d.parameters.length) = some 1 := by decide +kernel
theorem okX8_map : gMok mX8_map := ⟨by decide +kernel, rfl, fun h => (by cases h)⟩
theorem cdX8_map : Cond.code (gNm mX8_map) (gCode mX8_map) (gNL mX8_map) (gRet mX8_map) ∈ gTb := inT 404 (by decide +kernel) (by decide +kernel)
theorem imX8_map : Cond.instanceMethod (gNm mX8_map) ∈ gTb ∧ Cond.selects (gNm mX8_map).cls (gNm mX8_map) (gNm mX8_map) ∈ gTb := ⟨inT 402 (by decide +kernel) (by decide +kernel), inT 403 (by decide +kernel) (by decide +kernel)⟩
theorem pdX8_map : (gNm mX8_map).cls ≠ "java/lang/invoke/MethodHandle" ∧ (gNm mX8_map).cls ≠ "java/lang/invoke/VarHandle" ∧ (parseMethodDescriptor (gNm mX8_map).desc).map (fun d => d.parameters.length) = some 3 := by decide +kernel
theorem okX8_lay : gMok mX8_lay := ⟨by decide +kernel, rfl, fun h => (by cases h)⟩
theorem cdX8_lay : Cond.code (gNm mX8_lay) (gCode mX8_lay) (gNL mX8_lay) (gRet mX8_lay) ∈ gTb := inT 420 (by decide +kernel) (by decide +kernel)
theorem imX8_lay : Cond.instanceMethod (gNm mX8_lay) ∈ gTb ∧ Cond.selects (gNm mX8_lay).cls (gNm mX8_lay) (gNm mX8_lay) ∈ gTb := ⟨inT 418 (by decide +kernel) (by decide +kernel), inT 419 (by decide +kernel) (by decide +kernel)⟩
theorem pdX8_lay : (gNm mX8_lay).cls ≠ "java/lang/invoke/MethodHandle" ∧ (gNm mX8_lay).cls ≠ "java/lang/invoke/VarHandle" ∧ (parseMethodDescriptor (gNm mX8_lay).desc).map (fun d => d.parameters.length) = some 3 := by decide +kernel
theorem okX8_draw : gMok mX8_draw := ⟨by decide +kernel, rfl, fun h => (by cases h)⟩
theorem cdX8_draw : Cond.code (gNm mX8_draw) (gCode mX8_draw) (gNL mX8_draw) (gRet mX8_draw) ∈ gTb := inT 428 (by decide +kernel) (by decide +kernel)
theorem imX8_draw : Cond.instanceMethod (gNm mX8_draw) ∈ gTb ∧ Cond.selects (gNm mX8_draw).cls (gNm mX8_draw) (gNm mX8_draw) ∈ gTb := ⟨inT 426 (by decide +kernel) (by decide +kernel), inT 427 (by decide +kernel) (by decide +kernel)⟩
theorem pdX8_draw : (gNm mX8_draw).cls ≠ "java/lang/invoke/MethodHandle" ∧ (gNm mX8_draw).cls ≠ "java/lang/invoke/VarHandle" ∧ (parseMethodDescriptor (gNm mX8_draw).desc).map (fun d => d.parameters.length) = some 3 := by decide +kernel
theorem okX8_apart : gMok mX8_apart := ⟨by decide +kernel, rfl, fun h => (by cases h)⟩
theorem cdX8_apart : Cond.code (gNm mX8_apart) (gCode mX8_apart) (gNL mX8_apart) (gRet mX8_apart) ∈ gTb := inT 444 (by decide +kernel) (by decide +kernel)
theorem imX8_apart : Cond.instanceMethod (gNm mX8_apart) ∈ gTb ∧ Cond.selects (gNm mX8_apart).cls (gNm mX8_apart) (gNm mX8_apart) ∈ gTb := ⟨inT 442 (by decide +kernel) (by decide +kernel), inT 443 (by decide +kernel) (by decide +kernel)⟩
theorem pdX8_apart : (gNm mX8_apart).cls ≠ "java/lang/invoke/MethodHandle" ∧ (gNm mX8_apart).cls ≠ "java/lang/invoke/VarHandle" ∧ (parseMethodDescriptor (gNm mX8_apart).desc).map (fun d => d.parameters.length) = some 2 := by decide +kernel
theorem okX8_way : gMok mX8_way := ⟨by decide +kernel, rfl, fun h => (by cases h)⟩
theorem cdX8_way : Cond.code (gNm mX8_way) (gCode mX8_way) (gNL mX8_way) (gRet mX8_way) ∈ gTb := inT 450 (by decide +kernel) (by decide +kernel)
theorem imX8_way : Cond.instanceMethod (gNm mX8_way) ∈ gTb ∧ Cond.selects (gNm mX8_way).cls (gNm mX8_way) (gNm mX8_way) ∈ gTb := ⟨inT 448 (by decide +kernel) (by decide +kernel), inT 449 (by decide +kernel) (by decide +kernel)⟩
theorem pdX8_way : (gNm mX8_way).cls ≠ "java/lang/invoke/MethodHandle" ∧ (gNm mX8_way).cls ≠ "java/lang/invoke/VarHandle" ∧ (parseMethodDescriptor (gNm mX8_way).desc).map (fun d => d.parameters.length) = some 3 := by decide +kernel
theorem okX8_allowed : gMok mX8_allowed := ⟨by decide +kernel, rfl, fun h => (by cases h)⟩
theorem cdX8_allowed : Cond.code (gNm mX8_allowed) (gCode mX8_allowed) (gNL mX8_allowed) (gRet mX8_allowed) ∈ gTb := inT 462 (by decide +kernel) (by decide +kernel)
theorem imX8_allowed : Cond.instanceMethod (gNm mX8_allowed) ∈ gTb ∧ Cond.selects (gNm mX8_allowed).cls (gNm mX8_allowed) (gNm mX8_allowed) ∈ gTb := ⟨inT 460 (by decide +kernel) (by decide +kernel), inT 461 (by decide +kernel) (by decide +kernel)⟩
theorem pdX8_allowed : (gNm mX8_allowed).cls ≠ "java/lang/invoke/MethodHandle" ∧ (gNm mX8_allowed).cls ≠ "java/lang/invoke/VarHandle" ∧ (parseMethodDescriptor (gNm mX8_allowed).desc).map (fun d => d.parameters.length) = some 1 := by decide +kernel
theorem okX8_cost : gMok mX8_cost := ⟨by decide +kernel, rfl, fun h => (by cases h)⟩
theorem cdX8_cost : Cond.code (gNm mX8_cost) (gCode mX8_cost) (gNL mX8_cost) (gRet mX8_cost) ∈ gTb := inT 480 (by decide +kernel) (by decide +kernel)
theorem imX8_cost : Cond.instanceMethod (gNm mX8_cost) ∈ gTb ∧ Cond.selects (gNm mX8_cost).cls (gNm mX8_cost) (gNm mX8_cost) ∈ gTb := ⟨inT 478 (by decide +kernel) (by decide +kernel), inT 479 (by decide +kernel) (by decide +kernel)⟩
theorem pdX8_cost : (gNm mX8_cost).cls ≠ "java/lang/invoke/MethodHandle" ∧ (gNm mX8_cost).cls ≠ "java/lang/invoke/VarHandle" ∧ (parseMethodDescriptor (gNm mX8_cost).desc).map (fun d => d.parameters.length) = some 1 := by decide +kernel
theorem okX8_served : gMok mX8_served := ⟨by decide +kernel, rfl, fun h => (by cases h)⟩
theorem cdX8_served : Cond.code (gNm mX8_served) (gCode mX8_served) (gNL mX8_served) (gRet mX8_served) ∈ gTb := inT 507 (by decide +kernel) (by decide +kernel)
theorem imX8_served : Cond.instanceMethod (gNm mX8_served) ∈ gTb ∧ Cond.selects (gNm mX8_served).cls (gNm mX8_served) (gNm mX8_served) ∈ gTb := ⟨inT 505 (by decide +kernel) (by decide +kernel), inT 506 (by decide +kernel) (by decide +kernel)⟩
theorem pdX8_served : (gNm mX8_served).cls ≠ "java/lang/invoke/MethodHandle" ∧ (gNm mX8_served).cls ≠ "java/lang/invoke/VarHandle" ∧ (parseMethodDescriptor (gNm mX8_served).desc).map (fun d => d.parameters.length) = some 2 := by decide +kernel
theorem okX8_share : gMok mX8_share := ⟨by decide +kernel, rfl, fun h => (by cases h)⟩
theorem cdX8_share : Cond.code (gNm mX8_share) (gCode mX8_share) (gNL mX8_share) (gRet mX8_share) ∈ gTb := inT 512 (by decide +kernel) (by decide +kernel)
theorem imX8_share : Cond.instanceMethod (gNm mX8_share) ∈ gTb ∧ Cond.selects (gNm mX8_share).cls (gNm mX8_share) (gNm mX8_share) ∈ gTb := ⟨inT 510 (by decide +kernel) (by decide +kernel), inT 511 (by decide +kernel) (by decide +kernel)⟩
theorem pdX8_share : (gNm mX8_share).cls ≠ "java/lang/invoke/MethodHandle" ∧ (gNm mX8_share).cls ≠ "java/lang/invoke/VarHandle" ∧ (parseMethodDescriptor (gNm mX8_share).desc).map (fun d => d.parameters.length) = some 3 := by decide +kernel
theorem okX8_least : gMok mX8_least := ⟨by decide +kernel, rfl, fun h => (by cases h)⟩
theorem cdX8_least : Cond.code (gNm mX8_least) (gCode mX8_least) (gNL mX8_least) (gRet mX8_least) ∈ gTb := inT 536 (by decide +kernel) (by decide +kernel)
theorem imX8_least : Cond.instanceMethod (gNm mX8_least) ∈ gTb ∧ Cond.selects (gNm mX8_least).cls (gNm mX8_least) (gNm mX8_least) ∈ gTb := ⟨inT 534 (by decide +kernel) (by decide +kernel), inT 535 (by decide +kernel) (by decide +kernel)⟩
theorem pdX8_least : (gNm mX8_least).cls ≠ "java/lang/invoke/MethodHandle" ∧ (gNm mX8_least).cls ≠ "java/lang/invoke/VarHandle" ∧ (parseMethodDescriptor (gNm mX8_least).desc).map (fun d => d.parameters.length) = some 0 := by decide +kernel
theorem okX8_best : gMok mX8_best := ⟨by decide +kernel, rfl, fun h => (by cases h)⟩
theorem cdX8_best : Cond.code (gNm mX8_best) (gCode mX8_best) (gNL mX8_best) (gRet mX8_best) ∈ gTb := inT 577 (by decide +kernel) (by decide +kernel)
theorem imX8_best : Cond.instanceMethod (gNm mX8_best) ∈ gTb ∧ Cond.selects (gNm mX8_best).cls (gNm mX8_best) (gNm mX8_best) ∈ gTb := ⟨inT 575 (by decide +kernel) (by decide +kernel), inT 576 (by decide +kernel) (by decide +kernel)⟩
theorem pdX8_best : (gNm mX8_best).cls ≠ "java/lang/invoke/MethodHandle" ∧ (gNm mX8_best).cls ≠ "java/lang/invoke/VarHandle" ∧ (parseMethodDescriptor (gNm mX8_best).desc).map (fun d => d.parameters.length) = some 0 := by decide +kernel
theorem okX8_many : gMok mX8_many := ⟨by decide +kernel, rfl, fun h => (by cases h)⟩
theorem cdX8_many : Cond.code (gNm mX8_many) (gCode mX8_many) (gNL mX8_many) (gRet mX8_many) ∈ gTb := inT 581 (by decide +kernel) (by decide +kernel)
theorem imX8_many : Cond.instanceMethod (gNm mX8_many) ∈ gTb ∧ Cond.selects (gNm mX8_many).cls (gNm mX8_many) (gNm mX8_many) ∈ gTb := ⟨inT 579 (by decide +kernel) (by decide +kernel), inT 580 (by decide +kernel) (by decide +kernel)⟩
theorem pdX8_many : (gNm mX8_many).cls ≠ "java/lang/invoke/MethodHandle" ∧ (gNm mX8_many).cls ≠ "java/lang/invoke/VarHandle" ∧ (parseMethodDescriptor (gNm mX8_many).desc).map (fun d => d.parameters.length) = some 0 := by decide +kernel
theorem okX8_every : gMok mX8_every := ⟨by decide +kernel, rfl, fun h => (by cases h)⟩
theorem cdX8_every : Cond.code (gNm mX8_every) (gCode mX8_every) (gNL mX8_every) (gRet mX8_every) ∈ gTb := inT 585 (by decide +kernel) (by decide +kernel)
theorem imX8_every : Cond.instanceMethod (gNm mX8_every) ∈ gTb ∧ Cond.selects (gNm mX8_every).cls (gNm mX8_every) (gNm mX8_every) ∈ gTb := ⟨inT 583 (by decide +kernel) (by decide +kernel), inT 584 (by decide +kernel) (by decide +kernel)⟩
theorem pdX8_every : (gNm mX8_every).cls ≠ "java/lang/invoke/MethodHandle" ∧ (gNm mX8_every).cls ≠ "java/lang/invoke/VarHandle" ∧ (parseMethodDescriptor (gNm mX8_every).desc).map (fun d => d.parameters.length) = some 1 := by decide +kernel
theorem okX8_second : gMok mX8_second := ⟨by decide +kernel, rfl, fun h => (by cases h)⟩
theorem cdX8_second : Cond.code (gNm mX8_second) (gCode mX8_second) (gNL mX8_second) (gRet mX8_second) ∈ gTb := inT 589 (by decide +kernel) (by decide +kernel)
theorem imX8_second : Cond.instanceMethod (gNm mX8_second) ∈ gTb ∧ Cond.selects (gNm mX8_second).cls (gNm mX8_second) (gNm mX8_second) ∈ gTb := ⟨inT 587 (by decide +kernel) (by decide +kernel), inT 588 (by decide +kernel) (by decide +kernel)⟩
theorem pdX8_second : (gNm mX8_second).cls ≠ "java/lang/invoke/MethodHandle" ∧ (gNm mX8_second).cls ≠ "java/lang/invoke/VarHandle" ∧ (parseMethodDescriptor (gNm mX8_second).desc).map (fun d => d.parameters.length) = some 1 := by decide +kernel
theorem okX8_lose : gMok mX8_lose := ⟨by decide +kernel, rfl, fun h => (by cases h)⟩
theorem cdX8_lose : Cond.code (gNm mX8_lose) (gCode mX8_lose) (gNL mX8_lose) (gRet mX8_lose) ∈ gTb := inT 593 (by decide +kernel) (by decide +kernel)
theorem imX8_lose : Cond.instanceMethod (gNm mX8_lose) ∈ gTb ∧ Cond.selects (gNm mX8_lose).cls (gNm mX8_lose) (gNm mX8_lose) ∈ gTb := ⟨inT 591 (by decide +kernel) (by decide +kernel), inT 592 (by decide +kernel) (by decide +kernel)⟩
theorem pdX8_lose : (gNm mX8_lose).cls ≠ "java/lang/invoke/MethodHandle" ∧ (gNm mX8_lose).cls ≠ "java/lang/invoke/VarHandle" ∧ (parseMethodDescriptor (gNm mX8_lose).desc).map (fun d => d.parameters.length) = some 1 := by decide +kernel
theorem okX8_worst : gMok mX8_worst := ⟨by decide +kernel, rfl, fun h => (by cases h)⟩
theorem cdX8_worst : Cond.code (gNm mX8_worst) (gCode mX8_worst) (gNL mX8_worst) (gRet mX8_worst) ∈ gTb := inT 599 (by decide +kernel) (by decide +kernel)
theorem imX8_worst : Cond.instanceMethod (gNm mX8_worst) ∈ gTb ∧ Cond.selects (gNm mX8_worst).cls (gNm mX8_worst) (gNm mX8_worst) ∈ gTb := ⟨inT 597 (by decide +kernel) (by decide +kernel), inT 598 (by decide +kernel) (by decide +kernel)⟩
theorem pdX8_worst : (gNm mX8_worst).cls ≠ "java/lang/invoke/MethodHandle" ∧ (gNm mX8_worst).cls ≠ "java/lang/invoke/VarHandle" ∧ (parseMethodDescriptor (gNm mX8_worst).desc).map (fun d => d.parameters.length) = some 0 := by decide +kernel
theorem okX8_farthest : gMok mX8_farthest := ⟨by decide +kernel, rfl, fun h => (by cases h)⟩
theorem cdX8_farthest : Cond.code (gNm mX8_farthest) (gCode mX8_farthest) (gNL mX8_farthest) (gRet mX8_farthest) ∈ gTb := inT 608 (by decide +kernel) (by decide +kernel)
theorem imX8_farthest : Cond.instanceMethod (gNm mX8_farthest) ∈ gTb ∧ Cond.selects (gNm mX8_farthest).cls (gNm mX8_farthest) (gNm mX8_farthest) ∈ gTb := ⟨inT 606 (by decide +kernel) (by decide +kernel), inT 607 (by decide +kernel) (by decide +kernel)⟩
theorem pdX8_farthest : (gNm mX8_farthest).cls ≠ "java/lang/invoke/MethodHandle" ∧ (gNm mX8_farthest).cls ≠ "java/lang/invoke/VarHandle" ∧ (parseMethodDescriptor (gNm mX8_farthest).desc).map (fun d => d.parameters.length) = some 0 := by decide +kernel
theorem okX8_nearest : gMok mX8_nearest := ⟨by decide +kernel, rfl, fun h => (by cases h)⟩
theorem cdX8_nearest : Cond.code (gNm mX8_nearest) (gCode mX8_nearest) (gNL mX8_nearest) (gRet mX8_nearest) ∈ gTb := inT 612 (by decide +kernel) (by decide +kernel)
theorem imX8_nearest : Cond.instanceMethod (gNm mX8_nearest) ∈ gTb ∧ Cond.selects (gNm mX8_nearest).cls (gNm mX8_nearest) (gNm mX8_nearest) ∈ gTb := ⟨inT 610 (by decide +kernel) (by decide +kernel), inT 611 (by decide +kernel) (by decide +kernel)⟩
theorem pdX8_nearest : (gNm mX8_nearest).cls ≠ "java/lang/invoke/MethodHandle" ∧ (gNm mX8_nearest).cls ≠ "java/lang/invoke/VarHandle" ∧ (parseMethodDescriptor (gNm mX8_nearest).desc).map (fun d => d.parameters.length) = some 0 := by decide +kernel
theorem okX8_added : gMok mX8_added := ⟨by decide +kernel, rfl, fun h => (by cases h)⟩
theorem cdX8_added : Cond.code (gNm mX8_added) (gCode mX8_added) (gNL mX8_added) (gRet mX8_added) ∈ gTb := inT 616 (by decide +kernel) (by decide +kernel)
theorem imX8_added : Cond.instanceMethod (gNm mX8_added) ∈ gTb ∧ Cond.selects (gNm mX8_added).cls (gNm mX8_added) (gNm mX8_added) ∈ gTb := ⟨inT 614 (by decide +kernel) (by decide +kernel), inT 615 (by decide +kernel) (by decide +kernel)⟩
theorem pdX8_added : (gNm mX8_added).cls ≠ "java/lang/invoke/MethodHandle" ∧ (gNm mX8_added).cls ≠ "java/lang/invoke/VarHandle" ∧ (parseMethodDescriptor (gNm mX8_added).desc).map (fun d => d.parameters.length) = some 0 := by decide +kernel
theorem okX8_changed : gMok mX8_changed := ⟨by decide +kernel, rfl, fun h => (by cases h)⟩
theorem cdX8_changed : Cond.code (gNm mX8_changed) (gCode mX8_changed) (gNL mX8_changed) (gRet mX8_changed) ∈ gTb := inT 639 (by decide +kernel) (by decide +kernel)
theorem imX8_changed : Cond.instanceMethod (gNm mX8_changed) ∈ gTb ∧ Cond.selects (gNm mX8_changed).cls (gNm mX8_changed) (gNm mX8_changed) ∈ gTb := ⟨inT 637 (by decide +kernel) (by decide +kernel), inT 638 (by decide +kernel) (by decide +kernel)⟩
theorem pdX8_changed : (gNm mX8_changed).cls ≠ "java/lang/invoke/MethodHandle" ∧ (gNm mX8_changed).cls ≠ "java/lang/invoke/VarHandle" ∧ (parseMethodDescriptor (gNm mX8_changed).desc).map (fun d => d.parameters.length) = some 1 := by decide +kernel
theorem okX8_moves : gMok mX8_moves := ⟨by decide +kernel, rfl, fun h => (by cases h)⟩
theorem cdX8_moves : Cond.code (gNm mX8_moves) (gCode mX8_moves) (gNL mX8_moves) (gRet mX8_moves) ∈ gTb := inT 651 (by decide +kernel) (by decide +kernel)
theorem imX8_moves : Cond.instanceMethod (gNm mX8_moves) ∈ gTb ∧ Cond.selects (gNm mX8_moves).cls (gNm mX8_moves) (gNm mX8_moves) ∈ gTb := ⟨inT 649 (by decide +kernel) (by decide +kernel), inT 650 (by decide +kernel) (by decide +kernel)⟩
theorem pdX8_moves : (gNm mX8_moves).cls ≠ "java/lang/invoke/MethodHandle" ∧ (gNm mX8_moves).cls ≠ "java/lang/invoke/VarHandle" ∧ (parseMethodDescriptor (gNm mX8_moves).desc).map (fun d => d.parameters.length) = some 0 := by decide +kernel
theorem okX8_price : gMok mX8_price := ⟨by decide +kernel, rfl, fun h => (by cases h)⟩
theorem cdX8_price : Cond.code (gNm mX8_price) (gCode mX8_price) (gNL mX8_price) (gRet mX8_price) ∈ gTb := inT 655 (by decide +kernel) (by decide +kernel)
theorem imX8_price : Cond.instanceMethod (gNm mX8_price) ∈ gTb ∧ Cond.selects (gNm mX8_price).cls (gNm mX8_price) (gNm mX8_price) ∈ gTb := ⟨inT 653 (by decide +kernel) (by decide +kernel), inT 654 (by decide +kernel) (by decide +kernel)⟩
theorem pdX8_price : (gNm mX8_price).cls ≠ "java/lang/invoke/MethodHandle" ∧ (gNm mX8_price).cls ≠ "java/lang/invoke/VarHandle" ∧ (parseMethodDescriptor (gNm mX8_price).desc).map (fun d => d.parameters.length) = some 2 := by decide +kernel
theorem okX8_priced : gMok mX8_priced := ⟨by decide +kernel, rfl, fun h => (by cases h)⟩
theorem cdX8_priced : Cond.code (gNm mX8_priced) (gCode mX8_priced) (gNL mX8_priced) (gRet mX8_priced) ∈ gTb := inT 660 (by decide +kernel) (by decide +kernel)
theorem imX8_priced : Cond.instanceMethod (gNm mX8_priced) ∈ gTb ∧ Cond.selects (gNm mX8_priced).cls (gNm mX8_priced) (gNm mX8_priced) ∈ gTb := ⟨inT 658 (by decide +kernel) (by decide +kernel), inT 659 (by decide +kernel) (by decide +kernel)⟩
theorem pdX8_priced : (gNm mX8_priced).cls ≠ "java/lang/invoke/MethodHandle" ∧ (gNm mX8_priced).cls ≠ "java/lang/invoke/VarHandle" ∧ (parseMethodDescriptor (gNm mX8_priced).desc).map (fun d => d.parameters.length) = some 1 := by decide +kernel
theorem okX8_gives : gMok mX8_gives := ⟨by decide +kernel, rfl, fun h => (by cases h)⟩
theorem cdX8_gives : Cond.code (gNm mX8_gives) (gCode mX8_gives) (gNL mX8_gives) (gRet mX8_gives) ∈ gTb := inT 664 (by decide +kernel) (by decide +kernel)
theorem imX8_gives : Cond.instanceMethod (gNm mX8_gives) ∈ gTb ∧ Cond.selects (gNm mX8_gives).cls (gNm mX8_gives) (gNm mX8_gives) ∈ gTb := ⟨inT 662 (by decide +kernel) (by decide +kernel), inT 663 (by decide +kernel) (by decide +kernel)⟩
theorem pdX8_gives : (gNm mX8_gives).cls ≠ "java/lang/invoke/MethodHandle" ∧ (gNm mX8_gives).cls ≠ "java/lang/invoke/VarHandle" ∧ (parseMethodDescriptor (gNm mX8_gives).desc).map (fun d => d.parameters.length) = some 2 := by decide +kernel
theorem okX8_worth : gMok mX8_worth := ⟨by decide +kernel, rfl, fun h => (by cases h)⟩
theorem cdX8_worth : Cond.code (gNm mX8_worth) (gCode mX8_worth) (gNL mX8_worth) (gRet mX8_worth) ∈ gTb := inT 677 (by decide +kernel) (by decide +kernel)
theorem imX8_worth : Cond.instanceMethod (gNm mX8_worth) ∈ gTb ∧ Cond.selects (gNm mX8_worth).cls (gNm mX8_worth) (gNm mX8_worth) ∈ gTb := ⟨inT 675 (by decide +kernel) (by decide +kernel), inT 676 (by decide +kernel) (by decide +kernel)⟩
theorem pdX8_worth : (gNm mX8_worth).cls ≠ "java/lang/invoke/MethodHandle" ∧ (gNm mX8_worth).cls ≠ "java/lang/invoke/VarHandle" ∧ (parseMethodDescriptor (gNm mX8_worth).desc).map (fun d => d.parameters.length) = some 1 := by decide +kernel
theorem okX8_bound : gMok mX8_bound := ⟨by decide +kernel, rfl, fun h => (by cases h)⟩
theorem cdX8_bound : Cond.code (gNm mX8_bound) (gCode mX8_bound) (gNL mX8_bound) (gRet mX8_bound) ∈ gTb := inT 687 (by decide +kernel) (by decide +kernel)
theorem imX8_bound : Cond.instanceMethod (gNm mX8_bound) ∈ gTb ∧ Cond.selects (gNm mX8_bound).cls (gNm mX8_bound) (gNm mX8_bound) ∈ gTb := ⟨inT 685 (by decide +kernel) (by decide +kernel), inT 686 (by decide +kernel) (by decide +kernel)⟩
theorem pdX8_bound : (gNm mX8_bound).cls ≠ "java/lang/invoke/MethodHandle" ∧ (gNm mX8_bound).cls ≠ "java/lang/invoke/VarHandle" ∧ (parseMethodDescriptor (gNm mX8_bound).desc).map (fun d => d.parameters.length) = some 0 := by decide +kernel
theorem okX8_climb : gMok mX8_climb := ⟨by decide +kernel, rfl, fun h => (by cases h)⟩
theorem cdX8_climb : Cond.code (gNm mX8_climb) (gCode mX8_climb) (gNL mX8_climb) (gRet mX8_climb) ∈ gTb := inT 705 (by decide +kernel) (by decide +kernel)
theorem imX8_climb : Cond.instanceMethod (gNm mX8_climb) ∈ gTb ∧ Cond.selects (gNm mX8_climb).cls (gNm mX8_climb) (gNm mX8_climb) ∈ gTb := ⟨inT 703 (by decide +kernel) (by decide +kernel), inT 704 (by decide +kernel) (by decide +kernel)⟩
theorem pdX8_climb : (gNm mX8_climb).cls ≠ "java/lang/invoke/MethodHandle" ∧ (gNm mX8_climb).cls ≠ "java/lang/invoke/VarHandle" ∧ (parseMethodDescriptor (gNm mX8_climb).desc).map (fun d => d.parameters.length) = some 2 := by decide +kernel
theorem okX8_highest : gMok mX8_highest := ⟨by decide +kernel, rfl, fun h => (by cases h)⟩
theorem cdX8_highest : Cond.code (gNm mX8_highest) (gCode mX8_highest) (gNL mX8_highest) (gRet mX8_highest) ∈ gTb := inT 730 (by decide +kernel) (by decide +kernel)
theorem imX8_highest : Cond.instanceMethod (gNm mX8_highest) ∈ gTb ∧ Cond.selects (gNm mX8_highest).cls (gNm mX8_highest) (gNm mX8_highest) ∈ gTb := ⟨inT 728 (by decide +kernel) (by decide +kernel), inT 729 (by decide +kernel) (by decide +kernel)⟩
theorem pdX8_highest : (gNm mX8_highest).cls ≠ "java/lang/invoke/MethodHandle" ∧ (gNm mX8_highest).cls ≠ "java/lang/invoke/VarHandle" ∧ (parseMethodDescriptor (gNm mX8_highest).desc).map (fun d => d.parameters.length) = some 0 := by decide +kernel
theorem okX8_undo : gMok mX8_undo := ⟨by decide +kernel, rfl, fun h => (by cases h)⟩
theorem cdX8_undo : Cond.code (gNm mX8_undo) (gCode mX8_undo) (gNL mX8_undo) (gRet mX8_undo) ∈ gTb := inT 734 (by decide +kernel) (by decide +kernel)
theorem imX8_undo : Cond.instanceMethod (gNm mX8_undo) ∈ gTb ∧ Cond.selects (gNm mX8_undo).cls (gNm mX8_undo) (gNm mX8_undo) ∈ gTb := ⟨inT 732 (by decide +kernel) (by decide +kernel), inT 733 (by decide +kernel) (by decide +kernel)⟩
theorem pdX8_undo : (gNm mX8_undo).cls ≠ "java/lang/invoke/MethodHandle" ∧ (gNm mX8_undo).cls ≠ "java/lang/invoke/VarHandle" ∧ (parseMethodDescriptor (gNm mX8_undo).desc).map (fun d => d.parameters.length) = some 0 := by decide +kernel
theorem okX8_count : gMok mX8_count := ⟨by decide +kernel, rfl, fun h => (by cases h)⟩
theorem cdX8_count : Cond.code (gNm mX8_count) (gCode mX8_count) (gNL mX8_count) (gRet mX8_count) ∈ gTb := inT 746 (by decide +kernel) (by decide +kernel)
theorem imX8_count : Cond.instanceMethod (gNm mX8_count) ∈ gTb ∧ Cond.selects (gNm mX8_count).cls (gNm mX8_count) (gNm mX8_count) ∈ gTb := ⟨inT 744 (by decide +kernel) (by decide +kernel), inT 745 (by decide +kernel) (by decide +kernel)⟩
theorem pdX8_count : (gNm mX8_count).cls ≠ "java/lang/invoke/MethodHandle" ∧ (gNm mX8_count).cls ≠ "java/lang/invoke/VarHandle" ∧ (parseMethodDescriptor (gNm mX8_count).desc).map (fun d => d.parameters.length) = some 1 := by decide +kernel
theorem okX8_isWithin : gMok mX8_isWithin := ⟨by decide +kernel, rfl, fun h => (by cases h)⟩
theorem cdX8_isWithin : Cond.code (gNm mX8_isWithin) (gCode mX8_isWithin) (gNL mX8_isWithin) (gRet mX8_isWithin) ∈ gTb := inT 280 (by decide +kernel) (by decide +kernel)
theorem smX8_isWithin : Cond.static (gNm mX8_isWithin) ∈ gTb := inT 279 (by decide +kernel) (by decide +kernel)
theorem pdX8_isWithin : (gNm mX8_isWithin).cls ≠ "java/lang/invoke/MethodHandle" ∧ (gNm mX8_isWithin).cls ≠ "java/lang/invoke/VarHandle" ∧ (parseMethodDescriptor (gNm mX8_isWithin).desc).map (fun d => d.parameters.length) = some 3 := by decide +kernel
theorem okX8_isMap : gMok mX8_isMap := ⟨by decide +kernel, rfl, fun h => (by cases h)⟩
theorem cdX8_isMap : Cond.code (gNm mX8_isMap) (gCode mX8_isMap) (gNL mX8_isMap) (gRet mX8_isMap) ∈ gTb := inT 407 (by decide +kernel) (by decide +kernel)
theorem smX8_isMap : Cond.static (gNm mX8_isMap) ∈ gTb := inT 406 (by decide +kernel) (by decide +kernel)
theorem pdX8_isMap : (gNm mX8_isMap).cls ≠ "java/lang/invoke/MethodHandle" ∧ (gNm mX8_isMap).cls ≠ "java/lang/invoke/VarHandle" ∧ (parseMethodDescriptor (gNm mX8_isMap).desc).map (fun d => d.parameters.length) = some 1 := by decide +kernel
theorem okX8_isLane : gMok mX8_isLane := ⟨by decide +kernel, rfl, fun h => (by cases h)⟩
theorem cdX8_isLane : Cond.code (gNm mX8_isLane) (gCode mX8_isLane) (gNL mX8_isLane) (gRet mX8_isLane) ∈ gTb := inT 411 (by decide +kernel) (by decide +kernel)
theorem smX8_isLane : Cond.static (gNm mX8_isLane) ∈ gTb := inT 410 (by decide +kernel) (by decide +kernel)
theorem pdX8_isLane : (gNm mX8_isLane).cls ≠ "java/lang/invoke/MethodHandle" ∧ (gNm mX8_isLane).cls ≠ "java/lang/invoke/VarHandle" ∧ (parseMethodDescriptor (gNm mX8_isLane).desc).map (fun d => d.parameters.length) = some 1 := by decide +kernel
theorem okX8_isIn : gMok mX8_isIn := ⟨by decide +kernel, rfl, fun h => (by cases h)⟩
theorem cdX8_isIn : Cond.code (gNm mX8_isIn) (gCode mX8_isIn) (gNL mX8_isIn) (gRet mX8_isIn) ∈ gTb := inT 488 (by decide +kernel) (by decide +kernel)
theorem smX8_isIn : Cond.static (gNm mX8_isIn) ∈ gTb := inT 487 (by decide +kernel) (by decide +kernel)
theorem pdX8_isIn : (gNm mX8_isIn).cls ≠ "java/lang/invoke/MethodHandle" ∧ (gNm mX8_isIn).cls ≠ "java/lang/invoke/VarHandle" ∧ (parseMethodDescriptor (gNm mX8_isIn).desc).map (fun d => d.parameters.length) = some 2 := by decide +kernel
theorem okX8_keepChange : gMok mX8_keepChange := ⟨by decide +kernel, rfl, fun h => (by cases h)⟩
theorem cdX8_keepChange : Cond.code (gNm mX8_keepChange) (gCode mX8_keepChange) (gNL mX8_keepChange) (gRet mX8_keepChange) ∈ gTb := inT 299 (by decide +kernel) (by decide +kernel)
theorem imX8_keepChange : Cond.instanceMethod (gNm mX8_keepChange) ∈ gTb ∧ Cond.selects (gNm mX8_keepChange).cls (gNm mX8_keepChange) (gNm mX8_keepChange) ∈ gTb := ⟨inT 298 (by decide +kernel) (by decide +kernel), inP 0 (by decide +kernel) (by decide +kernel)⟩
theorem pdX8_keepChange : (gNm mX8_keepChange).cls ≠ "java/lang/invoke/MethodHandle" ∧ (gNm mX8_keepChange).cls ≠ "java/lang/invoke/VarHandle" ∧ (parseMethodDescriptor (gNm mX8_keepChange).desc).map (fun d => d.parameters.length) = some 0 := by decide +kernel
theorem okX8_workOut : gMok mX8_workOut := ⟨by decide +kernel, rfl, fun h => (by cases h)⟩
theorem cdX8_workOut : Cond.code (gNm mX8_workOut) (gCode mX8_workOut) (gNL mX8_workOut) (gRet mX8_workOut) ∈ gTb := inT 317 (by decide +kernel) (by decide +kernel)
theorem imX8_workOut : Cond.instanceMethod (gNm mX8_workOut) ∈ gTb ∧ Cond.selects (gNm mX8_workOut).cls (gNm mX8_workOut) (gNm mX8_workOut) ∈ gTb := ⟨inT 316 (by decide +kernel) (by decide +kernel), inP 1 (by decide +kernel) (by decide +kernel)⟩
theorem pdX8_workOut : (gNm mX8_workOut).cls ≠ "java/lang/invoke/MethodHandle" ∧ (gNm mX8_workOut).cls ≠ "java/lang/invoke/VarHandle" ∧ (parseMethodDescriptor (gNm mX8_workOut).desc).map (fun d => d.parameters.length) = some 0 := by decide +kernel
theorem okX8_surveyChoices : gMok mX8_surveyChoices := ⟨by decide +kernel, rfl, fun h => (by cases h)⟩
theorem cdX8_surveyChoices : Cond.code (gNm mX8_surveyChoices) (gCode mX8_surveyChoices) (gNL mX8_surveyChoices) (gRet mX8_surveyChoices) ∈ gTb := inT 540 (by decide +kernel) (by decide +kernel)
theorem imX8_surveyChoices : Cond.instanceMethod (gNm mX8_surveyChoices) ∈ gTb ∧ Cond.selects (gNm mX8_surveyChoices).cls (gNm mX8_surveyChoices) (gNm mX8_surveyChoices) ∈ gTb := ⟨inT 539 (by decide +kernel) (by decide +kernel), inP 9 (by decide +kernel) (by decide +kernel)⟩
theorem pdX8_surveyChoices : (gNm mX8_surveyChoices).cls ≠ "java/lang/invoke/MethodHandle" ∧ (gNm mX8_surveyChoices).cls ≠ "java/lang/invoke/VarHandle" ∧ (parseMethodDescriptor (gNm mX8_surveyChoices).desc).map (fun d => d.parameters.length) = some 0 := by decide +kernel
theorem okX8_refusalToDraw : gMok mX8_refusalToDraw := ⟨by decide +kernel, rfl, fun h => (by cases h)⟩
theorem cdX8_refusalToDraw : Cond.code (gNm mX8_refusalToDraw) (gCode mX8_refusalToDraw) (gNL mX8_refusalToDraw) (gRet mX8_refusalToDraw) ∈ gTb := inT 432 (by decide +kernel) (by decide +kernel)
theorem imX8_refusalToDraw : Cond.instanceMethod (gNm mX8_refusalToDraw) ∈ gTb ∧ Cond.selects (gNm mX8_refusalToDraw).cls (gNm mX8_refusalToDraw) (gNm mX8_refusalToDraw) ∈ gTb := ⟨inT 431 (by decide +kernel) (by decide +kernel), inP 5 (by decide +kernel) (by decide +kernel)⟩
theorem pdX8_refusalToDraw : (gNm mX8_refusalToDraw).cls ≠ "java/lang/invoke/MethodHandle" ∧ (gNm mX8_refusalToDraw).cls ≠ "java/lang/invoke/VarHandle" ∧ (parseMethodDescriptor (gNm mX8_refusalToDraw).desc).map (fun d => d.parameters.length) = some 3 := by decide +kernel
theorem okX8_paveFrom : gMok mX8_paveFrom := ⟨by decide +kernel, rfl, fun h => (by cases h)⟩
theorem cdX8_paveFrom : Cond.code (gNm mX8_paveFrom) (gCode mX8_paveFrom) (gNL mX8_paveFrom) (gRet mX8_paveFrom) ∈ gTb := inT 440 (by decide +kernel) (by decide +kernel)
theorem imX8_paveFrom : Cond.instanceMethod (gNm mX8_paveFrom) ∈ gTb ∧ Cond.selects (gNm mX8_paveFrom).cls (gNm mX8_paveFrom) (gNm mX8_paveFrom) ∈ gTb := ⟨inT 439 (by decide +kernel) (by decide +kernel), inP 6 (by decide +kernel) (by decide +kernel)⟩
theorem pdX8_paveFrom : (gNm mX8_paveFrom).cls ≠ "java/lang/invoke/MethodHandle" ∧ (gNm mX8_paveFrom).cls ≠ "java/lang/invoke/VarHandle" ∧ (parseMethodDescriptor (gNm mX8_paveFrom).desc).map (fun d => d.parameters.length) = some 2 := by decide +kernel
theorem okX9_init : gMok mX9_init := ⟨by decide +kernel, rfl, fun _ => rfl⟩
theorem cdX9_init : Cond.code (gNm mX9_init) (gCode mX9_init) (gNL mX9_init) (gRet mX9_init) ∈ gTb := inT 761 (by decide +kernel) (by decide +kernel)
theorem imX9_init : Cond.instanceMethod (gNm mX9_init) ∈ gTb ∧ (gNm mX9_init).name = "<init>" := ⟨inT 760 (by decide +kernel) (by decide +kernel), rfl⟩
theorem pdX9_init : (gNm mX9_init).cls ≠ "java/lang/invoke/MethodHandle" ∧ (gNm mX9_init).cls ≠ "java/lang/invoke/VarHandle" ∧ (parseMethodDescriptor (gNm mX9_init).desc).map (fun d => d.parameters.length) = some 0 := by decide +kernel
theorem okX9_in : gMok mX9_in := ⟨by decide +kernel, rfl, fun h => (by cases h)⟩
theorem cdX9_in : Cond.code (gNm mX9_in) (gCode mX9_in) (gNL mX9_in) (gRet mX9_in) ∈ gTb := inT 892 (by decide +kernel) (by decide +kernel)
theorem smX9_in : Cond.static (gNm mX9_in) ∈ gTb := inT 891 (by decide +kernel) (by decide +kernel)
theorem pdX9_in : (gNm mX9_in).cls ≠ "java/lang/invoke/MethodHandle" ∧ (gNm mX9_in).cls ≠ "java/lang/invoke/VarHandle" ∧ (parseMethodDescriptor (gNm mX9_in).desc).map (fun d => d.parameters.length) = some 3 := by decide +kernel
theorem okX9_keep : gMok mX9_keep := ⟨by decide +kernel, rfl, fun h => (by cases h)⟩
theorem cdX9_keep : Cond.code (gNm mX9_keep) (gCode mX9_keep) (gNL mX9_keep) (gRet mX9_keep) ∈ gTb := inT 896 (by decide +kernel) (by decide +kernel)
theorem imX9_keep : Cond.instanceMethod (gNm mX9_keep) ∈ gTb ∧ Cond.selects (gNm mX9_keep).cls (gNm mX9_keep) (gNm mX9_keep) ∈ gTb := ⟨inT 895 (by decide +kernel) (by decide +kernel), inP 21 (by decide +kernel) (by decide +kernel)⟩
theorem pdX9_keep : (gNm mX9_keep).cls ≠ "java/lang/invoke/MethodHandle" ∧ (gNm mX9_keep).cls ≠ "java/lang/invoke/VarHandle" ∧ (parseMethodDescriptor (gNm mX9_keep).desc).map (fun d => d.parameters.length) = some 0 := by decide +kernel
theorem okX9_undo : gMok mX9_undo := ⟨by decide +kernel, rfl, fun h => (by cases h)⟩
theorem cdX9_undo : Cond.code (gNm mX9_undo) (gCode mX9_undo) (gNL mX9_undo) (gRet mX9_undo) ∈ gTb := inT 884 (by decide +kernel) (by decide +kernel)
theorem imX9_undo : Cond.instanceMethod (gNm mX9_undo) ∈ gTb ∧ Cond.selects (gNm mX9_undo).cls (gNm mX9_undo) (gNm mX9_undo) ∈ gTb := ⟨inT 882 (by decide +kernel) (by decide +kernel), inT 883 (by decide +kernel) (by decide +kernel)⟩
theorem pdX9_undo : (gNm mX9_undo).cls ≠ "java/lang/invoke/MethodHandle" ∧ (gNm mX9_undo).cls ≠ "java/lang/invoke/VarHandle" ∧ (parseMethodDescriptor (gNm mX9_undo).desc).map (fun d => d.parameters.length) = some 0 := by decide +kernel
theorem okX9_isVillage : gMok mX9_isVillage := ⟨by decide +kernel, rfl, fun h => (by cases h)⟩
theorem cdX9_isVillage : Cond.code (gNm mX9_isVillage) (gCode mX9_isVillage) (gNL mX9_isVillage) (gRet mX9_isVillage) ∈ gTb := inT 904 (by decide +kernel) (by decide +kernel)
theorem imX9_isVillage : Cond.instanceMethod (gNm mX9_isVillage) ∈ gTb ∧ Cond.selects (gNm mX9_isVillage).cls (gNm mX9_isVillage) (gNm mX9_isVillage) ∈ gTb := ⟨inT 903 (by decide +kernel) (by decide +kernel), inP 22 (by decide +kernel) (by decide +kernel)⟩
theorem pdX9_isVillage : (gNm mX9_isVillage).cls ≠ "java/lang/invoke/MethodHandle" ∧ (gNm mX9_isVillage).cls ≠ "java/lang/invoke/VarHandle" ∧ (parseMethodDescriptor (gNm mX9_isVillage).desc).map (fun d => d.parameters.length) = some 1 := by decide +kernel
theorem okX9_isPlace : gMok mX9_isPlace := ⟨by decide +kernel, rfl, fun h => (by cases h)⟩
theorem cdX9_isPlace : Cond.code (gNm mX9_isPlace) (gCode mX9_isPlace) (gNL mX9_isPlace) (gRet mX9_isPlace) ∈ gTb := inT 926 (by decide +kernel) (by decide +kernel)
theorem imX9_isPlace : Cond.instanceMethod (gNm mX9_isPlace) ∈ gTb ∧ Cond.selects (gNm mX9_isPlace).cls (gNm mX9_isPlace) (gNm mX9_isPlace) ∈ gTb := ⟨inT 925 (by decide +kernel) (by decide +kernel), inP 24 (by decide +kernel) (by decide +kernel)⟩
theorem pdX9_isPlace : (gNm mX9_isPlace).cls ≠ "java/lang/invoke/MethodHandle" ∧ (gNm mX9_isPlace).cls ≠ "java/lang/invoke/VarHandle" ∧ (parseMethodDescriptor (gNm mX9_isPlace).desc).map (fun d => d.parameters.length) = some 1 := by decide +kernel
theorem okX9_village : gMok mX9_village := ⟨by decide +kernel, rfl, fun h => (by cases h)⟩
theorem cdX9_village : Cond.code (gNm mX9_village) (gCode mX9_village) (gNL mX9_village) (gRet mX9_village) ∈ gTb := inT 888 (by decide +kernel) (by decide +kernel)
theorem imX9_village : Cond.instanceMethod (gNm mX9_village) ∈ gTb ∧ Cond.selects (gNm mX9_village).cls (gNm mX9_village) (gNm mX9_village) ∈ gTb := ⟨inT 886 (by decide +kernel) (by decide +kernel), inT 887 (by decide +kernel) (by decide +kernel)⟩
theorem pdX9_village : (gNm mX9_village).cls ≠ "java/lang/invoke/MethodHandle" ∧ (gNm mX9_village).cls ≠ "java/lang/invoke/VarHandle" ∧ (parseMethodDescriptor (gNm mX9_village).desc).map (fun d => d.parameters.length) = some 1 := by decide +kernel
theorem okX9_loaves : gMok mX9_loaves := ⟨by decide +kernel, rfl, fun h => (by cases h)⟩
theorem cdX9_loaves : Cond.code (gNm mX9_loaves) (gCode mX9_loaves) (gNL mX9_loaves) (gRet mX9_loaves) ∈ gTb := inT 900 (by decide +kernel) (by decide +kernel)
theorem imX9_loaves : Cond.instanceMethod (gNm mX9_loaves) ∈ gTb ∧ Cond.selects (gNm mX9_loaves).cls (gNm mX9_loaves) (gNm mX9_loaves) ∈ gTb := ⟨inT 898 (by decide +kernel) (by decide +kernel), inT 899 (by decide +kernel) (by decide +kernel)⟩
theorem pdX9_loaves : (gNm mX9_loaves).cls ≠ "java/lang/invoke/MethodHandle" ∧ (gNm mX9_loaves).cls ≠ "java/lang/invoke/VarHandle" ∧ (parseMethodDescriptor (gNm mX9_loaves).desc).map (fun d => d.parameters.length) = some 2 := by decide +kernel
theorem okX9_isRoad : gMok mX9_isRoad := ⟨by decide +kernel, rfl, fun h => (by cases h)⟩
theorem cdX9_isRoad : Cond.code (gNm mX9_isRoad) (gCode mX9_isRoad) (gNL mX9_isRoad) (gRet mX9_isRoad) ∈ gTb := inT 912 (by decide +kernel) (by decide +kernel)
theorem imX9_isRoad : Cond.instanceMethod (gNm mX9_isRoad) ∈ gTb ∧ Cond.selects (gNm mX9_isRoad).cls (gNm mX9_isRoad) (gNm mX9_isRoad) ∈ gTb := ⟨inT 911 (by decide +kernel) (by decide +kernel), inP 23 (by decide +kernel) (by decide +kernel)⟩
theorem pdX9_isRoad : (gNm mX9_isRoad).cls ≠ "java/lang/invoke/MethodHandle" ∧ (gNm mX9_isRoad).cls ≠ "java/lang/invoke/VarHandle" ∧ (parseMethodDescriptor (gNm mX9_isRoad).desc).map (fun d => d.parameters.length) = some 3 := by decide +kernel
theorem okX9_road : gMok mX9_road := ⟨by decide +kernel, rfl, fun h => (by cases h)⟩
theorem cdX9_road : Cond.code (gNm mX9_road) (gCode mX9_road) (gNL mX9_road) (gRet mX9_road) ∈ gTb := inT 908 (by decide +kernel) (by decide +kernel)
theorem imX9_road : Cond.instanceMethod (gNm mX9_road) ∈ gTb ∧ Cond.selects (gNm mX9_road).cls (gNm mX9_road) (gNm mX9_road) ∈ gTb := ⟨inT 906 (by decide +kernel) (by decide +kernel), inT 907 (by decide +kernel) (by decide +kernel)⟩
theorem pdX9_road : (gNm mX9_road).cls ≠ "java/lang/invoke/MethodHandle" ∧ (gNm mX9_road).cls ≠ "java/lang/invoke/VarHandle" ∧ (parseMethodDescriptor (gNm mX9_road).desc).map (fun d => d.parameters.length) = some 3 := by decide +kernel
theorem okX9_place : gMok mX9_place := ⟨by decide +kernel, rfl, fun h => (by cases h)⟩
theorem cdX9_place : Cond.code (gNm mX9_place) (gCode mX9_place) (gNL mX9_place) (gRet mX9_place) ∈ gTb := inT 916 (by decide +kernel) (by decide +kernel)
theorem imX9_place : Cond.instanceMethod (gNm mX9_place) ∈ gTb ∧ Cond.selects (gNm mX9_place).cls (gNm mX9_place) (gNm mX9_place) ∈ gTb := ⟨inT 914 (by decide +kernel) (by decide +kernel), inT 915 (by decide +kernel) (by decide +kernel)⟩
theorem pdX9_place : (gNm mX9_place).cls ≠ "java/lang/invoke/MethodHandle" ∧ (gNm mX9_place).cls ≠ "java/lang/invoke/VarHandle" ∧ (parseMethodDescriptor (gNm mX9_place).desc).map (fun d => d.parameters.length) = some 3 := by decide +kernel
theorem okX9_reach : gMok mX9_reach := ⟨by decide +kernel, rfl, fun h => (by cases h)⟩
theorem cdX9_reach : Cond.code (gNm mX9_reach) (gCode mX9_reach) (gNL mX9_reach) (gRet mX9_reach) ∈ gTb := inT 922 (by decide +kernel) (by decide +kernel)
theorem imX9_reach : Cond.instanceMethod (gNm mX9_reach) ∈ gTb ∧ Cond.selects (gNm mX9_reach).cls (gNm mX9_reach) (gNm mX9_reach) ∈ gTb := ⟨inT 920 (by decide +kernel) (by decide +kernel), inT 921 (by decide +kernel) (by decide +kernel)⟩
theorem pdX9_reach : (gNm mX9_reach).cls ≠ "java/lang/invoke/MethodHandle" ∧ (gNm mX9_reach).cls ≠ "java/lang/invoke/VarHandle" ∧ (parseMethodDescriptor (gNm mX9_reach).desc).map (fun d => d.parameters.length) = some 2 := by decide +kernel
theorem okX9_number : gMok mX9_number := ⟨by decide +kernel, rfl, fun h => (by cases h)⟩
theorem cdX9_number : Cond.code (gNm mX9_number) (gCode mX9_number) (gNL mX9_number) (gRet mX9_number) ∈ gTb := inT 931 (by decide +kernel) (by decide +kernel)
theorem imX9_number : Cond.instanceMethod (gNm mX9_number) ∈ gTb ∧ Cond.selects (gNm mX9_number).cls (gNm mX9_number) (gNm mX9_number) ∈ gTb := ⟨inT 929 (by decide +kernel) (by decide +kernel), inT 930 (by decide +kernel) (by decide +kernel)⟩
theorem pdX9_number : (gNm mX9_number).cls ≠ "java/lang/invoke/MethodHandle" ∧ (gNm mX9_number).cls ≠ "java/lang/invoke/VarHandle" ∧ (parseMethodDescriptor (gNm mX9_number).desc).map (fun d => d.parameters.length) = some 1 := by decide +kernel
theorem okX9_map : gMok mX9_map := ⟨by decide +kernel, rfl, fun h => (by cases h)⟩
theorem cdX9_map : Cond.code (gNm mX9_map) (gCode mX9_map) (gNL mX9_map) (gRet mX9_map) ∈ gTb := inT 936 (by decide +kernel) (by decide +kernel)
theorem imX9_map : Cond.instanceMethod (gNm mX9_map) ∈ gTb ∧ Cond.selects (gNm mX9_map).cls (gNm mX9_map) (gNm mX9_map) ∈ gTb := ⟨inT 934 (by decide +kernel) (by decide +kernel), inT 935 (by decide +kernel) (by decide +kernel)⟩
theorem pdX9_map : (gNm mX9_map).cls ≠ "java/lang/invoke/MethodHandle" ∧ (gNm mX9_map).cls ≠ "java/lang/invoke/VarHandle" ∧ (parseMethodDescriptor (gNm mX9_map).desc).map (fun d => d.parameters.length) = some 3 := by decide +kernel
theorem okX9_lay : gMok mX9_lay := ⟨by decide +kernel, rfl, fun h => (by cases h)⟩
theorem cdX9_lay : Cond.code (gNm mX9_lay) (gCode mX9_lay) (gNL mX9_lay) (gRet mX9_lay) ∈ gTb := inT 942 (by decide +kernel) (by decide +kernel)
theorem imX9_lay : Cond.instanceMethod (gNm mX9_lay) ∈ gTb ∧ Cond.selects (gNm mX9_lay).cls (gNm mX9_lay) (gNm mX9_lay) ∈ gTb := ⟨inT 940 (by decide +kernel) (by decide +kernel), inT 941 (by decide +kernel) (by decide +kernel)⟩
theorem pdX9_lay : (gNm mX9_lay).cls ≠ "java/lang/invoke/MethodHandle" ∧ (gNm mX9_lay).cls ≠ "java/lang/invoke/VarHandle" ∧ (parseMethodDescriptor (gNm mX9_lay).desc).map (fun d => d.parameters.length) = some 3 := by decide +kernel
theorem okX9_draw : gMok mX9_draw := ⟨by decide +kernel, rfl, fun h => (by cases h)⟩
theorem cdX9_draw : Cond.code (gNm mX9_draw) (gCode mX9_draw) (gNL mX9_draw) (gRet mX9_draw) ∈ gTb := inT 946 (by decide +kernel) (by decide +kernel)
theorem imX9_draw : Cond.instanceMethod (gNm mX9_draw) ∈ gTb ∧ Cond.selects (gNm mX9_draw).cls (gNm mX9_draw) (gNm mX9_draw) ∈ gTb := ⟨inT 944 (by decide +kernel) (by decide +kernel), inT 945 (by decide +kernel) (by decide +kernel)⟩
theorem pdX9_draw : (gNm mX9_draw).cls ≠ "java/lang/invoke/MethodHandle" ∧ (gNm mX9_draw).cls ≠ "java/lang/invoke/VarHandle" ∧ (parseMethodDescriptor (gNm mX9_draw).desc).map (fun d => d.parameters.length) = some 3 := by decide +kernel
theorem okX9_findWays : gMok mX9_findWays := ⟨by decide +kernel, rfl, fun h => (by cases h)⟩
theorem cdX9_findWays : Cond.code (gNm mX9_findWays) (gCode mX9_findWays) (gNL mX9_findWays) (gRet mX9_findWays) ∈ gTb := inT 954 (by decide +kernel) (by decide +kernel)
theorem imX9_findWays : Cond.instanceMethod (gNm mX9_findWays) ∈ gTb ∧ Cond.selects (gNm mX9_findWays).cls (gNm mX9_findWays) (gNm mX9_findWays) ∈ gTb := ⟨inT 953 (by decide +kernel) (by decide +kernel), inP 25 (by decide +kernel) (by decide +kernel)⟩
theorem pdX9_findWays : (gNm mX9_findWays).cls ≠ "java/lang/invoke/MethodHandle" ∧ (gNm mX9_findWays).cls ≠ "java/lang/invoke/VarHandle" ∧ (parseMethodDescriptor (gNm mX9_findWays).desc).map (fun d => d.parameters.length) = some 0 := by decide +kernel
theorem okX9_apart : gMok mX9_apart := ⟨by decide +kernel, rfl, fun h => (by cases h)⟩
theorem cdX9_apart : Cond.code (gNm mX9_apart) (gCode mX9_apart) (gNL mX9_apart) (gRet mX9_apart) ∈ gTb := inT 950 (by decide +kernel) (by decide +kernel)
theorem imX9_apart : Cond.instanceMethod (gNm mX9_apart) ∈ gTb ∧ Cond.selects (gNm mX9_apart).cls (gNm mX9_apart) (gNm mX9_apart) ∈ gTb := ⟨inT 948 (by decide +kernel) (by decide +kernel), inT 949 (by decide +kernel) (by decide +kernel)⟩
theorem pdX9_apart : (gNm mX9_apart).cls ≠ "java/lang/invoke/MethodHandle" ∧ (gNm mX9_apart).cls ≠ "java/lang/invoke/VarHandle" ∧ (parseMethodDescriptor (gNm mX9_apart).desc).map (fun d => d.parameters.length) = some 2 := by decide +kernel
theorem okX9_way : gMok mX9_way := ⟨by decide +kernel, rfl, fun h => (by cases h)⟩
theorem cdX9_way : Cond.code (gNm mX9_way) (gCode mX9_way) (gNL mX9_way) (gRet mX9_way) ∈ gTb := inT 958 (by decide +kernel) (by decide +kernel)
theorem imX9_way : Cond.instanceMethod (gNm mX9_way) ∈ gTb ∧ Cond.selects (gNm mX9_way).cls (gNm mX9_way) (gNm mX9_way) ∈ gTb := ⟨inT 956 (by decide +kernel) (by decide +kernel), inT 957 (by decide +kernel) (by decide +kernel)⟩
theorem pdX9_way : (gNm mX9_way).cls ≠ "java/lang/invoke/MethodHandle" ∧ (gNm mX9_way).cls ≠ "java/lang/invoke/VarHandle" ∧ (parseMethodDescriptor (gNm mX9_way).desc).map (fun d => d.parameters.length) = some 3 := by decide +kernel
theorem okX9_carried : gMok mX9_carried := ⟨by decide +kernel, rfl, fun h => (by cases h)⟩
theorem cdX9_carried : Cond.code (gNm mX9_carried) (gCode mX9_carried) (gNL mX9_carried) (gRet mX9_carried) ∈ gTb := inT 991 (by decide +kernel) (by decide +kernel)
theorem imX9_carried : Cond.instanceMethod (gNm mX9_carried) ∈ gTb ∧ Cond.selects (gNm mX9_carried).cls (gNm mX9_carried) (gNm mX9_carried) ∈ gTb := ⟨inT 990 (by decide +kernel) (by decide +kernel), inP 31 (by decide +kernel) (by decide +kernel)⟩
theorem pdX9_carried : (gNm mX9_carried).cls ≠ "java/lang/invoke/MethodHandle" ∧ (gNm mX9_carried).cls ≠ "java/lang/invoke/VarHandle" ∧ (parseMethodDescriptor (gNm mX9_carried).desc).map (fun d => d.parameters.length) = some 2 := by decide +kernel
theorem okX9_ovenCost : gMok mX9_ovenCost := ⟨by decide +kernel, rfl, fun h => (by cases h)⟩
theorem cdX9_ovenCost : Cond.code (gNm mX9_ovenCost) (gCode mX9_ovenCost) (gNL mX9_ovenCost) (gRet mX9_ovenCost) ∈ gTb := inT 983 (by decide +kernel) (by decide +kernel)
theorem imX9_ovenCost : Cond.instanceMethod (gNm mX9_ovenCost) ∈ gTb ∧ Cond.selects (gNm mX9_ovenCost).cls (gNm mX9_ovenCost) (gNm mX9_ovenCost) ∈ gTb := ⟨inT 982 (by decide +kernel) (by decide +kernel), inP 29 (by decide +kernel) (by decide +kernel)⟩
theorem pdX9_ovenCost : (gNm mX9_ovenCost).cls ≠ "java/lang/invoke/MethodHandle" ∧ (gNm mX9_ovenCost).cls ≠ "java/lang/invoke/VarHandle" ∧ (parseMethodDescriptor (gNm mX9_ovenCost).desc).map (fun d => d.parameters.length) = some 1 := by decide +kernel
theorem okX9_isChoice : gMok mX9_isChoice := ⟨by decide +kernel, rfl, fun h => (by cases h)⟩
theorem cdX9_isChoice : Cond.code (gNm mX9_isChoice) (gCode mX9_isChoice) (gNL mX9_isChoice) (gRet mX9_isChoice) ∈ gTb := inT 966 (by decide +kernel) (by decide +kernel)
theorem imX9_isChoice : Cond.instanceMethod (gNm mX9_isChoice) ∈ gTb ∧ Cond.selects (gNm mX9_isChoice).cls (gNm mX9_isChoice) (gNm mX9_isChoice) ∈ gTb := ⟨inT 965 (by decide +kernel) (by decide +kernel), inP 26 (by decide +kernel) (by decide +kernel)⟩
theorem pdX9_isChoice : (gNm mX9_isChoice).cls ≠ "java/lang/invoke/MethodHandle" ∧ (gNm mX9_isChoice).cls ≠ "java/lang/invoke/VarHandle" ∧ (parseMethodDescriptor (gNm mX9_isChoice).desc).map (fun d => d.parameters.length) = some 1 := by decide +kernel
theorem okX9_isAllowed : gMok mX9_isAllowed := ⟨by decide +kernel, rfl, fun h => (by cases h)⟩
theorem cdX9_isAllowed : Cond.code (gNm mX9_isAllowed) (gCode mX9_isAllowed) (gNL mX9_isAllowed) (gRet mX9_isAllowed) ∈ gTb := inT 970 (by decide +kernel) (by decide +kernel)
theorem imX9_isAllowed : Cond.instanceMethod (gNm mX9_isAllowed) ∈ gTb ∧ Cond.selects (gNm mX9_isAllowed).cls (gNm mX9_isAllowed) (gNm mX9_isAllowed) ∈ gTb := ⟨inT 969 (by decide +kernel) (by decide +kernel), inP 27 (by decide +kernel) (by decide +kernel)⟩
theorem pdX9_isAllowed : (gNm mX9_isAllowed).cls ≠ "java/lang/invoke/MethodHandle" ∧ (gNm mX9_isAllowed).cls ≠ "java/lang/invoke/VarHandle" ∧ (parseMethodDescriptor (gNm mX9_isAllowed).desc).map (fun d => d.parameters.length) = some 1 := by decide +kernel
theorem okX9_servedBy : gMok mX9_servedBy := ⟨by decide +kernel, rfl, fun h => (by cases h)⟩
theorem cdX9_servedBy : Cond.code (gNm mX9_servedBy) (gCode mX9_servedBy) (gNL mX9_servedBy) (gRet mX9_servedBy) ∈ gTb := inT 987 (by decide +kernel) (by decide +kernel)
theorem imX9_servedBy : Cond.instanceMethod (gNm mX9_servedBy) ∈ gTb ∧ Cond.selects (gNm mX9_servedBy).cls (gNm mX9_servedBy) (gNm mX9_servedBy) ∈ gTb := ⟨inT 986 (by decide +kernel) (by decide +kernel), inP 30 (by decide +kernel) (by decide +kernel)⟩
theorem pdX9_servedBy : (gNm mX9_servedBy).cls ≠ "java/lang/invoke/MethodHandle" ∧ (gNm mX9_servedBy).cls ≠ "java/lang/invoke/VarHandle" ∧ (parseMethodDescriptor (gNm mX9_servedBy).desc).map (fun d => d.parameters.length) = some 2 := by decide +kernel
theorem okX9_weigh : gMok mX9_weigh := ⟨by decide +kernel, rfl, fun h => (by cases h)⟩
theorem cdX9_weigh : Cond.code (gNm mX9_weigh) (gCode mX9_weigh) (gNL mX9_weigh) (gRet mX9_weigh) ∈ gTb := inT 979 (by decide +kernel) (by decide +kernel)
theorem imX9_weigh : Cond.instanceMethod (gNm mX9_weigh) ∈ gTb ∧ Cond.selects (gNm mX9_weigh).cls (gNm mX9_weigh) (gNm mX9_weigh) ∈ gTb := ⟨inT 978 (by decide +kernel) (by decide +kernel), inP 28 (by decide +kernel) (by decide +kernel)⟩
theorem pdX9_weigh : (gNm mX9_weigh).cls ≠ "java/lang/invoke/MethodHandle" ∧ (gNm mX9_weigh).cls ≠ "java/lang/invoke/VarHandle" ∧ (parseMethodDescriptor (gNm mX9_weigh).desc).map (fun d => d.parameters.length) = some 1 := by decide +kernel
theorem okX9_allowed : gMok mX9_allowed := ⟨by decide +kernel, rfl, fun h => (by cases h)⟩
theorem cdX9_allowed : Cond.code (gNm mX9_allowed) (gCode mX9_allowed) (gNL mX9_allowed) (gRet mX9_allowed) ∈ gTb := inT 962 (by decide +kernel) (by decide +kernel)
theorem imX9_allowed : Cond.instanceMethod (gNm mX9_allowed) ∈ gTb ∧ Cond.selects (gNm mX9_allowed).cls (gNm mX9_allowed) (gNm mX9_allowed) ∈ gTb := ⟨inT 960 (by decide +kernel) (by decide +kernel), inT 961 (by decide +kernel) (by decide +kernel)⟩
theorem pdX9_allowed : (gNm mX9_allowed).cls ≠ "java/lang/invoke/MethodHandle" ∧ (gNm mX9_allowed).cls ≠ "java/lang/invoke/VarHandle" ∧ (parseMethodDescriptor (gNm mX9_allowed).desc).map (fun d => d.parameters.length) = some 1 := by decide +kernel
theorem okX9_cost : gMok mX9_cost := ⟨by decide +kernel, rfl, fun h => (by cases h)⟩
theorem cdX9_cost : Cond.code (gNm mX9_cost) (gCode mX9_cost) (gNL mX9_cost) (gRet mX9_cost) ∈ gTb := inT 974 (by decide +kernel) (by decide +kernel)
theorem imX9_cost : Cond.instanceMethod (gNm mX9_cost) ∈ gTb ∧ Cond.selects (gNm mX9_cost).cls (gNm mX9_cost) (gNm mX9_cost) ∈ gTb := ⟨inT 972 (by decide +kernel) (by decide +kernel), inT 973 (by decide +kernel) (by decide +kernel)⟩
theorem pdX9_cost : (gNm mX9_cost).cls ≠ "java/lang/invoke/MethodHandle" ∧ (gNm mX9_cost).cls ≠ "java/lang/invoke/VarHandle" ∧ (parseMethodDescriptor (gNm mX9_cost).desc).map (fun d => d.parameters.length) = some 1 := by decide +kernel
theorem okX9_served : gMok mX9_served := ⟨by decide +kernel, rfl, fun h => (by cases h)⟩
theorem cdX9_served : Cond.code (gNm mX9_served) (gCode mX9_served) (gNL mX9_served) (gRet mX9_served) ∈ gTb := inT 996 (by decide +kernel) (by decide +kernel)
theorem imX9_served : Cond.instanceMethod (gNm mX9_served) ∈ gTb ∧ Cond.selects (gNm mX9_served).cls (gNm mX9_served) (gNm mX9_served) ∈ gTb := ⟨inT 994 (by decide +kernel) (by decide +kernel), inT 995 (by decide +kernel) (by decide +kernel)⟩
theorem pdX9_served : (gNm mX9_served).cls ≠ "java/lang/invoke/MethodHandle" ∧ (gNm mX9_served).cls ≠ "java/lang/invoke/VarHandle" ∧ (parseMethodDescriptor (gNm mX9_served).desc).map (fun d => d.parameters.length) = some 2 := by decide +kernel
theorem okX9_share : gMok mX9_share := ⟨by decide +kernel, rfl, fun h => (by cases h)⟩
theorem cdX9_share : Cond.code (gNm mX9_share) (gCode mX9_share) (gNL mX9_share) (gRet mX9_share) ∈ gTb := inT 1000 (by decide +kernel) (by decide +kernel)
theorem imX9_share : Cond.instanceMethod (gNm mX9_share) ∈ gTb ∧ Cond.selects (gNm mX9_share).cls (gNm mX9_share) (gNm mX9_share) ∈ gTb := ⟨inT 998 (by decide +kernel) (by decide +kernel), inT 999 (by decide +kernel) (by decide +kernel)⟩
theorem pdX9_share : (gNm mX9_share).cls ≠ "java/lang/invoke/MethodHandle" ∧ (gNm mX9_share).cls ≠ "java/lang/invoke/VarHandle" ∧ (parseMethodDescriptor (gNm mX9_share).desc).map (fun d => d.parameters.length) = some 3 := by decide +kernel
theorem okX9_find : gMok mX9_find := ⟨by decide +kernel, rfl, fun h => (by cases h)⟩
theorem cdX9_find : Cond.code (gNm mX9_find) (gCode mX9_find) (gNL mX9_find) (gRet mX9_find) ∈ gTb := inT 1008 (by decide +kernel) (by decide +kernel)
theorem imX9_find : Cond.instanceMethod (gNm mX9_find) ∈ gTb ∧ Cond.selects (gNm mX9_find).cls (gNm mX9_find) (gNm mX9_find) ∈ gTb := ⟨inT 1007 (by decide +kernel) (by decide +kernel), inP 32 (by decide +kernel) (by decide +kernel)⟩
theorem pdX9_find : (gNm mX9_find).cls ≠ "java/lang/invoke/MethodHandle" ∧ (gNm mX9_find).cls ≠ "java/lang/invoke/VarHandle" ∧ (parseMethodDescriptor (gNm mX9_find).desc).map (fun d => d.parameters.length) = some 2 := by decide +kernel
theorem okX9_least : gMok mX9_least := ⟨by decide +kernel, rfl, fun h => (by cases h)⟩
theorem cdX9_least : Cond.code (gNm mX9_least) (gCode mX9_least) (gNL mX9_least) (gRet mX9_least) ∈ gTb := inT 1004 (by decide +kernel) (by decide +kernel)
theorem imX9_least : Cond.instanceMethod (gNm mX9_least) ∈ gTb ∧ Cond.selects (gNm mX9_least).cls (gNm mX9_least) (gNm mX9_least) ∈ gTb := ⟨inT 1002 (by decide +kernel) (by decide +kernel), inT 1003 (by decide +kernel) (by decide +kernel)⟩
theorem pdX9_least : (gNm mX9_least).cls ≠ "java/lang/invoke/MethodHandle" ∧ (gNm mX9_least).cls ≠ "java/lang/invoke/VarHandle" ∧ (parseMethodDescriptor (gNm mX9_least).desc).map (fun d => d.parameters.length) = some 0 := by decide +kernel
theorem okX9_best : gMok mX9_best := ⟨by decide +kernel, rfl, fun h => (by cases h)⟩
theorem cdX9_best : Cond.code (gNm mX9_best) (gCode mX9_best) (gNL mX9_best) (gRet mX9_best) ∈ gTb := inT 1012 (by decide +kernel) (by decide +kernel)
theorem imX9_best : Cond.instanceMethod (gNm mX9_best) ∈ gTb ∧ Cond.selects (gNm mX9_best).cls (gNm mX9_best) (gNm mX9_best) ∈ gTb := ⟨inT 1010 (by decide +kernel) (by decide +kernel), inT 1011 (by decide +kernel) (by decide +kernel)⟩
theorem pdX9_best : (gNm mX9_best).cls ≠ "java/lang/invoke/MethodHandle" ∧ (gNm mX9_best).cls ≠ "java/lang/invoke/VarHandle" ∧ (parseMethodDescriptor (gNm mX9_best).desc).map (fun d => d.parameters.length) = some 0 := by decide +kernel
theorem okX9_many : gMok mX9_many := ⟨by decide +kernel, rfl, fun h => (by cases h)⟩
theorem cdX9_many : Cond.code (gNm mX9_many) (gCode mX9_many) (gNL mX9_many) (gRet mX9_many) ∈ gTb := inT 1016 (by decide +kernel) (by decide +kernel)
theorem imX9_many : Cond.instanceMethod (gNm mX9_many) ∈ gTb ∧ Cond.selects (gNm mX9_many).cls (gNm mX9_many) (gNm mX9_many) ∈ gTb := ⟨inT 1014 (by decide +kernel) (by decide +kernel), inT 1015 (by decide +kernel) (by decide +kernel)⟩
theorem pdX9_many : (gNm mX9_many).cls ≠ "java/lang/invoke/MethodHandle" ∧ (gNm mX9_many).cls ≠ "java/lang/invoke/VarHandle" ∧ (parseMethodDescriptor (gNm mX9_many).desc).map (fun d => d.parameters.length) = some 0 := by decide +kernel
theorem okX9_every : gMok mX9_every := ⟨by decide +kernel, rfl, fun h => (by cases h)⟩
theorem cdX9_every : Cond.code (gNm mX9_every) (gCode mX9_every) (gNL mX9_every) (gRet mX9_every) ∈ gTb := inT 1020 (by decide +kernel) (by decide +kernel)
theorem imX9_every : Cond.instanceMethod (gNm mX9_every) ∈ gTb ∧ Cond.selects (gNm mX9_every).cls (gNm mX9_every) (gNm mX9_every) ∈ gTb := ⟨inT 1018 (by decide +kernel) (by decide +kernel), inT 1019 (by decide +kernel) (by decide +kernel)⟩
theorem pdX9_every : (gNm mX9_every).cls ≠ "java/lang/invoke/MethodHandle" ∧ (gNm mX9_every).cls ≠ "java/lang/invoke/VarHandle" ∧ (parseMethodDescriptor (gNm mX9_every).desc).map (fun d => d.parameters.length) = some 1 := by decide +kernel
theorem okX9_second : gMok mX9_second := ⟨by decide +kernel, rfl, fun h => (by cases h)⟩
theorem cdX9_second : Cond.code (gNm mX9_second) (gCode mX9_second) (gNL mX9_second) (gRet mX9_second) ∈ gTb := inT 1024 (by decide +kernel) (by decide +kernel)
theorem imX9_second : Cond.instanceMethod (gNm mX9_second) ∈ gTb ∧ Cond.selects (gNm mX9_second).cls (gNm mX9_second) (gNm mX9_second) ∈ gTb := ⟨inT 1022 (by decide +kernel) (by decide +kernel), inT 1023 (by decide +kernel) (by decide +kernel)⟩
theorem pdX9_second : (gNm mX9_second).cls ≠ "java/lang/invoke/MethodHandle" ∧ (gNm mX9_second).cls ≠ "java/lang/invoke/VarHandle" ∧ (parseMethodDescriptor (gNm mX9_second).desc).map (fun d => d.parameters.length) = some 1 := by decide +kernel
theorem okX9_lose : gMok mX9_lose := ⟨by decide +kernel, rfl, fun h => (by cases h)⟩
theorem cdX9_lose : Cond.code (gNm mX9_lose) (gCode mX9_lose) (gNL mX9_lose) (gRet mX9_lose) ∈ gTb := inT 1028 (by decide +kernel) (by decide +kernel)
theorem imX9_lose : Cond.instanceMethod (gNm mX9_lose) ∈ gTb ∧ Cond.selects (gNm mX9_lose).cls (gNm mX9_lose) (gNm mX9_lose) ∈ gTb := ⟨inT 1026 (by decide +kernel) (by decide +kernel), inT 1027 (by decide +kernel) (by decide +kernel)⟩
theorem pdX9_lose : (gNm mX9_lose).cls ≠ "java/lang/invoke/MethodHandle" ∧ (gNm mX9_lose).cls ≠ "java/lang/invoke/VarHandle" ∧ (parseMethodDescriptor (gNm mX9_lose).desc).map (fun d => d.parameters.length) = some 1 := by decide +kernel
theorem okX9_worst : gMok mX9_worst := ⟨by decide +kernel, rfl, fun h => (by cases h)⟩
theorem cdX9_worst : Cond.code (gNm mX9_worst) (gCode mX9_worst) (gNL mX9_worst) (gRet mX9_worst) ∈ gTb := inT 1033 (by decide +kernel) (by decide +kernel)
theorem imX9_worst : Cond.instanceMethod (gNm mX9_worst) ∈ gTb ∧ Cond.selects (gNm mX9_worst).cls (gNm mX9_worst) (gNm mX9_worst) ∈ gTb := ⟨inT 1031 (by decide +kernel) (by decide +kernel), inT 1032 (by decide +kernel) (by decide +kernel)⟩
theorem pdX9_worst : (gNm mX9_worst).cls ≠ "java/lang/invoke/MethodHandle" ∧ (gNm mX9_worst).cls ≠ "java/lang/invoke/VarHandle" ∧ (parseMethodDescriptor (gNm mX9_worst).desc).map (fun d => d.parameters.length) = some 0 := by decide +kernel
theorem okX9_findNearest : gMok mX9_findNearest := ⟨by decide +kernel, rfl, fun h => (by cases h)⟩
theorem cdX9_findNearest : Cond.code (gNm mX9_findNearest) (gCode mX9_findNearest) (gNL mX9_findNearest) (gRet mX9_findNearest) ∈ gTb := inT 1042 (by decide +kernel) (by decide +kernel)
theorem imX9_findNearest : Cond.instanceMethod (gNm mX9_findNearest) ∈ gTb ∧ Cond.selects (gNm mX9_findNearest).cls (gNm mX9_findNearest) (gNm mX9_findNearest) ∈ gTb := ⟨inT 1041 (by decide +kernel) (by decide +kernel), inP 33 (by decide +kernel) (by decide +kernel)⟩
theorem pdX9_findNearest : (gNm mX9_findNearest).cls ≠ "java/lang/invoke/MethodHandle" ∧ (gNm mX9_findNearest).cls ≠ "java/lang/invoke/VarHandle" ∧ (parseMethodDescriptor (gNm mX9_findNearest).desc).map (fun d => d.parameters.length) = some 0 := by decide +kernel
theorem okX9_farthest : gMok mX9_farthest := ⟨by decide +kernel, rfl, fun h => (by cases h)⟩
theorem cdX9_farthest : Cond.code (gNm mX9_farthest) (gCode mX9_farthest) (gNL mX9_farthest) (gRet mX9_farthest) ∈ gTb := inT 1038 (by decide +kernel) (by decide +kernel)
theorem imX9_farthest : Cond.instanceMethod (gNm mX9_farthest) ∈ gTb ∧ Cond.selects (gNm mX9_farthest).cls (gNm mX9_farthest) (gNm mX9_farthest) ∈ gTb := ⟨inT 1036 (by decide +kernel) (by decide +kernel), inT 1037 (by decide +kernel) (by decide +kernel)⟩
theorem pdX9_farthest : (gNm mX9_farthest).cls ≠ "java/lang/invoke/MethodHandle" ∧ (gNm mX9_farthest).cls ≠ "java/lang/invoke/VarHandle" ∧ (parseMethodDescriptor (gNm mX9_farthest).desc).map (fun d => d.parameters.length) = some 0 := by decide +kernel
theorem okX9_nearest : gMok mX9_nearest := ⟨by decide +kernel, rfl, fun h => (by cases h)⟩
theorem cdX9_nearest : Cond.code (gNm mX9_nearest) (gCode mX9_nearest) (gNL mX9_nearest) (gRet mX9_nearest) ∈ gTb := inT 1046 (by decide +kernel) (by decide +kernel)
theorem imX9_nearest : Cond.instanceMethod (gNm mX9_nearest) ∈ gTb ∧ Cond.selects (gNm mX9_nearest).cls (gNm mX9_nearest) (gNm mX9_nearest) ∈ gTb := ⟨inT 1044 (by decide +kernel) (by decide +kernel), inT 1045 (by decide +kernel) (by decide +kernel)⟩
theorem pdX9_nearest : (gNm mX9_nearest).cls ≠ "java/lang/invoke/MethodHandle" ∧ (gNm mX9_nearest).cls ≠ "java/lang/invoke/VarHandle" ∧ (parseMethodDescriptor (gNm mX9_nearest).desc).map (fun d => d.parameters.length) = some 0 := by decide +kernel
theorem okX9_shrines : gMok mX9_shrines := ⟨by decide +kernel, rfl, fun h => (by cases h)⟩
theorem cdX9_shrines : Cond.code (gNm mX9_shrines) (gCode mX9_shrines) (gNL mX9_shrines) (gRet mX9_shrines) ∈ gTb := inT 1054 (by decide +kernel) (by decide +kernel)
theorem imX9_shrines : Cond.instanceMethod (gNm mX9_shrines) ∈ gTb ∧ Cond.selects (gNm mX9_shrines).cls (gNm mX9_shrines) (gNm mX9_shrines) ∈ gTb := ⟨inT 1053 (by decide +kernel) (by decide +kernel), inP 34 (by decide +kernel) (by decide +kernel)⟩
theorem pdX9_shrines : (gNm mX9_shrines).cls ≠ "java/lang/invoke/MethodHandle" ∧ (gNm mX9_shrines).cls ≠ "java/lang/invoke/VarHandle" ∧ (parseMethodDescriptor (gNm mX9_shrines).desc).map (fun d => d.parameters.length) = some 0 := by decide +kernel
theorem okX9_isLess : gMok mX9_isLess := ⟨by decide +kernel, rfl, fun h => (by cases h)⟩
theorem cdX9_isLess : Cond.code (gNm mX9_isLess) (gCode mX9_isLess) (gNL mX9_isLess) (gRet mX9_isLess) ∈ gTb := inT 1062 (by decide +kernel) (by decide +kernel)
theorem imX9_isLess : Cond.instanceMethod (gNm mX9_isLess) ∈ gTb ∧ Cond.selects (gNm mX9_isLess).cls (gNm mX9_isLess) (gNm mX9_isLess) ∈ gTb := ⟨inT 1061 (by decide +kernel) (by decide +kernel), inP 36 (by decide +kernel) (by decide +kernel)⟩
theorem pdX9_isLess : (gNm mX9_isLess).cls ≠ "java/lang/invoke/MethodHandle" ∧ (gNm mX9_isLess).cls ≠ "java/lang/invoke/VarHandle" ∧ (parseMethodDescriptor (gNm mX9_isLess).desc).map (fun d => d.parameters.length) = some 1 := by decide +kernel
theorem okX9_begins : gMok mX9_begins := ⟨by decide +kernel, rfl, fun h => (by cases h)⟩
theorem cdX9_begins : Cond.code (gNm mX9_begins) (gCode mX9_begins) (gNL mX9_begins) (gRet mX9_begins) ∈ gTb := inT 1058 (by decide +kernel) (by decide +kernel)
theorem imX9_begins : Cond.instanceMethod (gNm mX9_begins) ∈ gTb ∧ Cond.selects (gNm mX9_begins).cls (gNm mX9_begins) (gNm mX9_begins) ∈ gTb := ⟨inT 1057 (by decide +kernel) (by decide +kernel), inP 35 (by decide +kernel) (by decide +kernel)⟩
theorem pdX9_begins : (gNm mX9_begins).cls ≠ "java/lang/invoke/MethodHandle" ∧ (gNm mX9_begins).cls ≠ "java/lang/invoke/VarHandle" ∧ (parseMethodDescriptor (gNm mX9_begins).desc).map (fun d => d.parameters.length) = some 1 := by decide +kernel
theorem okX9_added : gMok mX9_added := ⟨by decide +kernel, rfl, fun h => (by cases h)⟩
theorem cdX9_added : Cond.code (gNm mX9_added) (gCode mX9_added) (gNL mX9_added) (gRet mX9_added) ∈ gTb := inT 1050 (by decide +kernel) (by decide +kernel)
theorem imX9_added : Cond.instanceMethod (gNm mX9_added) ∈ gTb ∧ Cond.selects (gNm mX9_added).cls (gNm mX9_added) (gNm mX9_added) ∈ gTb := ⟨inT 1048 (by decide +kernel) (by decide +kernel), inT 1049 (by decide +kernel) (by decide +kernel)⟩
theorem pdX9_added : (gNm mX9_added).cls ≠ "java/lang/invoke/MethodHandle" ∧ (gNm mX9_added).cls ≠ "java/lang/invoke/VarHandle" ∧ (parseMethodDescriptor (gNm mX9_added).desc).map (fun d => d.parameters.length) = some 0 := by decide +kernel
theorem okX9_changed : gMok mX9_changed := ⟨by decide +kernel, rfl, fun h => (by cases h)⟩
theorem cdX9_changed : Cond.code (gNm mX9_changed) (gCode mX9_changed) (gNL mX9_changed) (gRet mX9_changed) ∈ gTb := inT 1066 (by decide +kernel) (by decide +kernel)
theorem imX9_changed : Cond.instanceMethod (gNm mX9_changed) ∈ gTb ∧ Cond.selects (gNm mX9_changed).cls (gNm mX9_changed) (gNm mX9_changed) ∈ gTb := ⟨inT 1064 (by decide +kernel) (by decide +kernel), inT 1065 (by decide +kernel) (by decide +kernel)⟩
theorem pdX9_changed : (gNm mX9_changed).cls ≠ "java/lang/invoke/MethodHandle" ∧ (gNm mX9_changed).cls ≠ "java/lang/invoke/VarHandle" ∧ (parseMethodDescriptor (gNm mX9_changed).desc).map (fun d => d.parameters.length) = some 1 := by decide +kernel
theorem okX9_moves : gMok mX9_moves := ⟨by decide +kernel, rfl, fun h => (by cases h)⟩
theorem cdX9_moves : Cond.code (gNm mX9_moves) (gCode mX9_moves) (gNL mX9_moves) (gRet mX9_moves) ∈ gTb := inT 1070 (by decide +kernel) (by decide +kernel)
theorem imX9_moves : Cond.instanceMethod (gNm mX9_moves) ∈ gTb ∧ Cond.selects (gNm mX9_moves).cls (gNm mX9_moves) (gNm mX9_moves) ∈ gTb := ⟨inT 1068 (by decide +kernel) (by decide +kernel), inT 1069 (by decide +kernel) (by decide +kernel)⟩
theorem pdX9_moves : (gNm mX9_moves).cls ≠ "java/lang/invoke/MethodHandle" ∧ (gNm mX9_moves).cls ≠ "java/lang/invoke/VarHandle" ∧ (parseMethodDescriptor (gNm mX9_moves).desc).map (fun d => d.parameters.length) = some 0 := by decide +kernel
theorem okX9_price : gMok mX9_price := ⟨by decide +kernel, rfl, fun h => (by cases h)⟩
theorem cdX9_price : Cond.code (gNm mX9_price) (gCode mX9_price) (gNL mX9_price) (gRet mX9_price) ∈ gTb := inT 1074 (by decide +kernel) (by decide +kernel)
theorem imX9_price : Cond.instanceMethod (gNm mX9_price) ∈ gTb ∧ Cond.selects (gNm mX9_price).cls (gNm mX9_price) (gNm mX9_price) ∈ gTb := ⟨inT 1072 (by decide +kernel) (by decide +kernel), inT 1073 (by decide +kernel) (by decide +kernel)⟩
theorem pdX9_price : (gNm mX9_price).cls ≠ "java/lang/invoke/MethodHandle" ∧ (gNm mX9_price).cls ≠ "java/lang/invoke/VarHandle" ∧ (parseMethodDescriptor (gNm mX9_price).desc).map (fun d => d.parameters.length) = some 2 := by decide +kernel
theorem okX9_priced : gMok mX9_priced := ⟨by decide +kernel, rfl, fun h => (by cases h)⟩
theorem cdX9_priced : Cond.code (gNm mX9_priced) (gCode mX9_priced) (gNL mX9_priced) (gRet mX9_priced) ∈ gTb := inT 1079 (by decide +kernel) (by decide +kernel)
theorem imX9_priced : Cond.instanceMethod (gNm mX9_priced) ∈ gTb ∧ Cond.selects (gNm mX9_priced).cls (gNm mX9_priced) (gNm mX9_priced) ∈ gTb := ⟨inT 1077 (by decide +kernel) (by decide +kernel), inT 1078 (by decide +kernel) (by decide +kernel)⟩
theorem pdX9_priced : (gNm mX9_priced).cls ≠ "java/lang/invoke/MethodHandle" ∧ (gNm mX9_priced).cls ≠ "java/lang/invoke/VarHandle" ∧ (parseMethodDescriptor (gNm mX9_priced).desc).map (fun d => d.parameters.length) = some 1 := by decide +kernel
theorem okX9_given : gMok mX9_given := ⟨by decide +kernel, rfl, fun h => (by cases h)⟩
theorem cdX9_given : Cond.code (gNm mX9_given) (gCode mX9_given) (gNL mX9_given) (gRet mX9_given) ∈ gTb := inT 1087 (by decide +kernel) (by decide +kernel)
theorem imX9_given : Cond.instanceMethod (gNm mX9_given) ∈ gTb ∧ Cond.selects (gNm mX9_given).cls (gNm mX9_given) (gNm mX9_given) ∈ gTb := ⟨inT 1086 (by decide +kernel) (by decide +kernel), inP 37 (by decide +kernel) (by decide +kernel)⟩
theorem pdX9_given : (gNm mX9_given).cls ≠ "java/lang/invoke/MethodHandle" ∧ (gNm mX9_given).cls ≠ "java/lang/invoke/VarHandle" ∧ (parseMethodDescriptor (gNm mX9_given).desc).map (fun d => d.parameters.length) = some 2 := by decide +kernel
theorem okX9_gives : gMok mX9_gives := ⟨by decide +kernel, rfl, fun h => (by cases h)⟩
theorem cdX9_gives : Cond.code (gNm mX9_gives) (gCode mX9_gives) (gNL mX9_gives) (gRet mX9_gives) ∈ gTb := inT 1083 (by decide +kernel) (by decide +kernel)
theorem imX9_gives : Cond.instanceMethod (gNm mX9_gives) ∈ gTb ∧ Cond.selects (gNm mX9_gives).cls (gNm mX9_gives) (gNm mX9_gives) ∈ gTb := ⟨inT 1081 (by decide +kernel) (by decide +kernel), inT 1082 (by decide +kernel) (by decide +kernel)⟩
theorem pdX9_gives : (gNm mX9_gives).cls ≠ "java/lang/invoke/MethodHandle" ∧ (gNm mX9_gives).cls ≠ "java/lang/invoke/VarHandle" ∧ (parseMethodDescriptor (gNm mX9_gives).desc).map (fun d => d.parameters.length) = some 2 := by decide +kernel
theorem okX9_worthOf : gMok mX9_worthOf := ⟨by decide +kernel, rfl, fun h => (by cases h)⟩
theorem cdX9_worthOf : Cond.code (gNm mX9_worthOf) (gCode mX9_worthOf) (gNL mX9_worthOf) (gRet mX9_worthOf) ∈ gTb := inT 1095 (by decide +kernel) (by decide +kernel)
theorem imX9_worthOf : Cond.instanceMethod (gNm mX9_worthOf) ∈ gTb ∧ Cond.selects (gNm mX9_worthOf).cls (gNm mX9_worthOf) (gNm mX9_worthOf) ∈ gTb := ⟨inT 1094 (by decide +kernel) (by decide +kernel), inP 38 (by decide +kernel) (by decide +kernel)⟩
theorem pdX9_worthOf : (gNm mX9_worthOf).cls ≠ "java/lang/invoke/MethodHandle" ∧ (gNm mX9_worthOf).cls ≠ "java/lang/invoke/VarHandle" ∧ (parseMethodDescriptor (gNm mX9_worthOf).desc).map (fun d => d.parameters.length) = some 1 := by decide +kernel
theorem okX9_worth : gMok mX9_worth := ⟨by decide +kernel, rfl, fun h => (by cases h)⟩
theorem cdX9_worth : Cond.code (gNm mX9_worth) (gCode mX9_worth) (gNL mX9_worth) (gRet mX9_worth) ∈ gTb := inT 1091 (by decide +kernel) (by decide +kernel)
theorem imX9_worth : Cond.instanceMethod (gNm mX9_worth) ∈ gTb ∧ Cond.selects (gNm mX9_worth).cls (gNm mX9_worth) (gNm mX9_worth) ∈ gTb := ⟨inT 1089 (by decide +kernel) (by decide +kernel), inT 1090 (by decide +kernel) (by decide +kernel)⟩
theorem pdX9_worth : (gNm mX9_worth).cls ≠ "java/lang/invoke/MethodHandle" ∧ (gNm mX9_worth).cls ≠ "java/lang/invoke/VarHandle" ∧ (parseMethodDescriptor (gNm mX9_worth).desc).map (fun d => d.parameters.length) = some 1 := by decide +kernel
theorem okX9_findRichest : gMok mX9_findRichest := ⟨by decide +kernel, rfl, fun h => (by cases h)⟩
theorem cdX9_findRichest : Cond.code (gNm mX9_findRichest) (gCode mX9_findRichest) (gNL mX9_findRichest) (gRet mX9_findRichest) ∈ gTb := inT 1107 (by decide +kernel) (by decide +kernel)
theorem imX9_findRichest : Cond.instanceMethod (gNm mX9_findRichest) ∈ gTb ∧ Cond.selects (gNm mX9_findRichest).cls (gNm mX9_findRichest) (gNm mX9_findRichest) ∈ gTb := ⟨inT 1106 (by decide +kernel) (by decide +kernel), inP 40 (by decide +kernel) (by decide +kernel)⟩
theorem pdX9_findRichest : (gNm mX9_findRichest).cls ≠ "java/lang/invoke/MethodHandle" ∧ (gNm mX9_findRichest).cls ≠ "java/lang/invoke/VarHandle" ∧ (parseMethodDescriptor (gNm mX9_findRichest).desc).map (fun d => d.parameters.length) = some 0 := by decide +kernel
theorem okX9_boundNow : gMok mX9_boundNow := ⟨by decide +kernel, rfl, fun h => (by cases h)⟩
theorem cdX9_boundNow : Cond.code (gNm mX9_boundNow) (gCode mX9_boundNow) (gNL mX9_boundNow) (gRet mX9_boundNow) ∈ gTb := inT 1103 (by decide +kernel) (by decide +kernel)
theorem imX9_boundNow : Cond.instanceMethod (gNm mX9_boundNow) ∈ gTb ∧ Cond.selects (gNm mX9_boundNow).cls (gNm mX9_boundNow) (gNm mX9_boundNow) ∈ gTb := ⟨inT 1102 (by decide +kernel) (by decide +kernel), inP 39 (by decide +kernel) (by decide +kernel)⟩
theorem pdX9_boundNow : (gNm mX9_boundNow).cls ≠ "java/lang/invoke/MethodHandle" ∧ (gNm mX9_boundNow).cls ≠ "java/lang/invoke/VarHandle" ∧ (parseMethodDescriptor (gNm mX9_boundNow).desc).map (fun d => d.parameters.length) = some 0 := by decide +kernel
theorem okX9_bound : gMok mX9_bound := ⟨by decide +kernel, rfl, fun h => (by cases h)⟩
theorem cdX9_bound : Cond.code (gNm mX9_bound) (gCode mX9_bound) (gNL mX9_bound) (gRet mX9_bound) ∈ gTb := inT 1099 (by decide +kernel) (by decide +kernel)
theorem imX9_bound : Cond.instanceMethod (gNm mX9_bound) ∈ gTb ∧ Cond.selects (gNm mX9_bound).cls (gNm mX9_bound) (gNm mX9_bound) ∈ gTb := ⟨inT 1097 (by decide +kernel) (by decide +kernel), inT 1098 (by decide +kernel) (by decide +kernel)⟩
theorem pdX9_bound : (gNm mX9_bound).cls ≠ "java/lang/invoke/MethodHandle" ∧ (gNm mX9_bound).cls ≠ "java/lang/invoke/VarHandle" ∧ (parseMethodDescriptor (gNm mX9_bound).desc).map (fun d => d.parameters.length) = some 0 := by decide +kernel
theorem okX9_climb : gMok mX9_climb := ⟨by decide +kernel, rfl, fun h => (by cases h)⟩
theorem cdX9_climb : Cond.code (gNm mX9_climb) (gCode mX9_climb) (gNL mX9_climb) (gRet mX9_climb) ∈ gTb := inT 1111 (by decide +kernel) (by decide +kernel)
theorem imX9_climb : Cond.instanceMethod (gNm mX9_climb) ∈ gTb ∧ Cond.selects (gNm mX9_climb).cls (gNm mX9_climb) (gNm mX9_climb) ∈ gTb := ⟨inT 1109 (by decide +kernel) (by decide +kernel), inT 1110 (by decide +kernel) (by decide +kernel)⟩
theorem pdX9_climb : (gNm mX9_climb).cls ≠ "java/lang/invoke/MethodHandle" ∧ (gNm mX9_climb).cls ≠ "java/lang/invoke/VarHandle" ∧ (parseMethodDescriptor (gNm mX9_climb).desc).map (fun d => d.parameters.length) = some 2 := by decide +kernel
theorem okX9_highest : gMok mX9_highest := ⟨by decide +kernel, rfl, fun h => (by cases h)⟩
theorem cdX9_highest : Cond.code (gNm mX9_highest) (gCode mX9_highest) (gNL mX9_highest) (gRet mX9_highest) ∈ gTb := inT 1116 (by decide +kernel) (by decide +kernel)
theorem imX9_highest : Cond.instanceMethod (gNm mX9_highest) ∈ gTb ∧ Cond.selects (gNm mX9_highest).cls (gNm mX9_highest) (gNm mX9_highest) ∈ gTb := ⟨inT 1114 (by decide +kernel) (by decide +kernel), inT 1115 (by decide +kernel) (by decide +kernel)⟩
theorem pdX9_highest : (gNm mX9_highest).cls ≠ "java/lang/invoke/MethodHandle" ∧ (gNm mX9_highest).cls ≠ "java/lang/invoke/VarHandle" ∧ (parseMethodDescriptor (gNm mX9_highest).desc).map (fun d => d.parameters.length) = some 0 := by decide +kernel
theorem okX9_count : gMok mX9_count := ⟨by decide +kernel, rfl, fun h => (by cases h)⟩
theorem cdX9_count : Cond.code (gNm mX9_count) (gCode mX9_count) (gNL mX9_count) (gRet mX9_count) ∈ gTb := inT 1120 (by decide +kernel) (by decide +kernel)
theorem imX9_count : Cond.instanceMethod (gNm mX9_count) ∈ gTb ∧ Cond.selects (gNm mX9_count).cls (gNm mX9_count) (gNm mX9_count) ∈ gTb := ⟨inT 1118 (by decide +kernel) (by decide +kernel), inT 1119 (by decide +kernel) (by decide +kernel)⟩
theorem pdX9_count : (gNm mX9_count).cls ≠ "java/lang/invoke/MethodHandle" ∧ (gNm mX9_count).cls ≠ "java/lang/invoke/VarHandle" ∧ (parseMethodDescriptor (gNm mX9_count).desc).map (fun d => d.parameters.length) = some 1 := by decide +kernel
theorem okJ6_bitCount_0f7a4 : gMok mJ6_bitCount_0f7a4 := ⟨by decide +kernel, rfl, fun h => (by cases h)⟩
theorem cdJ6_bitCount_0f7a4 : Cond.code (gNm mJ6_bitCount_0f7a4) (gCode mJ6_bitCount_0f7a4) (gNL mJ6_bitCount_0f7a4) (gRet mJ6_bitCount_0f7a4) ∈ gTb := inT 473 (by decide +kernel) (by decide +kernel)
theorem smJ6_bitCount_0f7a4 : Cond.static (gNm mJ6_bitCount_0f7a4) ∈ gTb := inT 472 (by decide +kernel) (by decide +kernel)
theorem pdJ6_bitCount_0f7a4 : (gNm mJ6_bitCount_0f7a4).cls ≠ "java/lang/invoke/MethodHandle" ∧ (gNm mJ6_bitCount_0f7a4).cls ≠ "java/lang/invoke/VarHandle" ∧ (parseMethodDescriptor (gNm mJ6_bitCount_0f7a4).desc).map (fun d => d.parameters.length) = some 1 := by decide +kernel
theorem cdJ9_max_7cf53 : Cond.code (gNm mJ9_max_7cf53) (gCode mJ9_max_7cf53) (gNL mJ9_max_7cf53) (gRet mJ9_max_7cf53) ∈ gTb := inT 532 (by decide +kernel) (by decide +kernel)
theorem smJ9_max_7cf53 : Cond.static (gNm mJ9_max_7cf53) ∈ gTb := inT 531 (by decide +kernel) (by decide +kernel)
theorem pdJ9_max_7cf53 : (gNm mJ9_max_7cf53).cls ≠ "java/lang/invoke/MethodHandle" ∧ (gNm mJ9_max_7cf53).cls ≠ "java/lang/invoke/VarHandle" ∧ (parseMethodDescriptor (gNm mJ9_max_7cf53).desc).map (fun d => d.parameters.length) = some 2 := by decide +kernel
theorem cdJ9_max_f86c9 : Cond.code (gNm mJ9_max_f86c9) (gCode mJ9_max_f86c9) (gNL mJ9_max_f86c9) (gRet mJ9_max_f86c9) ∈ gTb := inT 673 (by decide +kernel) (by decide +kernel)
theorem smJ9_max_f86c9 : Cond.static (gNm mJ9_max_f86c9) ∈ gTb := inT 672 (by decide +kernel) (by decide +kernel)
theorem pdJ9_max_f86c9 : (gNm mJ9_max_f86c9).cls ≠ "java/lang/invoke/MethodHandle" ∧ (gNm mJ9_max_f86c9).cls ≠ "java/lang/invoke/VarHandle" ∧ (parseMethodDescriptor (gNm mJ9_max_f86c9).desc).map (fun d => d.parameters.length) = some 2 := by decide +kernel
theorem cdJ9_min_7cf53 : Cond.code (gNm mJ9_min_7cf53) (gCode mJ9_min_7cf53) (gNL mJ9_min_7cf53) (gRet mJ9_min_7cf53) ∈ gTb := inT 313 (by decide +kernel) (by decide +kernel)
theorem smJ9_min_7cf53 : Cond.static (gNm mJ9_min_7cf53) ∈ gTb := inT 312 (by decide +kernel) (by decide +kernel)
theorem pdJ9_min_7cf53 : (gNm mJ9_min_7cf53).cls ≠ "java/lang/invoke/MethodHandle" ∧ (gNm mJ9_min_7cf53).cls ≠ "java/lang/invoke/VarHandle" ∧ (parseMethodDescriptor (gNm mJ9_min_7cf53).desc).map (fun d => d.parameters.length) = some 2 := by decide +kernel
theorem cdJ9_min_f86c9 : Cond.code (gNm mJ9_min_f86c9) (gCode mJ9_min_f86c9) (gNL mJ9_min_f86c9) (gRet mJ9_min_f86c9) ∈ gTb := inT 565 (by decide +kernel) (by decide +kernel)
theorem smJ9_min_f86c9 : Cond.static (gNm mJ9_min_f86c9) ∈ gTb := inT 564 (by decide +kernel) (by decide +kernel)
theorem pdJ9_min_f86c9 : (gNm mJ9_min_f86c9).cls ≠ "java/lang/invoke/MethodHandle" ∧ (gNm mJ9_min_f86c9).cls ≠ "java/lang/invoke/VarHandle" ∧ (parseMethodDescriptor (gNm mJ9_min_f86c9).desc).map (fun d => d.parameters.length) = some 2 := by decide +kernel
theorem iniX8 : Cond.initialized RX8 ∈ gTb := inT 1 (by decide +kernel) (by decide +kernel)
theorem iniX0 : Cond.initialized RX0 ∈ gTb := inT 7 (by decide +kernel) (by decide +kernel)
theorem iniX1 : Cond.initialized RX1 ∈ gTb := inT 9 (by decide +kernel) (by decide +kernel)
theorem iniX2 : Cond.initialized RX2 ∈ gTb := inT 3 (by decide +kernel) (by decide +kernel)
theorem iniX3 : Cond.initialized RX3 ∈ gTb := inT 5 (by decide +kernel) (by decide +kernel)
theorem iniX4 : Cond.initialized RX4 ∈ gTb := inT 8 (by decide +kernel) (by decide +kernel)
theorem iniX5 : Cond.initialized RX5 ∈ gTb := inT 6 (by decide +kernel) (by decide +kernel)
theorem iniX6 : Cond.initialized RX6 ∈ gTb := inT 2 (by decide +kernel) (by decide +kernel)
theorem iniX7 : Cond.initialized RX7 ∈ gTb := inT 4 (by decide +kernel) (by decide +kernel)
theorem iniX9 : Cond.initialized RX9 ∈ gTb := inT 10 (by decide +kernel) (by decide +kernel)
theorem iniJ6 : Cond.initialized RJ6 ∈ gTb := inT 13 (by decide +kernel) (by decide +kernel)
theorem iniJ9 : Cond.initialized RJ9 ∈ gTb := inT 12 (by decide +kernel) (by decide +kernel)
theorem iniSys : Cond.initialized "java/lang/System" ∈ gTb := inT 11 (by decide +kernel) (by decide +kernel)
theorem ac_int : Cond.arrayClass .int ∈ gTb := inT 76 (by decide +kernel) (by decide +kernel)
theorem ac_long : Cond.arrayClass .long ∈ gTb := inT 178 (by decide +kernel) (by decide +kernel)
theorem faX6_9 : gFa RX6 9 6 0 0 := ⟨(RX6, TX6, 9), rfl, by decide, uwX6, inT 28 (by decide +kernel) (by decide +kernel), rfl⟩
theorem fpX6_9 : gFp RX6 9 6 0 0 false := ⟨(RX6, TX6, 9), tyX6, rfl, by decide, uwX6, inT 28 (by decide +kernel) (by decide +kernel), rfl, tyX6_ok, nmX6, rfl, rfl, fun h => (by cases h), by decide⟩
theorem faX8_83 : gFa RX8 83 6 0 0 := ⟨(RX6, TX6, 9), rfl, by decide, uwX6, inT 29 (by decide +kernel) (by decide +kernel), rfl⟩
theorem faX3_35 : gFa RX3 35 6 0 0 := ⟨(RX6, TX6, 9), rfl, by decide, uwX6, inT 30 (by decide +kernel) (by decide +kernel), rfl⟩
theorem faX7_19 : gFa RX7 19 6 0 0 := ⟨(RX6, TX6, 9), rfl, by decide, uwX6, inT 31 (by decide +kernel) (by decide +kernel), rfl⟩
theorem faX4_57 : gFa RX4 57 6 0 0 := ⟨(RX6, TX6, 9), rfl, by decide, uwX6, inT 32 (by decide +kernel) (by decide +kernel), rfl⟩
theorem faX6_15 : gFa RX6 15 6 1 0 := ⟨(RX6, TX6, 9), rfl, by decide, uwX6, inT 33 (by decide +kernel) (by decide +kernel), rfl⟩
theorem fpX6_15 : gFp RX6 15 6 1 0 false := ⟨(RX6, TX6, 9), tyX6, rfl, by decide, uwX6, inT 33 (by decide +kernel) (by decide +kernel), rfl, tyX6_ok, nmX6, rfl, rfl, fun h => (by cases h), by decide⟩
theorem faX5_24 : gFa RX5 24 6 1 0 := ⟨(RX6, TX6, 9), rfl, by decide, uwX6, inT 34 (by decide +kernel) (by decide +kernel), rfl⟩
theorem faX3_32 : gFa RX3 32 6 1 0 := ⟨(RX6, TX6, 9), rfl, by decide, uwX6, inT 35 (by decide +kernel) (by decide +kernel), rfl⟩
theorem faX0_46 : gFa RX0 46 6 1 0 := ⟨(RX6, TX6, 9), rfl, by decide, uwX6, inT 36 (by decide +kernel) (by decide +kernel), rfl⟩
theorem faX4_67 : gFa RX4 67 6 1 0 := ⟨(RX6, TX6, 9), rfl, by decide, uwX6, inT 37 (by decide +kernel) (by decide +kernel), rfl⟩
theorem faX8_120 : gFa RX8 120 6 1 0 := ⟨(RX6, TX6, 9), rfl, by decide, uwX6, inT 38 (by decide +kernel) (by decide +kernel), rfl⟩
theorem faX6_18 : gFa RX6 18 6 2 0 := ⟨(RX6, TX6, 9), rfl, by decide, uwX6, inT 39 (by decide +kernel) (by decide +kernel), rfl⟩
theorem fpX6_18 : gFp RX6 18 6 2 0 false := ⟨(RX6, TX6, 9), tyX6, rfl, by decide, uwX6, inT 39 (by decide +kernel) (by decide +kernel), rfl, tyX6_ok, nmX6, rfl, rfl, fun h => (by cases h), by decide⟩
theorem faX3_62 : gFa RX3 62 6 2 0 := ⟨(RX6, TX6, 9), rfl, by decide, uwX6, inT 40 (by decide +kernel) (by decide +kernel), rfl⟩
theorem faX8_141 : gFa RX8 141 6 2 0 := ⟨(RX6, TX6, 9), rfl, by decide, uwX6, inT 41 (by decide +kernel) (by decide +kernel), rfl⟩
theorem fpX8_141 : gFp RX8 141 6 2 0 false := ⟨(RX6, TX6, 9), tyX6, rfl, by decide, uwX6, inT 41 (by decide +kernel) (by decide +kernel), rfl, tyX6_ok, nmX6, rfl, rfl, fun h => (by cases h), by decide⟩
theorem faX6_21 : gFa RX6 21 6 3 2 := ⟨(RX6, TX6, 9), rfl, by decide, uwX6, inT 42 (by decide +kernel) (by decide +kernel), rfl⟩
theorem fpX6_21 : gFp RX6 21 6 3 2 true := ⟨(RX6, TX6, 9), tyX6, rfl, by decide, uwX6, inT 42 (by decide +kernel) (by decide +kernel), rfl, tyX6_ok, nmX6, Or.inr ⟨_, rfl⟩, rfl, fun _ => rfl, by decide⟩
theorem faX4_40 : gFa RX4 40 6 3 2 := ⟨(RX6, TX6, 9), rfl, by decide, uwX6, inT 43 (by decide +kernel) (by decide +kernel), rfl⟩
theorem faX8_101 : gFa RX8 101 6 3 2 := ⟨(RX6, TX6, 9), rfl, by decide, uwX6, inT 44 (by decide +kernel) (by decide +kernel), rfl⟩
theorem faX3_75 : gFa RX3 75 6 3 2 := ⟨(RX6, TX6, 9), rfl, by decide, uwX6, inT 45 (by decide +kernel) (by decide +kernel), rfl⟩
theorem faX6_25 : gFa RX6 25 6 4 2 := ⟨(RX6, TX6, 9), rfl, by decide, uwX6, inT 46 (by decide +kernel) (by decide +kernel), rfl⟩
theorem fpX6_25 : gFp RX6 25 6 4 2 true := ⟨(RX6, TX6, 9), tyX6, rfl, by decide, uwX6, inT 46 (by decide +kernel) (by decide +kernel), rfl, tyX6_ok, nmX6, Or.inr ⟨_, rfl⟩, rfl, fun _ => rfl, by decide⟩
theorem faX6_28 : gFa RX6 28 6 5 2 := ⟨(RX6, TX6, 9), rfl, by decide, uwX6, inT 47 (by decide +kernel) (by decide +kernel), rfl⟩
theorem fpX6_28 : gFp RX6 28 6 5 2 true := ⟨(RX6, TX6, 9), tyX6, rfl, by decide, uwX6, inT 47 (by decide +kernel) (by decide +kernel), rfl, tyX6_ok, nmX6, Or.inr ⟨_, rfl⟩, rfl, fun _ => rfl, by decide⟩
theorem faX3_38 : gFa RX3 38 6 5 2 := ⟨(RX6, TX6, 9), rfl, by decide, uwX6, inT 48 (by decide +kernel) (by decide +kernel), rfl⟩
theorem faX6_31 : gFa RX6 31 6 6 2 := ⟨(RX6, TX6, 9), rfl, by decide, uwX6, inT 49 (by decide +kernel) (by decide +kernel), rfl⟩
theorem fpX6_31 : gFp RX6 31 6 6 2 true := ⟨(RX6, TX6, 9), tyX6, rfl, by decide, uwX6, inT 49 (by decide +kernel) (by decide +kernel), rfl, tyX6_ok, nmX6, Or.inr ⟨_, rfl⟩, rfl, fun _ => rfl, by decide⟩
theorem faX3_51 : gFa RX3 51 6 6 2 := ⟨(RX6, TX6, 9), rfl, by decide, uwX6, inT 50 (by decide +kernel) (by decide +kernel), rfl⟩
theorem faX8_133 : gFa RX8 133 6 6 2 := ⟨(RX6, TX6, 9), rfl, by decide, uwX6, inT 51 (by decide +kernel) (by decide +kernel), rfl⟩
theorem faX5_98 : gFa RX5 98 6 6 2 := ⟨(RX6, TX6, 9), rfl, by decide, uwX6, inT 52 (by decide +kernel) (by decide +kernel), rfl⟩
theorem faX6_34 : gFa RX6 34 6 7 2 := ⟨(RX6, TX6, 9), rfl, by decide, uwX6, inT 53 (by decide +kernel) (by decide +kernel), rfl⟩
theorem fpX6_34 : gFp RX6 34 6 7 2 true := ⟨(RX6, TX6, 9), tyX6, rfl, by decide, uwX6, inT 53 (by decide +kernel) (by decide +kernel), rfl, tyX6_ok, nmX6, Or.inr ⟨_, rfl⟩, rfl, fun _ => rfl, by decide⟩
theorem faX6_37 : gFa RX6 37 6 8 2 := ⟨(RX6, TX6, 9), rfl, by decide, uwX6, inT 54 (by decide +kernel) (by decide +kernel), rfl⟩
theorem fpX6_37 : gFp RX6 37 6 8 2 true := ⟨(RX6, TX6, 9), tyX6, rfl, by decide, uwX6, inT 54 (by decide +kernel) (by decide +kernel), rfl, tyX6_ok, nmX6, Or.inr ⟨_, rfl⟩, rfl, fun _ => rfl, by decide⟩
theorem faX3_54 : gFa RX3 54 6 8 2 := ⟨(RX6, TX6, 9), rfl, by decide, uwX6, inT 55 (by decide +kernel) (by decide +kernel), rfl⟩
theorem faX8_136 : gFa RX8 136 6 8 2 := ⟨(RX6, TX6, 9), rfl, by decide, uwX6, inT 56 (by decide +kernel) (by decide +kernel), rfl⟩
theorem faX2_13 : gFa RX2 13 2 0 2 := ⟨(RX2, TX2, 3), rfl, by decide, uwX2, inT 86 (by decide +kernel) (by decide +kernel), rfl⟩
theorem fpX2_13 : gFp RX2 13 2 0 2 true := ⟨(RX2, TX2, 3), tyX2, rfl, by decide, uwX2, inT 86 (by decide +kernel) (by decide +kernel), rfl, tyX2_ok, nmX2, Or.inr ⟨_, rfl⟩, rfl, fun _ => rfl, by decide⟩
theorem faX2_17 : gFa RX2 17 2 1 0 := ⟨(RX2, TX2, 3), rfl, by decide, uwX2, inT 87 (by decide +kernel) (by decide +kernel), rfl⟩
theorem fpX2_17 : gFp RX2 17 2 1 0 false := ⟨(RX2, TX2, 3), tyX2, rfl, by decide, uwX2, inT 87 (by decide +kernel) (by decide +kernel), rfl, tyX2_ok, nmX2, rfl, rfl, fun h => (by cases h), by decide⟩
theorem faX2_21 : gFa RX2 21 2 2 0 := ⟨(RX2, TX2, 3), rfl, by decide, uwX2, inT 88 (by decide +kernel) (by decide +kernel), rfl⟩
theorem fpX2_21 : gFp RX2 21 2 2 0 false := ⟨(RX2, TX2, 3), tyX2, rfl, by decide, uwX2, inT 88 (by decide +kernel) (by decide +kernel), rfl, tyX2_ok, nmX2, rfl, rfl, fun h => (by cases h), by decide⟩
theorem faX8_297 : gFa RX8 297 2 2 0 := ⟨(RX2, TX2, 3), rfl, by decide, uwX2, inT 89 (by decide +kernel) (by decide +kernel), rfl⟩
theorem faX7_9 : gFa RX7 9 7 0 2 := ⟨(RX7, TX7, 1), rfl, by decide, uwX7, inT 105 (by decide +kernel) (by decide +kernel), rfl⟩
theorem fpX7_9 : gFp RX7 9 7 0 2 true := ⟨(RX7, TX7, 1), tyX7, rfl, by decide, uwX7, inT 105 (by decide +kernel) (by decide +kernel), rfl, tyX7_ok, nmX7, Or.inr ⟨_, rfl⟩, rfl, fun _ => rfl, by decide⟩
theorem faX3_22 : gFa RX3 22 3 0 2 := ⟨(RX3, TX3, 4), rfl, by decide, uwX3, inT 115 (by decide +kernel) (by decide +kernel), rfl⟩
theorem fpX3_22 : gFp RX3 22 3 0 2 true := ⟨(RX3, TX3, 4), tyX3, rfl, by decide, uwX3, inT 115 (by decide +kernel) (by decide +kernel), rfl, tyX3_ok, nmX3, Or.inl ⟨_, rfl⟩, rfl, fun _ => rfl, by decide⟩
theorem faX5_18 : gFa RX5 18 3 0 2 := ⟨(RX3, TX3, 4), rfl, by decide, uwX3, inT 116 (by decide +kernel) (by decide +kernel), rfl⟩
theorem faX0_42 : gFa RX0 42 3 0 2 := ⟨(RX3, TX3, 4), rfl, by decide, uwX3, inT 117 (by decide +kernel) (by decide +kernel), rfl⟩
theorem faX3_9 : gFa RX3 9 3 1 2 := ⟨(RX3, TX3, 4), rfl, by decide, uwX3, inT 118 (by decide +kernel) (by decide +kernel), rfl⟩
theorem fpX3_9 : gFp RX3 9 3 1 2 true := ⟨(RX3, TX3, 4), tyX3, rfl, by decide, uwX3, inT 118 (by decide +kernel) (by decide +kernel), rfl, tyX3_ok, nmX3, Or.inr ⟨_, rfl⟩, rfl, fun _ => rfl, by decide⟩
theorem faX3_15 : gFa RX3 15 3 2 0 := ⟨(RX3, TX3, 4), rfl, by decide, uwX3, inT 119 (by decide +kernel) (by decide +kernel), rfl⟩
theorem fpX3_15 : gFp RX3 15 3 2 0 false := ⟨(RX3, TX3, 4), tyX3, rfl, by decide, uwX3, inT 119 (by decide +kernel) (by decide +kernel), rfl, tyX3_ok, nmX3, rfl, rfl, fun h => (by cases h), by decide⟩
theorem faX0_26 : gFa RX0 26 3 2 0 := ⟨(RX3, TX3, 4), rfl, by decide, uwX3, inT 120 (by decide +kernel) (by decide +kernel), rfl⟩
theorem faX8_254 : gFa RX8 254 3 2 0 := ⟨(RX3, TX3, 4), rfl, by decide, uwX3, inT 121 (by decide +kernel) (by decide +kernel), rfl⟩
theorem faX3_19 : gFa RX3 19 3 3 0 := ⟨(RX3, TX3, 4), rfl, by decide, uwX3, inT 122 (by decide +kernel) (by decide +kernel), rfl⟩
theorem fpX3_19 : gFp RX3 19 3 3 0 false := ⟨(RX3, TX3, 4), tyX3, rfl, by decide, uwX3, inT 122 (by decide +kernel) (by decide +kernel), rfl, tyX3_ok, nmX3, rfl, rfl, fun h => (by cases h), by decide⟩
theorem faX5_57 : gFa RX5 57 5 0 1 := ⟨(RX5, TX5, 10), rfl, by decide, uwX5, inT 138 (by decide +kernel) (by decide +kernel), rfl⟩
theorem fpX5_57 : gFp RX5 57 5 0 1 false := ⟨(RX5, TX5, 10), tyX5, rfl, by decide, uwX5, inT 138 (by decide +kernel) (by decide +kernel), rfl, tyX5_ok, nmX5, rfl, rfl, fun h => (by cases h), by decide⟩
theorem faX8_220 : gFa RX8 220 5 0 1 := ⟨(RX5, TX5, 10), rfl, by decide, uwX5, inT 139 (by decide +kernel) (by decide +kernel), rfl⟩
theorem faX5_61 : gFa RX5 61 5 1 0 := ⟨(RX5, TX5, 10), rfl, by decide, uwX5, inT 140 (by decide +kernel) (by decide +kernel), rfl⟩
theorem fpX5_61 : gFp RX5 61 5 1 0 false := ⟨(RX5, TX5, 10), tyX5, rfl, by decide, uwX5, inT 140 (by decide +kernel) (by decide +kernel), rfl, tyX5_ok, nmX5, rfl, rfl, fun h => (by cases h), by decide⟩
theorem faX8_224 : gFa RX8 224 5 1 0 := ⟨(RX5, TX5, 10), rfl, by decide, uwX5, inT 141 (by decide +kernel) (by decide +kernel), rfl⟩
theorem faX5_64 : gFa RX5 64 5 2 0 := ⟨(RX5, TX5, 10), rfl, by decide, uwX5, inT 142 (by decide +kernel) (by decide +kernel), rfl⟩
theorem fpX5_64 : gFp RX5 64 5 2 0 false := ⟨(RX5, TX5, 10), tyX5, rfl, by decide, uwX5, inT 142 (by decide +kernel) (by decide +kernel), rfl, tyX5_ok, nmX5, rfl, rfl, fun h => (by cases h), by decide⟩
theorem faX8_217 : gFa RX8 217 5 2 0 := ⟨(RX5, TX5, 10), rfl, by decide, uwX5, inT 143 (by decide +kernel) (by decide +kernel), rfl⟩
theorem faX5_67 : gFa RX5 67 5 3 0 := ⟨(RX5, TX5, 10), rfl, by decide, uwX5, inT 144 (by decide +kernel) (by decide +kernel), rfl⟩
theorem fpX5_67 : gFp RX5 67 5 3 0 false := ⟨(RX5, TX5, 10), tyX5, rfl, by decide, uwX5, inT 144 (by decide +kernel) (by decide +kernel), rfl, tyX5_ok, nmX5, rfl, rfl, fun h => (by cases h), by decide⟩
theorem faX8_227 : gFa RX8 227 5 3 0 := ⟨(RX5, TX5, 10), rfl, by decide, uwX5, inT 145 (by decide +kernel) (by decide +kernel), rfl⟩
theorem faX5_70 : gFa RX5 70 5 4 0 := ⟨(RX5, TX5, 10), rfl, by decide, uwX5, inT 146 (by decide +kernel) (by decide +kernel), rfl⟩
theorem fpX5_70 : gFp RX5 70 5 4 0 false := ⟨(RX5, TX5, 10), tyX5, rfl, by decide, uwX5, inT 146 (by decide +kernel) (by decide +kernel), rfl, tyX5_ok, nmX5, rfl, rfl, fun h => (by cases h), by decide⟩
theorem faX8_230 : gFa RX8 230 5 4 0 := ⟨(RX5, TX5, 10), rfl, by decide, uwX5, inT 147 (by decide +kernel) (by decide +kernel), rfl⟩
theorem faX5_73 : gFa RX5 73 5 5 1 := ⟨(RX5, TX5, 10), rfl, by decide, uwX5, inT 148 (by decide +kernel) (by decide +kernel), rfl⟩
theorem fpX5_73 : gFp RX5 73 5 5 1 false := ⟨(RX5, TX5, 10), tyX5, rfl, by decide, uwX5, inT 148 (by decide +kernel) (by decide +kernel), rfl, tyX5_ok, nmX5, rfl, rfl, fun h => (by cases h), by decide⟩
theorem faX5_76 : gFa RX5 76 5 6 0 := ⟨(RX5, TX5, 10), rfl, by decide, uwX5, inT 149 (by decide +kernel) (by decide +kernel), rfl⟩
theorem fpX5_76 : gFp RX5 76 5 6 0 false := ⟨(RX5, TX5, 10), tyX5, rfl, by decide, uwX5, inT 149 (by decide +kernel) (by decide +kernel), rfl, tyX5_ok, nmX5, rfl, rfl, fun h => (by cases h), by decide⟩
theorem faX8_233 : gFa RX8 233 5 6 0 := ⟨(RX5, TX5, 10), rfl, by decide, uwX5, inT 150 (by decide +kernel) (by decide +kernel), rfl⟩
theorem faX5_80 : gFa RX5 80 5 7 0 := ⟨(RX5, TX5, 10), rfl, by decide, uwX5, inT 151 (by decide +kernel) (by decide +kernel), rfl⟩
theorem fpX5_80 : gFp RX5 80 5 7 0 false := ⟨(RX5, TX5, 10), tyX5, rfl, by decide, uwX5, inT 151 (by decide +kernel) (by decide +kernel), rfl, tyX5_ok, nmX5, rfl, rfl, fun h => (by cases h), by decide⟩
theorem faX8_251 : gFa RX8 251 5 7 0 := ⟨(RX5, TX5, 10), rfl, by decide, uwX5, inT 152 (by decide +kernel) (by decide +kernel), rfl⟩
theorem faX5_83 : gFa RX5 83 5 8 0 := ⟨(RX5, TX5, 10), rfl, by decide, uwX5, inT 153 (by decide +kernel) (by decide +kernel), rfl⟩
theorem fpX5_83 : gFp RX5 83 5 8 0 false := ⟨(RX5, TX5, 10), tyX5, rfl, by decide, uwX5, inT 153 (by decide +kernel) (by decide +kernel), rfl, tyX5_ok, nmX5, rfl, rfl, fun h => (by cases h), by decide⟩
theorem faX8_248 : gFa RX8 248 5 8 0 := ⟨(RX5, TX5, 10), rfl, by decide, uwX5, inT 154 (by decide +kernel) (by decide +kernel), rfl⟩
theorem faX5_9 : gFa RX5 9 5 9 2 := ⟨(RX5, TX5, 10), rfl, by decide, uwX5, inT 155 (by decide +kernel) (by decide +kernel), rfl⟩
theorem fpX5_9 : gFp RX5 9 5 9 2 true := ⟨(RX5, TX5, 10), tyX5, rfl, by decide, uwX5, inT 155 (by decide +kernel) (by decide +kernel), rfl, tyX5_ok, nmX5, Or.inr ⟨_, rfl⟩, rfl, fun _ => rfl, by decide⟩
theorem faX8_238 : gFa RX8 238 5 9 2 := ⟨(RX5, TX5, 10), rfl, by decide, uwX5, inT 156 (by decide +kernel) (by decide +kernel), rfl⟩
theorem faX0_22 : gFa RX0 22 0 0 2 := ⟨(RX0, TX0, 4), rfl, by decide, uwX0, inT 185 (by decide +kernel) (by decide +kernel), rfl⟩
theorem fpX0_22 : gFp RX0 22 0 0 2 true := ⟨(RX0, TX0, 4), tyX0, rfl, by decide, uwX0, inT 185 (by decide +kernel) (by decide +kernel), rfl, tyX0_ok, nmX0, Or.inl ⟨_, rfl⟩, rfl, fun _ => rfl, by decide⟩
theorem faX0_9 : gFa RX0 9 0 1 0 := ⟨(RX0, TX0, 4), rfl, by decide, uwX0, inT 186 (by decide +kernel) (by decide +kernel), rfl⟩
theorem fpX0_9 : gFp RX0 9 0 1 0 false := ⟨(RX0, TX0, 4), tyX0, rfl, by decide, uwX0, inT 186 (by decide +kernel) (by decide +kernel), rfl, tyX0_ok, nmX0, rfl, rfl, fun h => (by cases h), by decide⟩
theorem faX8_264 : gFa RX8 264 0 1 0 := ⟨(RX0, TX0, 4), rfl, by decide, uwX0, inT 187 (by decide +kernel) (by decide +kernel), rfl⟩
theorem faX0_15 : gFa RX0 15 0 2 0 := ⟨(RX0, TX0, 4), rfl, by decide, uwX0, inT 188 (by decide +kernel) (by decide +kernel), rfl⟩
theorem fpX0_15 : gFp RX0 15 0 2 0 false := ⟨(RX0, TX0, 4), tyX0, rfl, by decide, uwX0, inT 188 (by decide +kernel) (by decide +kernel), rfl, tyX0_ok, nmX0, rfl, rfl, fun h => (by cases h), by decide⟩
theorem faX0_18 : gFa RX0 18 0 3 1 := ⟨(RX0, TX0, 4), rfl, by decide, uwX0, inT 189 (by decide +kernel) (by decide +kernel), rfl⟩
theorem fpX0_18 : gFp RX0 18 0 3 1 false := ⟨(RX0, TX0, 4), tyX0, rfl, by decide, uwX0, inT 189 (by decide +kernel) (by decide +kernel), rfl, tyX0_ok, nmX0, rfl, rfl, fun h => (by cases h), by decide⟩
theorem faX4_26 : gFa RX4 26 4 0 2 := ⟨(RX4, TX4, 6), rfl, by decide, uwX4, inT 205 (by decide +kernel) (by decide +kernel), rfl⟩
theorem fpX4_26 : gFp RX4 26 4 0 2 true := ⟨(RX4, TX4, 6), tyX4, rfl, by decide, uwX4, inT 205 (by decide +kernel) (by decide +kernel), rfl, tyX4_ok, nmX4, Or.inl ⟨_, rfl⟩, rfl, fun _ => rfl, by decide⟩
theorem faX4_30 : gFa RX4 30 4 1 2 := ⟨(RX4, TX4, 6), rfl, by decide, uwX4, inT 206 (by decide +kernel) (by decide +kernel), rfl⟩
theorem fpX4_30 : gFp RX4 30 4 1 2 true := ⟨(RX4, TX4, 6), tyX4, rfl, by decide, uwX4, inT 206 (by decide +kernel) (by decide +kernel), rfl, tyX4_ok, nmX4, Or.inl ⟨_, rfl⟩, rfl, fun _ => rfl, by decide⟩
theorem faX4_9 : gFa RX4 9 4 2 2 := ⟨(RX4, TX4, 6), rfl, by decide, uwX4, inT 207 (by decide +kernel) (by decide +kernel), rfl⟩
theorem fpX4_9 : gFp RX4 9 4 2 2 true := ⟨(RX4, TX4, 6), tyX4, rfl, by decide, uwX4, inT 207 (by decide +kernel) (by decide +kernel), rfl, tyX4_ok, nmX4, Or.inr ⟨_, rfl⟩, rfl, fun _ => rfl, by decide⟩
theorem faX8_269 : gFa RX8 269 4 2 2 := ⟨(RX4, TX4, 6), rfl, by decide, uwX4, inT 208 (by decide +kernel) (by decide +kernel), rfl⟩
theorem faX4_15 : gFa RX4 15 4 3 2 := ⟨(RX4, TX4, 6), rfl, by decide, uwX4, inT 209 (by decide +kernel) (by decide +kernel), rfl⟩
theorem fpX4_15 : gFp RX4 15 4 3 2 true := ⟨(RX4, TX4, 6), tyX4, rfl, by decide, uwX4, inT 209 (by decide +kernel) (by decide +kernel), rfl, tyX4_ok, nmX4, Or.inr ⟨_, rfl⟩, rfl, fun _ => rfl, by decide⟩
theorem faX4_18 : gFa RX4 18 4 4 0 := ⟨(RX4, TX4, 6), rfl, by decide, uwX4, inT 210 (by decide +kernel) (by decide +kernel), rfl⟩
theorem fpX4_18 : gFp RX4 18 4 4 0 false := ⟨(RX4, TX4, 6), tyX4, rfl, by decide, uwX4, inT 210 (by decide +kernel) (by decide +kernel), rfl, tyX4_ok, nmX4, rfl, rfl, fun h => (by cases h), by decide⟩
theorem faX8_282 : gFa RX8 282 4 4 0 := ⟨(RX4, TX4, 6), rfl, by decide, uwX4, inT 211 (by decide +kernel) (by decide +kernel), rfl⟩
theorem faX4_22 : gFa RX4 22 4 5 1 := ⟨(RX4, TX4, 6), rfl, by decide, uwX4, inT 212 (by decide +kernel) (by decide +kernel), rfl⟩
theorem fpX4_22 : gFp RX4 22 4 5 1 false := ⟨(RX4, TX4, 6), tyX4, rfl, by decide, uwX4, inT 212 (by decide +kernel) (by decide +kernel), rfl, tyX4_ok, nmX4, rfl, rfl, fun h => (by cases h), by decide⟩
theorem faX8_294 : gFa RX8 294 4 5 1 := ⟨(RX4, TX4, 6), rfl, by decide, uwX4, inT 213 (by decide +kernel) (by decide +kernel), rfl⟩
theorem faX1_9 : gFa RX1 9 1 0 0 := ⟨(RX1, TX1, 3), rfl, by decide, uwX1, inT 232 (by decide +kernel) (by decide +kernel), rfl⟩
theorem fpX1_9 : gFp RX1 9 1 0 0 false := ⟨(RX1, TX1, 3), tyX1, rfl, by decide, uwX1, inT 232 (by decide +kernel) (by decide +kernel), rfl, tyX1_ok, nmX1, rfl, rfl, fun h => (by cases h), by decide⟩
theorem faX8_154 : gFa RX8 154 1 0 0 := ⟨(RX1, TX1, 3), rfl, by decide, uwX1, inT 233 (by decide +kernel) (by decide +kernel), rfl⟩
theorem faX1_15 : gFa RX1 15 1 1 0 := ⟨(RX1, TX1, 3), rfl, by decide, uwX1, inT 234 (by decide +kernel) (by decide +kernel), rfl⟩
theorem fpX1_15 : gFp RX1 15 1 1 0 false := ⟨(RX1, TX1, 3), tyX1, rfl, by decide, uwX1, inT 234 (by decide +kernel) (by decide +kernel), rfl, tyX1_ok, nmX1, rfl, rfl, fun h => (by cases h), by decide⟩
theorem faX8_157 : gFa RX8 157 1 1 0 := ⟨(RX1, TX1, 3), rfl, by decide, uwX1, inT 235 (by decide +kernel) (by decide +kernel), rfl⟩
theorem faX1_18 : gFa RX1 18 1 2 2 := ⟨(RX1, TX1, 3), rfl, by decide, uwX1, inT 236 (by decide +kernel) (by decide +kernel), rfl⟩
theorem fpX1_18 : gFp RX1 18 1 2 2 true := ⟨(RX1, TX1, 3), tyX1, rfl, by decide, uwX1, inT 236 (by decide +kernel) (by decide +kernel), rfl, tyX1_ok, nmX1, Or.inr ⟨_, rfl⟩, rfl, fun _ => rfl, by decide⟩
theorem faX8_340 : gFa RX8 340 1 2 2 := ⟨(RX1, TX1, 3), rfl, by decide, uwX1, inT 237 (by decide +kernel) (by decide +kernel), rfl⟩
theorem faX8_14 : gFa RX8 14 8 0 2 := ⟨(RX8, TX8, 9), rfl, by decide, uwX8, inT 245 (by decide +kernel) (by decide +kernel), rfl⟩
theorem fpX8_14 : gFp RX8 14 8 0 2 true := ⟨(RX8, TX8, 9), tyX8, rfl, by decide, uwX8, inT 245 (by decide +kernel) (by decide +kernel), rfl, tyX8_ok, nmX8, Or.inl ⟨_, rfl⟩, rfl, fun _ => rfl, by decide⟩
theorem faX8_21 : gFa RX8 21 8 1 2 := ⟨(RX8, TX8, 9), rfl, by decide, uwX8, inT 246 (by decide +kernel) (by decide +kernel), rfl⟩
theorem fpX8_21 : gFp RX8 21 8 1 2 true := ⟨(RX8, TX8, 9), tyX8, rfl, by decide, uwX8, inT 246 (by decide +kernel) (by decide +kernel), rfl, tyX8_ok, nmX8, Or.inl ⟨_, rfl⟩, rfl, fun _ => rfl, by decide⟩
theorem faX8_27 : gFa RX8 27 8 2 2 := ⟨(RX8, TX8, 9), rfl, by decide, uwX8, inT 247 (by decide +kernel) (by decide +kernel), rfl⟩
theorem fpX8_27 : gFp RX8 27 8 2 2 true := ⟨(RX8, TX8, 9), tyX8, rfl, by decide, uwX8, inT 247 (by decide +kernel) (by decide +kernel), rfl, tyX8_ok, nmX8, Or.inr ⟨_, rfl⟩, rfl, fun _ => rfl, by decide⟩
theorem faX8_34 : gFa RX8 34 8 3 2 := ⟨(RX8, TX8, 9), rfl, by decide, uwX8, inT 248 (by decide +kernel) (by decide +kernel), rfl⟩
theorem fpX8_34 : gFp RX8 34 8 3 2 true := ⟨(RX8, TX8, 9), tyX8, rfl, by decide, uwX8, inT 248 (by decide +kernel) (by decide +kernel), rfl, tyX8_ok, nmX8, Or.inl ⟨_, rfl⟩, rfl, fun _ => rfl, by decide⟩
theorem faX8_43 : gFa RX8 43 8 4 2 := ⟨(RX8, TX8, 9), rfl, by decide, uwX8, inT 249 (by decide +kernel) (by decide +kernel), rfl⟩
theorem fpX8_43 : gFp RX8 43 8 4 2 true := ⟨(RX8, TX8, 9), tyX8, rfl, by decide, uwX8, inT 249 (by decide +kernel) (by decide +kernel), rfl, tyX8_ok, nmX8, Or.inl ⟨_, rfl⟩, rfl, fun _ => rfl, by decide⟩
theorem faX8_50 : gFa RX8 50 8 5 2 := ⟨(RX8, TX8, 9), rfl, by decide, uwX8, inT 250 (by decide +kernel) (by decide +kernel), rfl⟩
theorem fpX8_50 : gFp RX8 50 8 5 2 true := ⟨(RX8, TX8, 9), tyX8, rfl, by decide, uwX8, inT 250 (by decide +kernel) (by decide +kernel), rfl, tyX8_ok, nmX8, Or.inl ⟨_, rfl⟩, rfl, fun _ => rfl, by decide⟩
theorem faX8_59 : gFa RX8 59 8 6 2 := ⟨(RX8, TX8, 9), rfl, by decide, uwX8, inT 251 (by decide +kernel) (by decide +kernel), rfl⟩
theorem fpX8_59 : gFp RX8 59 8 6 2 true := ⟨(RX8, TX8, 9), tyX8, rfl, by decide, uwX8, inT 251 (by decide +kernel) (by decide +kernel), rfl, tyX8_ok, nmX8, Or.inl ⟨_, rfl⟩, rfl, fun _ => rfl, by decide⟩
theorem faX8_68 : gFa RX8 68 8 7 2 := ⟨(RX8, TX8, 9), rfl, by decide, uwX8, inT 252 (by decide +kernel) (by decide +kernel), rfl⟩
theorem fpX8_68 : gFp RX8 68 8 7 2 true := ⟨(RX8, TX8, 9), tyX8, rfl, by decide, uwX8, inT 252 (by decide +kernel) (by decide +kernel), rfl, tyX8_ok, nmX8, Or.inl ⟨_, rfl⟩, rfl, fun _ => rfl, by decide⟩
theorem faX8_72 : gFa RX8 72 8 8 3 := ⟨(RX8, TX8, 9), rfl, by decide, uwX8, inT 253 (by decide +kernel) (by decide +kernel), rfl⟩
theorem fpX8_72 : gFp RX8 72 8 8 3 false := ⟨(RX8, TX8, 9), tyX8, rfl, by decide, uwX8, inT 253 (by decide +kernel) (by decide +kernel), rfl, tyX8_ok, nmX8, rfl, rfl, fun h => (by cases h), by decide⟩
theorem faX9_75 : gFa RX9 75 9 0 0 := ⟨(RX9, TX9, 39), rfl, by decide, uwX9, inT 763 (by decide +kernel) (by decide +kernel), rfl⟩
theorem fpX9_75 : gFp RX9 75 9 0 0 false := ⟨(RX9, TX9, 39), tyX9, rfl, by decide, uwX9, inT 763 (by decide +kernel) (by decide +kernel), rfl, tyX9_ok, nmX9, rfl, rfl, fun h => (by cases h), by decide⟩
theorem faX9_7 : gFa RX9 7 9 1 2 := ⟨(RX9, TX9, 39), rfl, by decide, uwX9, inT 764 (by decide +kernel) (by decide +kernel), rfl⟩
theorem fpX9_7 : gFp RX9 7 9 1 2 true := ⟨(RX9, TX9, 39), tyX9, rfl, by decide, uwX9, inT 764 (by decide +kernel) (by decide +kernel), rfl, tyX9_ok, nmX9, Or.inr ⟨_, rfl⟩, rfl, fun _ => rfl, by decide⟩
theorem faX9_13 : gFa RX9 13 9 2 2 := ⟨(RX9, TX9, 39), rfl, by decide, uwX9, inT 765 (by decide +kernel) (by decide +kernel), rfl⟩
theorem fpX9_13 : gFp RX9 13 9 2 2 true := ⟨(RX9, TX9, 39), tyX9, rfl, by decide, uwX9, inT 765 (by decide +kernel) (by decide +kernel), rfl, tyX9_ok, nmX9, Or.inr ⟨_, rfl⟩, rfl, fun _ => rfl, by decide⟩
theorem faX9_17 : gFa RX9 17 9 3 2 := ⟨(RX9, TX9, 39), rfl, by decide, uwX9, inT 766 (by decide +kernel) (by decide +kernel), rfl⟩
theorem fpX9_17 : gFp RX9 17 9 3 2 true := ⟨(RX9, TX9, 39), tyX9, rfl, by decide, uwX9, inT 766 (by decide +kernel) (by decide +kernel), rfl, tyX9_ok, nmX9, Or.inr ⟨_, rfl⟩, rfl, fun _ => rfl, by decide⟩
theorem faX9_78 : gFa RX9 78 9 4 0 := ⟨(RX9, TX9, 39), rfl, by decide, uwX9, inT 767 (by decide +kernel) (by decide +kernel), rfl⟩
theorem fpX9_78 : gFp RX9 78 9 4 0 false := ⟨(RX9, TX9, 39), tyX9, rfl, by decide, uwX9, inT 767 (by decide +kernel) (by decide +kernel), rfl, tyX9_ok, nmX9, rfl, rfl, fun h => (by cases h), by decide⟩
theorem faX9_20 : gFa RX9 20 9 5 2 := ⟨(RX9, TX9, 39), rfl, by decide, uwX9, inT 768 (by decide +kernel) (by decide +kernel), rfl⟩
theorem fpX9_20 : gFp RX9 20 9 5 2 true := ⟨(RX9, TX9, 39), tyX9, rfl, by decide, uwX9, inT 768 (by decide +kernel) (by decide +kernel), rfl, tyX9_ok, nmX9, Or.inr ⟨_, rfl⟩, rfl, fun _ => rfl, by decide⟩
theorem faX9_23 : gFa RX9 23 9 6 2 := ⟨(RX9, TX9, 39), rfl, by decide, uwX9, inT 769 (by decide +kernel) (by decide +kernel), rfl⟩
theorem fpX9_23 : gFp RX9 23 9 6 2 true := ⟨(RX9, TX9, 39), tyX9, rfl, by decide, uwX9, inT 769 (by decide +kernel) (by decide +kernel), rfl, tyX9_ok, nmX9, Or.inr ⟨_, rfl⟩, rfl, fun _ => rfl, by decide⟩
theorem faX9_26 : gFa RX9 26 9 7 2 := ⟨(RX9, TX9, 39), rfl, by decide, uwX9, inT 770 (by decide +kernel) (by decide +kernel), rfl⟩
theorem fpX9_26 : gFp RX9 26 9 7 2 true := ⟨(RX9, TX9, 39), tyX9, rfl, by decide, uwX9, inT 770 (by decide +kernel) (by decide +kernel), rfl, tyX9_ok, nmX9, Or.inr ⟨_, rfl⟩, rfl, fun _ => rfl, by decide⟩
theorem faX9_29 : gFa RX9 29 9 8 2 := ⟨(RX9, TX9, 39), rfl, by decide, uwX9, inT 771 (by decide +kernel) (by decide +kernel), rfl⟩
theorem fpX9_29 : gFp RX9 29 9 8 2 true := ⟨(RX9, TX9, 39), tyX9, rfl, by decide, uwX9, inT 771 (by decide +kernel) (by decide +kernel), rfl, tyX9_ok, nmX9, Or.inr ⟨_, rfl⟩, rfl, fun _ => rfl, by decide⟩
theorem faX9_32 : gFa RX9 32 9 9 0 := ⟨(RX9, TX9, 39), rfl, by decide, uwX9, inT 772 (by decide +kernel) (by decide +kernel), rfl⟩
theorem fpX9_32 : gFp RX9 32 9 9 0 false := ⟨(RX9, TX9, 39), tyX9, rfl, by decide, uwX9, inT 772 (by decide +kernel) (by decide +kernel), rfl, tyX9_ok, nmX9, rfl, rfl, fun h => (by cases h), by decide⟩
theorem faX9_36 : gFa RX9 36 9 10 2 := ⟨(RX9, TX9, 39), rfl, by decide, uwX9, inT 773 (by decide +kernel) (by decide +kernel), rfl⟩
theorem fpX9_36 : gFp RX9 36 9 10 2 true := ⟨(RX9, TX9, 39), tyX9, rfl, by decide, uwX9, inT 773 (by decide +kernel) (by decide +kernel), rfl, tyX9_ok, nmX9, Or.inr ⟨_, rfl⟩, rfl, fun _ => rfl, by decide⟩
theorem faX9_39 : gFa RX9 39 9 11 2 := ⟨(RX9, TX9, 39), rfl, by decide, uwX9, inT 774 (by decide +kernel) (by decide +kernel), rfl⟩
theorem fpX9_39 : gFp RX9 39 9 11 2 true := ⟨(RX9, TX9, 39), tyX9, rfl, by decide, uwX9, inT 774 (by decide +kernel) (by decide +kernel), rfl, tyX9_ok, nmX9, Or.inr ⟨_, rfl⟩, rfl, fun _ => rfl, by decide⟩
theorem faX9_42 : gFa RX9 42 9 12 2 := ⟨(RX9, TX9, 39), rfl, by decide, uwX9, inT 775 (by decide +kernel) (by decide +kernel), rfl⟩
theorem fpX9_42 : gFp RX9 42 9 12 2 true := ⟨(RX9, TX9, 39), tyX9, rfl, by decide, uwX9, inT 775 (by decide +kernel) (by decide +kernel), rfl, tyX9_ok, nmX9, Or.inr ⟨_, rfl⟩, rfl, fun _ => rfl, by decide⟩
theorem faX9_72 : gFa RX9 72 9 13 0 := ⟨(RX9, TX9, 39), rfl, by decide, uwX9, inT 776 (by decide +kernel) (by decide +kernel), rfl⟩
theorem fpX9_72 : gFp RX9 72 9 13 0 false := ⟨(RX9, TX9, 39), tyX9, rfl, by decide, uwX9, inT 776 (by decide +kernel) (by decide +kernel), rfl, tyX9_ok, nmX9, rfl, rfl, fun h => (by cases h), by decide⟩
theorem faX9_45 : gFa RX9 45 9 14 2 := ⟨(RX9, TX9, 39), rfl, by decide, uwX9, inT 777 (by decide +kernel) (by decide +kernel), rfl⟩
theorem fpX9_45 : gFp RX9 45 9 14 2 true := ⟨(RX9, TX9, 39), tyX9, rfl, by decide, uwX9, inT 777 (by decide +kernel) (by decide +kernel), rfl, tyX9_ok, nmX9, Or.inr ⟨_, rfl⟩, rfl, fun _ => rfl, by decide⟩
theorem faX9_48 : gFa RX9 48 9 15 2 := ⟨(RX9, TX9, 39), rfl, by decide, uwX9, inT 778 (by decide +kernel) (by decide +kernel), rfl⟩
theorem fpX9_48 : gFp RX9 48 9 15 2 true := ⟨(RX9, TX9, 39), tyX9, rfl, by decide, uwX9, inT 778 (by decide +kernel) (by decide +kernel), rfl, tyX9_ok, nmX9, Or.inr ⟨_, rfl⟩, rfl, fun _ => rfl, by decide⟩
theorem faX9_51 : gFa RX9 51 9 16 2 := ⟨(RX9, TX9, 39), rfl, by decide, uwX9, inT 779 (by decide +kernel) (by decide +kernel), rfl⟩
theorem fpX9_51 : gFp RX9 51 9 16 2 true := ⟨(RX9, TX9, 39), tyX9, rfl, by decide, uwX9, inT 779 (by decide +kernel) (by decide +kernel), rfl, tyX9_ok, nmX9, Or.inr ⟨_, rfl⟩, rfl, fun _ => rfl, by decide⟩
theorem faX9_54 : gFa RX9 54 9 17 2 := ⟨(RX9, TX9, 39), rfl, by decide, uwX9, inT 780 (by decide +kernel) (by decide +kernel), rfl⟩
theorem fpX9_54 : gFp RX9 54 9 17 2 true := ⟨(RX9, TX9, 39), tyX9, rfl, by decide, uwX9, inT 780 (by decide +kernel) (by decide +kernel), rfl, tyX9_ok, nmX9, Or.inr ⟨_, rfl⟩, rfl, fun _ => rfl, by decide⟩
theorem faX9_57 : gFa RX9 57 9 18 2 := ⟨(RX9, TX9, 39), rfl, by decide, uwX9, inT 781 (by decide +kernel) (by decide +kernel), rfl⟩
theorem fpX9_57 : gFp RX9 57 9 18 2 true := ⟨(RX9, TX9, 39), tyX9, rfl, by decide, uwX9, inT 781 (by decide +kernel) (by decide +kernel), rfl, tyX9_ok, nmX9, Or.inr ⟨_, rfl⟩, rfl, fun _ => rfl, by decide⟩
theorem faX9_60 : gFa RX9 60 9 19 2 := ⟨(RX9, TX9, 39), rfl, by decide, uwX9, inT 782 (by decide +kernel) (by decide +kernel), rfl⟩
theorem fpX9_60 : gFp RX9 60 9 19 2 true := ⟨(RX9, TX9, 39), tyX9, rfl, by decide, uwX9, inT 782 (by decide +kernel) (by decide +kernel), rfl, tyX9_ok, nmX9, Or.inr ⟨_, rfl⟩, rfl, fun _ => rfl, by decide⟩
theorem faX9_63 : gFa RX9 63 9 20 2 := ⟨(RX9, TX9, 39), rfl, by decide, uwX9, inT 783 (by decide +kernel) (by decide +kernel), rfl⟩
theorem fpX9_63 : gFp RX9 63 9 20 2 true := ⟨(RX9, TX9, 39), tyX9, rfl, by decide, uwX9, inT 783 (by decide +kernel) (by decide +kernel), rfl, tyX9_ok, nmX9, Or.inr ⟨_, rfl⟩, rfl, fun _ => rfl, by decide⟩
theorem faX9_66 : gFa RX9 66 9 21 2 := ⟨(RX9, TX9, 39), rfl, by decide, uwX9, inT 784 (by decide +kernel) (by decide +kernel), rfl⟩
theorem fpX9_66 : gFp RX9 66 9 21 2 true := ⟨(RX9, TX9, 39), tyX9, rfl, by decide, uwX9, inT 784 (by decide +kernel) (by decide +kernel), rfl, tyX9_ok, nmX9, Or.inr ⟨_, rfl⟩, rfl, fun _ => rfl, by decide⟩
theorem faX9_119 : gFa RX9 119 9 22 0 := ⟨(RX9, TX9, 39), rfl, by decide, uwX9, inT 785 (by decide +kernel) (by decide +kernel), rfl⟩
theorem fpX9_119 : gFp RX9 119 9 22 0 false := ⟨(RX9, TX9, 39), tyX9, rfl, by decide, uwX9, inT 785 (by decide +kernel) (by decide +kernel), rfl, tyX9_ok, nmX9, rfl, rfl, fun h => (by cases h), by decide⟩
theorem faX9_122 : gFa RX9 122 9 23 1 := ⟨(RX9, TX9, 39), rfl, by decide, uwX9, inT 786 (by decide +kernel) (by decide +kernel), rfl⟩
theorem fpX9_122 : gFp RX9 122 9 23 1 false := ⟨(RX9, TX9, 39), tyX9, rfl, by decide, uwX9, inT 786 (by decide +kernel) (by decide +kernel), rfl, tyX9_ok, nmX9, rfl, rfl, fun h => (by cases h), by decide⟩
theorem faX9_126 : gFa RX9 126 9 24 0 := ⟨(RX9, TX9, 39), rfl, by decide, uwX9, inT 787 (by decide +kernel) (by decide +kernel), rfl⟩
theorem fpX9_126 : gFp RX9 126 9 24 0 false := ⟨(RX9, TX9, 39), tyX9, rfl, by decide, uwX9, inT 787 (by decide +kernel) (by decide +kernel), rfl, tyX9_ok, nmX9, rfl, rfl, fun h => (by cases h), by decide⟩
theorem faX9_150 : gFa RX9 150 9 25 0 := ⟨(RX9, TX9, 39), rfl, by decide, uwX9, inT 788 (by decide +kernel) (by decide +kernel), rfl⟩
theorem fpX9_150 : gFp RX9 150 9 25 0 false := ⟨(RX9, TX9, 39), tyX9, rfl, by decide, uwX9, inT 788 (by decide +kernel) (by decide +kernel), rfl, tyX9_ok, nmX9, rfl, rfl, fun h => (by cases h), by decide⟩
theorem faX9_153 : gFa RX9 153 9 26 1 := ⟨(RX9, TX9, 39), rfl, by decide, uwX9, inT 789 (by decide +kernel) (by decide +kernel), rfl⟩
theorem fpX9_153 : gFp RX9 153 9 26 1 false := ⟨(RX9, TX9, 39), tyX9, rfl, by decide, uwX9, inT 789 (by decide +kernel) (by decide +kernel), rfl, tyX9_ok, nmX9, rfl, rfl, fun h => (by cases h), by decide⟩
theorem faX9_156 : gFa RX9 156 9 27 0 := ⟨(RX9, TX9, 39), rfl, by decide, uwX9, inT 790 (by decide +kernel) (by decide +kernel), rfl⟩
theorem fpX9_156 : gFp RX9 156 9 27 0 false := ⟨(RX9, TX9, 39), tyX9, rfl, by decide, uwX9, inT 790 (by decide +kernel) (by decide +kernel), rfl, tyX9_ok, nmX9, rfl, rfl, fun h => (by cases h), by decide⟩
theorem faX9_159 : gFa RX9 159 9 28 0 := ⟨(RX9, TX9, 39), rfl, by decide, uwX9, inT 791 (by decide +kernel) (by decide +kernel), rfl⟩
theorem fpX9_159 : gFp RX9 159 9 28 0 false := ⟨(RX9, TX9, 39), tyX9, rfl, by decide, uwX9, inT 791 (by decide +kernel) (by decide +kernel), rfl, tyX9_ok, nmX9, rfl, rfl, fun h => (by cases h), by decide⟩
theorem faX9_162 : gFa RX9 162 9 29 0 := ⟨(RX9, TX9, 39), rfl, by decide, uwX9, inT 792 (by decide +kernel) (by decide +kernel), rfl⟩
theorem fpX9_162 : gFp RX9 162 9 29 0 false := ⟨(RX9, TX9, 39), tyX9, rfl, by decide, uwX9, inT 792 (by decide +kernel) (by decide +kernel), rfl, tyX9_ok, nmX9, rfl, rfl, fun h => (by cases h), by decide⟩
theorem faX9_173 : gFa RX9 173 9 30 0 := ⟨(RX9, TX9, 39), rfl, by decide, uwX9, inT 793 (by decide +kernel) (by decide +kernel), rfl⟩
theorem fpX9_173 : gFp RX9 173 9 30 0 false := ⟨(RX9, TX9, 39), tyX9, rfl, by decide, uwX9, inT 793 (by decide +kernel) (by decide +kernel), rfl, tyX9_ok, nmX9, rfl, rfl, fun h => (by cases h), by decide⟩
theorem faX9_176 : gFa RX9 176 9 31 0 := ⟨(RX9, TX9, 39), rfl, by decide, uwX9, inT 794 (by decide +kernel) (by decide +kernel), rfl⟩
theorem fpX9_176 : gFp RX9 176 9 31 0 false := ⟨(RX9, TX9, 39), tyX9, rfl, by decide, uwX9, inT 794 (by decide +kernel) (by decide +kernel), rfl, tyX9_ok, nmX9, rfl, rfl, fun h => (by cases h), by decide⟩
theorem faX9_192 : gFa RX9 192 9 32 0 := ⟨(RX9, TX9, 39), rfl, by decide, uwX9, inT 795 (by decide +kernel) (by decide +kernel), rfl⟩
theorem fpX9_192 : gFp RX9 192 9 32 0 false := ⟨(RX9, TX9, 39), tyX9, rfl, by decide, uwX9, inT 795 (by decide +kernel) (by decide +kernel), rfl, tyX9_ok, nmX9, rfl, rfl, fun h => (by cases h), by decide⟩
theorem faX9_182 : gFa RX9 182 9 33 0 := ⟨(RX9, TX9, 39), rfl, by decide, uwX9, inT 796 (by decide +kernel) (by decide +kernel), rfl⟩
theorem fpX9_182 : gFp RX9 182 9 33 0 false := ⟨(RX9, TX9, 39), tyX9, rfl, by decide, uwX9, inT 796 (by decide +kernel) (by decide +kernel), rfl, tyX9_ok, nmX9, rfl, rfl, fun h => (by cases h), by decide⟩
theorem faX9_185 : gFa RX9 185 9 34 1 := ⟨(RX9, TX9, 39), rfl, by decide, uwX9, inT 797 (by decide +kernel) (by decide +kernel), rfl⟩
theorem fpX9_185 : gFp RX9 185 9 34 1 false := ⟨(RX9, TX9, 39), tyX9, rfl, by decide, uwX9, inT 797 (by decide +kernel) (by decide +kernel), rfl, tyX9_ok, nmX9, rfl, rfl, fun h => (by cases h), by decide⟩
theorem faX9_69 : gFa RX9 69 9 35 2 := ⟨(RX9, TX9, 39), rfl, by decide, uwX9, inT 798 (by decide +kernel) (by decide +kernel), rfl⟩
theorem fpX9_69 : gFp RX9 69 9 35 2 true := ⟨(RX9, TX9, 39), tyX9, rfl, by decide, uwX9, inT 798 (by decide +kernel) (by decide +kernel), rfl, tyX9_ok, nmX9, Or.inr ⟨_, rfl⟩, rfl, fun _ => rfl, by decide⟩
theorem faX9_211 : gFa RX9 211 9 36 0 := ⟨(RX9, TX9, 39), rfl, by decide, uwX9, inT 799 (by decide +kernel) (by decide +kernel), rfl⟩
theorem fpX9_211 : gFp RX9 211 9 36 0 false := ⟨(RX9, TX9, 39), tyX9, rfl, by decide, uwX9, inT 799 (by decide +kernel) (by decide +kernel), rfl, tyX9_ok, nmX9, rfl, rfl, fun h => (by cases h), by decide⟩
theorem faX9_214 : gFa RX9 214 9 37 1 := ⟨(RX9, TX9, 39), rfl, by decide, uwX9, inT 800 (by decide +kernel) (by decide +kernel), rfl⟩
theorem fpX9_214 : gFp RX9 214 9 37 1 false := ⟨(RX9, TX9, 39), tyX9, rfl, by decide, uwX9, inT 800 (by decide +kernel) (by decide +kernel), rfl, tyX9_ok, nmX9, rfl, rfl, fun h => (by cases h), by decide⟩
theorem faX9_226 : gFa RX9 226 9 38 1 := ⟨(RX9, TX9, 39), rfl, by decide, uwX9, inT 801 (by decide +kernel) (by decide +kernel), rfl⟩
theorem fpX9_226 : gFp RX9 226 9 38 1 false := ⟨(RX9, TX9, 39), tyX9, rfl, by decide, uwX9, inT 801 (by decide +kernel) (by decide +kernel), rfl, tyX9_ok, nmX9, rfl, rfl, fun h => (by cases h), by decide⟩
theorem cwL_9 : gCw RL 9 mX8_init 0 := ⟨inT 16 (by decide +kernel) (by decide +kernel), cdX8_init, iniX8, pdX8_init⟩
theorem oiX8_5 : Cond.methodLink RX8 5 Lib.objectInit ∈ gTb ∧ Cond.instanceMethod Lib.objectInit ∈ gTb ∧ Cond.code Lib.objectInit ⟨#[0xb1]⟩ 1 none ∈ gTb := ⟨inT 19 (by decide +kernel) (by decide +kernel), inT 20 (by decide +kernel) (by decide +kernel), inT 21 (by decide +kernel) (by decide +kernel)⟩
theorem oiX6_3 : Cond.methodLink RX6 3 Lib.objectInit ∈ gTb ∧ Cond.instanceMethod Lib.objectInit ∈ gTb ∧ Cond.code Lib.objectInit ⟨#[0xb1]⟩ 1 none ∈ gTb := ⟨inT 27 (by decide +kernel) (by decide +kernel), inT 20 (by decide +kernel) (by decide +kernel), inT 21 (by decide +kernel) (by decide +kernel)⟩
theorem cwX8_20 : gCw RX8 20 mX2_init 0 := ⟨inT 79 (by decide +kernel) (by decide +kernel), cdX2_init, iniX2, pdX2_init⟩
theorem oiX2_3 : Cond.methodLink RX2 3 Lib.objectInit ∈ gTb ∧ Cond.instanceMethod Lib.objectInit ∈ gTb ∧ Cond.code Lib.objectInit ⟨#[0xb1]⟩ 1 none ∈ gTb := ⟨inT 82 (by decide +kernel) (by decide +kernel), inT 20 (by decide +kernel) (by decide +kernel), inT 21 (by decide +kernel) (by decide +kernel)⟩
theorem oiX7_3 : Cond.methodLink RX7 3 Lib.objectInit ∈ gTb ∧ Cond.instanceMethod Lib.objectInit ∈ gTb ∧ Cond.code Lib.objectInit ⟨#[0xb1]⟩ 1 none ∈ gTb := ⟨inT 104 (by decide +kernel) (by decide +kernel), inT 20 (by decide +kernel) (by decide +kernel), inT 21 (by decide +kernel) (by decide +kernel)⟩
theorem cwX8_40 : gCw RX8 40 mX3_init 1 := ⟨inT 111 (by decide +kernel) (by decide +kernel), cdX3_init, iniX3, pdX3_init⟩
theorem oiX3_3 : Cond.methodLink RX3 3 Lib.objectInit ∈ gTb ∧ Cond.instanceMethod Lib.objectInit ∈ gTb ∧ Cond.code Lib.objectInit ⟨#[0xb1]⟩ 1 none ∈ gTb := ⟨inT 114 (by decide +kernel) (by decide +kernel), inT 20 (by decide +kernel) (by decide +kernel), inT 21 (by decide +kernel) (by decide +kernel)⟩
theorem oiX5_3 : Cond.methodLink RX5 3 Lib.objectInit ∈ gTb ∧ Cond.instanceMethod Lib.objectInit ∈ gTb ∧ Cond.code Lib.objectInit ⟨#[0xb1]⟩ 1 none ∈ gTb := ⟨inT 137 (by decide +kernel) (by decide +kernel), inT 20 (by decide +kernel) (by decide +kernel), inT 21 (by decide +kernel) (by decide +kernel)⟩
theorem cwX8_56 : gCw RX8 56 mX0_init 1 := ⟨inT 181 (by decide +kernel) (by decide +kernel), cdX0_init, iniX0, pdX0_init⟩
theorem oiX0_3 : Cond.methodLink RX0 3 Lib.objectInit ∈ gTb ∧ Cond.instanceMethod Lib.objectInit ∈ gTb ∧ Cond.code Lib.objectInit ⟨#[0xb1]⟩ 1 none ∈ gTb := ⟨inT 184 (by decide +kernel) (by decide +kernel), inT 20 (by decide +kernel) (by decide +kernel), inT 21 (by decide +kernel) (by decide +kernel)⟩
theorem cwX8_65 : gCw RX8 65 mX4_init 2 := ⟨inT 201 (by decide +kernel) (by decide +kernel), cdX4_init, iniX4, pdX4_init⟩
theorem oiX4_3 : Cond.methodLink RX4 3 Lib.objectInit ∈ gTb ∧ Cond.instanceMethod Lib.objectInit ∈ gTb ∧ Cond.code Lib.objectInit ⟨#[0xb1]⟩ 1 none ∈ gTb := ⟨inT 204 (by decide +kernel) (by decide +kernel), inT 20 (by decide +kernel) (by decide +kernel), inT 21 (by decide +kernel) (by decide +kernel)⟩
theorem oiX1_3 : Cond.methodLink RX1 3 Lib.objectInit ∈ gTb ∧ Cond.instanceMethod Lib.objectInit ∈ gTb ∧ Cond.code Lib.objectInit ⟨#[0xb1]⟩ 1 none ∈ gTb := ⟨inT 231 (by decide +kernel) (by decide +kernel), inT 20 (by decide +kernel) (by decide +kernel), inT 21 (by decide +kernel) (by decide +kernel)⟩
theorem cwL_13 : gCw RL 13 mX8_village 1 := ⟨inT 273 (by decide +kernel) (by decide +kernel), cdX8_village, iniX8, pdX8_village⟩
theorem cwX8_79 : gCw RX8 79 mX8_isWithin 3 := ⟨inT 278 (by decide +kernel) (by decide +kernel), cdX8_isWithin, iniX8, pdX8_isWithin⟩
theorem cwX8_87 : gCw RX8 87 mX2_open 1 := ⟨inT 281 (by decide +kernel) (by decide +kernel), cdX2_open, iniX2, pdX2_open⟩
theorem cwX2_25 : gCw RX2 25 mX6_copyFrom 1 := ⟨inT 285 (by decide +kernel) (by decide +kernel), cdX6_copyFrom, iniX6, pdX6_copyFrom⟩
theorem cpX6_54 : Cond.methodLink RX6 54 arraycopyName ∈ gTb ∧ Cond.native arraycopyName ∈ gTb ∧ Cond.static arraycopyName ∈ gTb ∧ Cond.initialized "java/lang/System" ∈ gTb := ⟨inT 289 (by decide +kernel) (by decide +kernel), inT 291 (by decide +kernel) (by decide +kernel), inT 290 (by decide +kernel) (by decide +kernel), iniSys⟩
theorem cwX8_90 : gCw RX8 90 mX6_settle 1 := ⟨inT 292 (by decide +kernel) (by decide +kernel), cdX6_settle, iniX6, pdX6_settle⟩
theorem cwX8_94 : gCw RX8 94 mX8_keepChange 0 := ⟨inT 296 (by decide +kernel) (by decide +kernel), cdX8_keepChange, iniX8, pdX8_keepChange⟩
theorem cwX8_323 : gCw RX8 323 mX2_close 1 := ⟨inT 300 (by decide +kernel) (by decide +kernel), cdX2_close, iniX2, pdX2_close⟩
theorem cwX2_29 : gCw RX2 29 mX6_isLike 1 := ⟨inT 304 (by decide +kernel) (by decide +kernel), cdX6_isLike, iniX6, pdX6_isLike⟩
theorem cwX6_60 : gCw RX6 60 mX6_sameRows 2 := ⟨inT 308 (by decide +kernel) (by decide +kernel), cdX6_sameRows, iniX6, pdX6_sameRows⟩
theorem cwX2_33 : gCw RX2 33 mJ9_min_7cf53 2 := ⟨inT 311 (by decide +kernel) (by decide +kernel), cdJ9_min_7cf53, iniJ9, pdJ9_min_7cf53⟩
theorem cwX8_307 : gCw RX8 307 mX8_workOut 0 := ⟨inT 314 (by decide +kernel) (by decide +kernel), cdX8_workOut, iniX8, pdX8_workOut⟩
theorem cwX8_327 : gCw RX8 327 mX7_measure 1 := ⟨inT 318 (by decide +kernel) (by decide +kernel), cdX7_measure, iniX7, pdX7_measure⟩
theorem cwX7_15 : gCw RX7 15 mX7_takeRoads 1 := ⟨inT 322 (by decide +kernel) (by decide +kernel), cdX7_takeRoads, iniX7, pdX7_takeRoads⟩
theorem cwX7_29 : gCw RX7 29 mX6_lengthOf 2 := ⟨inT 326 (by decide +kernel) (by decide +kernel), cdX6_lengthOf, iniX6, pdX6_lengthOf⟩
theorem cwX7_25 : gCw RX7 25 mX7_shorten 3 := ⟨inT 331 (by decide +kernel) (by decide +kernel), cdX7_shorten, iniX7, pdX7_shorten⟩
theorem cwX7_34 : gCw RX7 34 mX7_between 2 := ⟨inT 335 (by decide +kernel) (by decide +kernel), cdX7_between, iniX7, pdX7_between⟩
theorem cwX8_330 : gCw RX8 330 mX3_carry 1 := ⟨inT 339 (by decide +kernel) (by decide +kernel), cdX3_carry, iniX3, pdX3_carry⟩
theorem cwX3_26 : gCw RX3 26 mX6_placesOfKind 1 := ⟨inT 343 (by decide +kernel) (by decide +kernel), cdX6_placesOfKind, iniX6, pdX6_placesOfKind⟩
theorem cwX3_41 : gCw RX3 41 mX7_between 2 := ⟨inT 347 (by decide +kernel) (by decide +kernel), cdX7_between, iniX7, pdX7_between⟩
theorem cwX3_47 : gCw RX3 47 mX3_carriedOver 2 := ⟨inT 348 (by decide +kernel) (by decide +kernel), cdX3_carriedOver, iniX3, pdX3_carriedOver⟩
theorem cwL_18 : gCw RL 18 mX8_loaves 2 := ⟨inT 353 (by decide +kernel) (by decide +kernel), cdX8_loaves, iniX8, pdX8_loaves⟩
theorem cwX8_97 : gCw RX8 97 mX6_hasVillage 1 := ⟨inT 357 (by decide +kernel) (by decide +kernel), cdX6_hasVillage, iniX6, pdX6_hasVillage⟩
theorem cwL_23 : gCw RL 23 mX8_road 3 := ⟨inT 362 (by decide +kernel) (by decide +kernel), cdX8_road, iniX8, pdX8_road⟩
theorem cwX8_105 : gCw RX8 105 mX6_takesRoad 3 := ⟨inT 366 (by decide +kernel) (by decide +kernel), cdX6_takesRoad, iniX6, pdX6_takesRoad⟩
theorem cwX6_44 : gCw RX6 44 mX6_hasVillage 1 := ⟨inT 370 (by decide +kernel) (by decide +kernel), cdX6_hasVillage, iniX6, pdX6_hasVillage⟩
theorem cwX8_108 : gCw RX8 108 mX6_lengthOf 2 := ⟨inT 372 (by decide +kernel) (by decide +kernel), cdX6_lengthOf, iniX6, pdX6_lengthOf⟩
theorem cwX8_112 : gCw RX8 112 mX6_pave 3 := ⟨inT 373 (by decide +kernel) (by decide +kernel), cdX6_pave, iniX6, pdX6_pave⟩
theorem cwL_28 : gCw RL 28 mX8_place 3 := ⟨inT 377 (by decide +kernel) (by decide +kernel), cdX8_place, iniX8, pdX8_place⟩
theorem cwX8_123 : gCw RX8 123 mX6_stake 3 := ⟨inT 383 (by decide +kernel) (by decide +kernel), cdX6_stake, iniX6, pdX6_stake⟩
theorem cwL_32 : gCw RL 32 mX8_reach 2 := ⟨inT 387 (by decide +kernel) (by decide +kernel), cdX8_reach, iniX8, pdX8_reach⟩
theorem cwX8_127 : gCw RX8 127 mX6_hasPlace 1 := ⟨inT 391 (by decide +kernel) (by decide +kernel), cdX6_hasPlace, iniX6, pdX6_hasPlace⟩
theorem cwL_36 : gCw RL 36 mX8_number 1 := ⟨inT 396 (by decide +kernel) (by decide +kernel), cdX8_number, iniX8, pdX8_number⟩
theorem cwL_40 : gCw RL 40 mX8_map 3 := ⟨inT 401 (by decide +kernel) (by decide +kernel), cdX8_map, iniX8, pdX8_map⟩
theorem cwX8_144 : gCw RX8 144 mX8_isMap 1 := ⟨inT 405 (by decide +kernel) (by decide +kernel), cdX8_isMap, iniX8, pdX8_isMap⟩
theorem cwX8_147 : gCw RX8 147 mX8_isLane 1 := ⟨inT 409 (by decide +kernel) (by decide +kernel), cdX8_isLane, iniX8, pdX8_isLane⟩
theorem cwX8_150 : gCw RX8 150 mX1_renew 2 := ⟨inT 413 (by decide +kernel) (by decide +kernel), cdX1_renew, iniX1, pdX1_renew⟩
theorem cwL_46 : gCw RL 46 mX8_lay 3 := ⟨inT 417 (by decide +kernel) (by decide +kernel), cdX8_lay, iniX8, pdX8_lay⟩
theorem cwX8_160 : gCw RX8 160 mX1_write 2 := ⟨inT 421 (by decide +kernel) (by decide +kernel), cdX1_write, iniX1, pdX1_write⟩
theorem cwL_51 : gCw RL 51 mX8_draw 3 := ⟨inT 425 (by decide +kernel) (by decide +kernel), cdX8_draw, iniX8, pdX8_draw⟩
theorem cwX8_164 : gCw RX8 164 mX8_refusalToDraw 3 := ⟨inT 429 (by decide +kernel) (by decide +kernel), cdX8_refusalToDraw, iniX8, pdX8_refusalToDraw⟩
theorem cwX8_337 : gCw RX8 337 mX1_holdsRoad 1 := ⟨inT 433 (by decide +kernel) (by decide +kernel), cdX1_holdsRoad, iniX1, pdX1_holdsRoad⟩
theorem cwX8_168 : gCw RX8 168 mX8_paveFrom 2 := ⟨inT 437 (by decide +kernel) (by decide +kernel), cdX8_paveFrom, iniX8, pdX8_paveFrom⟩
theorem cwL_55 : gCw RL 55 mX8_apart 2 := ⟨inT 441 (by decide +kernel) (by decide +kernel), cdX8_apart, iniX8, pdX8_apart⟩
theorem cwX8_172 : gCw RX8 172 mX7_between 2 := ⟨inT 445 (by decide +kernel) (by decide +kernel), cdX7_between, iniX7, pdX7_between⟩
theorem cwL_59 : gCw RL 59 mX8_way 3 := ⟨inT 447 (by decide +kernel) (by decide +kernel), cdX8_way, iniX8, pdX8_way⟩
theorem cwX8_176 : gCw RX8 176 mX7_villageAt 4 := ⟨inT 451 (by decide +kernel) (by decide +kernel), cdX7_villageAt, iniX7, pdX7_villageAt⟩
theorem cwX7_37 : gCw RX7 37 mX7_nextOf 3 := ⟨inT 455 (by decide +kernel) (by decide +kernel), cdX7_nextOf, iniX7, pdX7_nextOf⟩
theorem cwL_63 : gCw RL 63 mX8_allowed 1 := ⟨inT 459 (by decide +kernel) (by decide +kernel), cdX8_allowed, iniX8, pdX8_allowed⟩
theorem cwX8_180 : gCw RX8 180 mX3_isChoice 1 := ⟨inT 463 (by decide +kernel) (by decide +kernel), cdX3_isChoice, iniX3, pdX3_isChoice⟩
theorem cwX8_183 : gCw RX8 183 mX3_mayStand 1 := ⟨inT 467 (by decide +kernel) (by decide +kernel), cdX3_mayStand, iniX3, pdX3_mayStand⟩
theorem cwX3_57 : gCw RX3 57 mJ6_bitCount_0f7a4 1 := ⟨inT 471 (by decide +kernel) (by decide +kernel), cdJ6_bitCount_0f7a4, iniJ6, pdJ6_bitCount_0f7a4⟩
theorem cwL_67 : gCw RL 67 mX8_cost 1 := ⟨inT 477 (by decide +kernel) (by decide +kernel), cdX8_cost, iniX8, pdX8_cost⟩
theorem cwX8_188 : gCw RX8 188 mX3_measureOf 1 := ⟨inT 482 (by decide +kernel) (by decide +kernel), cdX3_measureOf, iniX3, pdX3_measureOf⟩
theorem cwX3_72 : gCw RX3 72 mX6_ovenCost 1 := ⟨inT 489 (by decide +kernel) (by decide +kernel), cdX6_ovenCost, iniX6, pdX6_ovenCost⟩
theorem cwX3_78 : gCw RX3 78 mX3_ovenFor 2 := ⟨inT 493 (by decide +kernel) (by decide +kernel), cdX3_ovenFor, iniX3, pdX3_ovenFor⟩
theorem cwX3_69 : gCw RX3 69 mX3_carriedTo 2 := ⟨inT 497 (by decide +kernel) (by decide +kernel), cdX3_carriedTo, iniX3, pdX3_carriedTo⟩
theorem cwL_72 : gCw RL 72 mX8_served 2 := ⟨inT 504 (by decide +kernel) (by decide +kernel), cdX8_served, iniX8, pdX8_served⟩
theorem cwX8_196 : gCw RX8 196 mX3_ovenFor 2 := ⟨inT 508 (by decide +kernel) (by decide +kernel), cdX3_ovenFor, iniX3, pdX3_ovenFor⟩
theorem cwL_76 : gCw RL 76 mX8_share 3 := ⟨inT 509 (by decide +kernel) (by decide +kernel), cdX8_share, iniX8, pdX8_share⟩
theorem cwX8_201 : gCw RX8 201 mX8_isIn 2 := ⟨inT 513 (by decide +kernel) (by decide +kernel), cdX8_isIn, iniX8, pdX8_isIn⟩
theorem cwX8_205 : gCw RX8 205 mX3_villagesOf 2 := ⟨inT 514 (by decide +kernel) (by decide +kernel), cdX3_villagesOf, iniX3, pdX3_villagesOf⟩
theorem cwX3_83 : gCw RX3 83 mX3_feeds 3 := ⟨inT 518 (by decide +kernel) (by decide +kernel), cdX3_feeds, iniX3, pdX3_feeds⟩
theorem cwX8_208 : gCw RX8 208 mX3_loavesOf 2 := ⟨inT 522 (by decide +kernel) (by decide +kernel), cdX3_loavesOf, iniX3, pdX3_loavesOf⟩
theorem cwX8_211 : gCw RX8 211 mX3_farthestOf 2 := ⟨inT 526 (by decide +kernel) (by decide +kernel), cdX3_farthestOf, iniX3, pdX3_farthestOf⟩
theorem cwX3_87 : gCw RX3 87 mJ9_max_7cf53 2 := ⟨inT 530 (by decide +kernel) (by decide +kernel), cdJ9_max_7cf53, iniJ9, pdJ9_max_7cf53⟩
theorem cwL_80 : gCw RL 80 mX8_least 0 := ⟨inT 533 (by decide +kernel) (by decide +kernel), cdX8_least, iniX8, pdX8_least⟩
theorem cwX8_214 : gCw RX8 214 mX8_surveyChoices 0 := ⟨inT 537 (by decide +kernel) (by decide +kernel), cdX8_surveyChoices, iniX8, pdX8_surveyChoices⟩
theorem cwX8_334 : gCw RX8 334 mX5_take 1 := ⟨inT 541 (by decide +kernel) (by decide +kernel), cdX5_take, iniX5, pdX5_take⟩
theorem cwX5_15 : gCw RX5 15 mX5_forget 0 := ⟨inT 545 (by decide +kernel) (by decide +kernel), cdX5_forget, iniX5, pdX5_forget⟩
theorem cwX5_30 : gCw RX5 30 mX3_mayStand 1 := ⟨inT 551 (by decide +kernel) (by decide +kernel), cdX3_mayStand, iniX3, pdX3_mayStand⟩
theorem cwX5_34 : gCw RX5 34 mX3_measureOf 1 := ⟨inT 552 (by decide +kernel) (by decide +kernel), cdX3_measureOf, iniX3, pdX3_measureOf⟩
theorem cwX5_40 : gCw RX5 40 mX5_noteCost 2 := ⟨inT 554 (by decide +kernel) (by decide +kernel), cdX5_noteCost, iniX5, pdX5_noteCost⟩
theorem cwX5_44 : gCw RX5 44 mX5_noteLosses 2 := ⟨inT 558 (by decide +kernel) (by decide +kernel), cdX5_noteLosses, iniX5, pdX5_noteLosses⟩
theorem cwX5_90 : gCw RX5 90 mJ9_min_f86c9 2 := ⟨inT 563 (by decide +kernel) (by decide +kernel), cdJ9_min_f86c9, iniJ9, pdJ9_min_f86c9⟩
theorem cwX5_47 : gCw RX5 47 mX3_farthestOfAll 1 := ⟨inT 566 (by decide +kernel) (by decide +kernel), cdX3_farthestOfAll, iniX3, pdX3_farthestOfAll⟩
theorem cwX5_51 : gCw RX5 51 mX5_noteFar 2 := ⟨inT 570 (by decide +kernel) (by decide +kernel), cdX5_noteFar, iniX5, pdX5_noteFar⟩
theorem cwL_85 : gCw RL 85 mX8_best 0 := ⟨inT 574 (by decide +kernel) (by decide +kernel), cdX8_best, iniX8, pdX8_best⟩
theorem cwL_90 : gCw RL 90 mX8_many 0 := ⟨inT 578 (by decide +kernel) (by decide +kernel), cdX8_many, iniX8, pdX8_many⟩
theorem cwL_94 : gCw RL 94 mX8_every 1 := ⟨inT 582 (by decide +kernel) (by decide +kernel), cdX8_every, iniX8, pdX8_every⟩
theorem cwL_98 : gCw RL 98 mX8_second 1 := ⟨inT 586 (by decide +kernel) (by decide +kernel), cdX8_second, iniX8, pdX8_second⟩
theorem cwL_102 : gCw RL 102 mX8_lose 1 := ⟨inT 590 (by decide +kernel) (by decide +kernel), cdX8_lose, iniX8, pdX8_lose⟩
theorem cwL_106 : gCw RL 106 mX8_worst 0 := ⟨inT 596 (by decide +kernel) (by decide +kernel), cdX8_worst, iniX8, pdX8_worst⟩
theorem cwX8_244 : gCw RX8 244 mX5_dearestLoss 1 := ⟨inT 600 (by decide +kernel) (by decide +kernel), cdX5_dearestLoss, iniX5, pdX5_dearestLoss⟩
theorem cwL_110 : gCw RL 110 mX8_farthest 0 := ⟨inT 605 (by decide +kernel) (by decide +kernel), cdX8_farthest, iniX8, pdX8_farthest⟩
theorem cwL_114 : gCw RL 114 mX8_nearest 0 := ⟨inT 609 (by decide +kernel) (by decide +kernel), cdX8_nearest, iniX8, pdX8_nearest⟩
theorem cwL_118 : gCw RL 118 mX8_added 0 := ⟨inT 613 (by decide +kernel) (by decide +kernel), cdX8_added, iniX8, pdX8_added⟩
theorem cwX8_257 : gCw RX8 257 mX0_putUp 0 := ⟨inT 617 (by decide +kernel) (by decide +kernel), cdX0_putUp, iniX0, pdX0_putUp⟩
theorem cwX0_31 : gCw RX0 31 mX0_withOneMore 1 := ⟨inT 621 (by decide +kernel) (by decide +kernel), cdX0_withOneMore, iniX0, pdX0_withOneMore⟩
theorem cwX0_38 : gCw RX0 38 mX0_startFrom 1 := ⟨inT 625 (by decide +kernel) (by decide +kernel), cdX0_startFrom, iniX0, pdX0_startFrom⟩
theorem cwX0_58 : gCw RX0 58 mX3_measureOf 1 := ⟨inT 629 (by decide +kernel) (by decide +kernel), cdX3_measureOf, iniX3, pdX3_measureOf⟩
theorem cwX0_55 : gCw RX0 55 mX0_consider 1 := ⟨inT 631 (by decide +kernel) (by decide +kernel), cdX0_consider, iniX0, pdX0_consider⟩
theorem cwX0_62 : gCw RX0 62 mX3_mayStand 1 := ⟨inT 635 (by decide +kernel) (by decide +kernel), cdX3_mayStand, iniX3, pdX3_mayStand⟩
theorem cwL_122 : gCw RL 122 mX8_changed 1 := ⟨inT 636 (by decide +kernel) (by decide +kernel), cdX8_changed, iniX8, pdX8_changed⟩
theorem cwX8_261 : gCw RX8 261 mX0_improve 1 := ⟨inT 640 (by decide +kernel) (by decide +kernel), cdX0_improve, iniX0, pdX0_improve⟩
theorem cwX0_35 : gCw RX0 35 mX0_withOneForAnother 1 := ⟨inT 644 (by decide +kernel) (by decide +kernel), cdX0_withOneForAnother, iniX0, pdX0_withOneForAnother⟩
theorem cwL_126 : gCw RL 126 mX8_moves 0 := ⟨inT 648 (by decide +kernel) (by decide +kernel), cdX8_moves, iniX8, pdX8_moves⟩
theorem cwL_130 : gCw RL 130 mX8_price 2 := ⟨inT 652 (by decide +kernel) (by decide +kernel), cdX8_price, iniX8, pdX8_price⟩
theorem cwL_134 : gCw RL 134 mX8_priced 1 := ⟨inT 657 (by decide +kernel) (by decide +kernel), cdX8_priced, iniX8, pdX8_priced⟩
theorem cwL_138 : gCw RL 138 mX8_gives 2 := ⟨inT 661 (by decide +kernel) (by decide +kernel), cdX8_gives, iniX8, pdX8_gives⟩
theorem cwX8_272 : gCw RX8 272 mX4_giftOf 2 := ⟨inT 665 (by decide +kernel) (by decide +kernel), cdX4_giftOf, iniX4, pdX4_giftOf⟩
theorem cwX4_34 : gCw RX4 34 mX3_carriedTo 2 := ⟨inT 669 (by decide +kernel) (by decide +kernel), cdX3_carriedTo, iniX3, pdX3_carriedTo⟩
theorem cwX4_47 : gCw RX4 47 mJ9_max_f86c9 2 := ⟨inT 671 (by decide +kernel) (by decide +kernel), cdJ9_max_f86c9, iniJ9, pdJ9_max_f86c9⟩
theorem cwL_143 : gCw RL 143 mX8_worth 1 := ⟨inT 674 (by decide +kernel) (by decide +kernel), cdX8_worth, iniX8, pdX8_worth⟩
theorem cwX8_276 : gCw RX8 276 mX4_worthOf 1 := ⟨inT 678 (by decide +kernel) (by decide +kernel), cdX4_worthOf, iniX4, pdX4_worthOf⟩
theorem cwX4_53 : gCw RX4 53 mX6_ovenCost 1 := ⟨inT 682 (by decide +kernel) (by decide +kernel), cdX6_ovenCost, iniX6, pdX6_ovenCost⟩
theorem cwX4_60 : gCw RX4 60 mX4_giftOf 2 := ⟨inT 683 (by decide +kernel) (by decide +kernel), cdX4_giftOf, iniX4, pdX4_giftOf⟩
theorem cwL_147 : gCw RL 147 mX8_bound 0 := ⟨inT 684 (by decide +kernel) (by decide +kernel), cdX8_bound, iniX8, pdX8_bound⟩
theorem cwX8_279 : gCw RX8 279 mX4_findTop 0 := ⟨inT 688 (by decide +kernel) (by decide +kernel), cdX4_findTop, iniX4, pdX4_findTop⟩
theorem cwX4_64 : gCw RX4 64 mX4_addUpWorths 0 := ⟨inT 692 (by decide +kernel) (by decide +kernel), cdX4_addUpWorths, iniX4, pdX4_addUpWorths⟩
theorem cwX4_74 : gCw RX4 74 mX4_worthOf 1 := ⟨inT 696 (by decide +kernel) (by decide +kernel), cdX4_worthOf, iniX4, pdX4_worthOf⟩
theorem cwX4_70 : gCw RX4 70 mX3_mayStand 1 := ⟨inT 697 (by decide +kernel) (by decide +kernel), cdX3_mayStand, iniX3, pdX3_mayStand⟩
theorem cwX8_285 : gCw RX8 285 mX4_boundOfTop 0 := ⟨inT 698 (by decide +kernel) (by decide +kernel), cdX4_boundOfTop, iniX4, pdX4_boundOfTop⟩
theorem cwL_151 : gCw RL 151 mX8_climb 2 := ⟨inT 702 (by decide +kernel) (by decide +kernel), cdX8_climb, iniX8, pdX8_climb⟩
theorem cwX8_291 : gCw RX8 291 mX4_climbFromTop 2 := ⟨inT 707 (by decide +kernel) (by decide +kernel), cdX4_climbFromTop, iniX4, pdX4_climbFromTop⟩
theorem cwX4_78 : gCw RX4 78 mX4_boundOfTop 0 := ⟨inT 711 (by decide +kernel) (by decide +kernel), cdX4_boundOfTop, iniX4, pdX4_boundOfTop⟩
theorem cwX4_82 : gCw RX4 82 mX4_movePrices 1 := ⟨inT 712 (by decide +kernel) (by decide +kernel), cdX4_movePrices, iniX4, pdX4_movePrices⟩
theorem cwX4_88 : gCw RX4 88 mX4_giversOfTop 1 := ⟨inT 716 (by decide +kernel) (by decide +kernel), cdX4_giversOfTop, iniX4, pdX4_giversOfTop⟩
theorem cwX4_91 : gCw RX4 91 mX4_movedPrice 3 := ⟨inT 721 (by decide +kernel) (by decide +kernel), cdX4_movedPrice, iniX4, pdX4_movedPrice⟩
theorem cwX4_97 : gCw RX4 97 mJ9_min_f86c9 2 := ⟨inT 725 (by decide +kernel) (by decide +kernel), cdJ9_min_f86c9, iniJ9, pdJ9_min_f86c9⟩
theorem cwX4_85 : gCw RX4 85 mX4_findTop 0 := ⟨inT 726 (by decide +kernel) (by decide +kernel), cdX4_findTop, iniX4, pdX4_findTop⟩
theorem cwL_155 : gCw RL 155 mX8_highest 0 := ⟨inT 727 (by decide +kernel) (by decide +kernel), cdX8_highest, iniX8, pdX8_highest⟩
theorem cwL_159 : gCw RL 159 mX8_undo 0 := ⟨inT 731 (by decide +kernel) (by decide +kernel), cdX8_undo, iniX8, pdX8_undo⟩
theorem cwX8_300 : gCw RX8 300 mX2_turnBack 1 := ⟨inT 735 (by decide +kernel) (by decide +kernel), cdX2_turnBack, iniX2, pdX2_turnBack⟩
theorem cwX8_303 : gCw RX8 303 mX4_forgetFrom 1 := ⟨inT 739 (by decide +kernel) (by decide +kernel), cdX4_forgetFrom, iniX4, pdX4_forgetFrom⟩
theorem cwL_163 : gCw RL 163 mX8_count 1 := ⟨inT 743 (by decide +kernel) (by decide +kernel), cdX8_count, iniX8, pdX8_count⟩
theorem cwX8_310 : gCw RX8 310 mX6_roads 0 := ⟨inT 747 (by decide +kernel) (by decide +kernel), cdX6_roads, iniX6, pdX6_roads⟩
theorem cwX6_50 : gCw RX6 50 mX6_lengthOf 2 := ⟨inT 751 (by decide +kernel) (by decide +kernel), cdX6_lengthOf, iniX6, pdX6_lengthOf⟩
theorem cwX8_313 : gCw RX8 313 mX6_allLoaves 0 := ⟨inT 752 (by decide +kernel) (by decide +kernel), cdX6_allLoaves, iniX6, pdX6_allLoaves⟩
theorem cwX8_316 : gCw RX8 316 mJ6_bitCount_0f7a4 1 := ⟨inT 756 (by decide +kernel) (by decide +kernel), cdJ6_bitCount_0f7a4, iniJ6, pdJ6_bitCount_0f7a4⟩
theorem cwL_12 : gCw RL 12 mX9_init 0 := ⟨inT 759 (by decide +kernel) (by decide +kernel), cdX9_init, iniX9, pdX9_init⟩
theorem oiX9_1 : Cond.methodLink RX9 1 Lib.objectInit ∈ gTb ∧ Cond.instanceMethod Lib.objectInit ∈ gTb ∧ Cond.code Lib.objectInit ⟨#[0xb1]⟩ 1 none ∈ gTb := ⟨inT 762 (by decide +kernel) (by decide +kernel), inT 20 (by decide +kernel) (by decide +kernel), inT 21 (by decide +kernel) (by decide +kernel)⟩
theorem cwL_162 : gCw RL 162 mX9_undo 0 := ⟨inT 881 (by decide +kernel) (by decide +kernel), cdX9_undo, iniX9, pdX9_undo⟩
theorem cwL_17 : gCw RL 17 mX9_village 1 := ⟨inT 885 (by decide +kernel) (by decide +kernel), cdX9_village, iniX9, pdX9_village⟩
theorem cwX9_81 : gCw RX9 81 mX9_in 3 := ⟨inT 890 (by decide +kernel) (by decide +kernel), cdX9_in, iniX9, pdX9_in⟩
theorem cwX9_87 : gCw RX9 87 mX9_keep 0 := ⟨inT 893 (by decide +kernel) (by decide +kernel), cdX9_keep, iniX9, pdX9_keep⟩
theorem cwL_22 : gCw RL 22 mX9_loaves 2 := ⟨inT 897 (by decide +kernel) (by decide +kernel), cdX9_loaves, iniX9, pdX9_loaves⟩
theorem cwX9_90 : gCw RX9 90 mX9_isVillage 1 := ⟨inT 901 (by decide +kernel) (by decide +kernel), cdX9_isVillage, iniX9, pdX9_isVillage⟩
theorem cwL_27 : gCw RL 27 mX9_road 3 := ⟨inT 905 (by decide +kernel) (by decide +kernel), cdX9_road, iniX9, pdX9_road⟩
theorem cwX9_94 : gCw RX9 94 mX9_isRoad 3 := ⟨inT 909 (by decide +kernel) (by decide +kernel), cdX9_isRoad, iniX9, pdX9_isRoad⟩
theorem cwL_31 : gCw RL 31 mX9_place 3 := ⟨inT 913 (by decide +kernel) (by decide +kernel), cdX9_place, iniX9, pdX9_place⟩
theorem cwL_35 : gCw RL 35 mX9_reach 2 := ⟨inT 919 (by decide +kernel) (by decide +kernel), cdX9_reach, iniX9, pdX9_reach⟩
theorem cwX9_101 : gCw RX9 101 mX9_isPlace 1 := ⟨inT 923 (by decide +kernel) (by decide +kernel), cdX9_isPlace, iniX9, pdX9_isPlace⟩
theorem cwL_39 : gCw RL 39 mX9_number 1 := ⟨inT 928 (by decide +kernel) (by decide +kernel), cdX9_number, iniX9, pdX9_number⟩
theorem cwL_43 : gCw RL 43 mX9_map 3 := ⟨inT 933 (by decide +kernel) (by decide +kernel), cdX9_map, iniX9, pdX9_map⟩
theorem cwL_50 : gCw RL 50 mX9_lay 3 := ⟨inT 939 (by decide +kernel) (by decide +kernel), cdX9_lay, iniX9, pdX9_lay⟩
theorem cwL_54 : gCw RL 54 mX9_draw 3 := ⟨inT 943 (by decide +kernel) (by decide +kernel), cdX9_draw, iniX9, pdX9_draw⟩
theorem cwL_58 : gCw RL 58 mX9_apart 2 := ⟨inT 947 (by decide +kernel) (by decide +kernel), cdX9_apart, iniX9, pdX9_apart⟩
theorem cwX9_112 : gCw RX9 112 mX9_findWays 0 := ⟨inT 951 (by decide +kernel) (by decide +kernel), cdX9_findWays, iniX9, pdX9_findWays⟩
theorem cwL_62 : gCw RL 62 mX9_way 3 := ⟨inT 955 (by decide +kernel) (by decide +kernel), cdX9_way, iniX9, pdX9_way⟩
theorem cwL_66 : gCw RL 66 mX9_allowed 1 := ⟨inT 959 (by decide +kernel) (by decide +kernel), cdX9_allowed, iniX9, pdX9_allowed⟩
theorem cwX9_136 : gCw RX9 136 mX9_isChoice 1 := ⟨inT 963 (by decide +kernel) (by decide +kernel), cdX9_isChoice, iniX9, pdX9_isChoice⟩
theorem cwX9_139 : gCw RX9 139 mX9_isAllowed 1 := ⟨inT 967 (by decide +kernel) (by decide +kernel), cdX9_isAllowed, iniX9, pdX9_isAllowed⟩
theorem cwL_71 : gCw RL 71 mX9_cost 1 := ⟨inT 971 (by decide +kernel) (by decide +kernel), cdX9_cost, iniX9, pdX9_cost⟩
theorem cwX9_144 : gCw RX9 144 mX9_weigh 1 := ⟨inT 976 (by decide +kernel) (by decide +kernel), cdX9_weigh, iniX9, pdX9_weigh⟩
theorem cwX9_129 : gCw RX9 129 mX9_ovenCost 1 := ⟨inT 980 (by decide +kernel) (by decide +kernel), cdX9_ovenCost, iniX9, pdX9_ovenCost⟩
theorem cwX9_133 : gCw RX9 133 mX9_servedBy 2 := ⟨inT 984 (by decide +kernel) (by decide +kernel), cdX9_servedBy, iniX9, pdX9_servedBy⟩
theorem cwX9_115 : gCw RX9 115 mX9_carried 2 := ⟨inT 988 (by decide +kernel) (by decide +kernel), cdX9_carried, iniX9, pdX9_carried⟩
theorem cwL_75 : gCw RL 75 mX9_served 2 := ⟨inT 993 (by decide +kernel) (by decide +kernel), cdX9_served, iniX9, pdX9_served⟩
theorem cwL_79 : gCw RL 79 mX9_share 3 := ⟨inT 997 (by decide +kernel) (by decide +kernel), cdX9_share, iniX9, pdX9_share⟩
theorem cwL_84 : gCw RL 84 mX9_least 0 := ⟨inT 1001 (by decide +kernel) (by decide +kernel), cdX9_least, iniX9, pdX9_least⟩
theorem cwX9_165 : gCw RX9 165 mX9_find 2 := ⟨inT 1005 (by decide +kernel) (by decide +kernel), cdX9_find, iniX9, pdX9_find⟩
theorem cwL_89 : gCw RL 89 mX9_best 0 := ⟨inT 1009 (by decide +kernel) (by decide +kernel), cdX9_best, iniX9, pdX9_best⟩
theorem cwL_93 : gCw RL 93 mX9_many 0 := ⟨inT 1013 (by decide +kernel) (by decide +kernel), cdX9_many, iniX9, pdX9_many⟩
theorem cwL_97 : gCw RL 97 mX9_every 1 := ⟨inT 1017 (by decide +kernel) (by decide +kernel), cdX9_every, iniX9, pdX9_every⟩
theorem cwL_101 : gCw RL 101 mX9_second 1 := ⟨inT 1021 (by decide +kernel) (by decide +kernel), cdX9_second, iniX9, pdX9_second⟩
theorem cwL_105 : gCw RL 105 mX9_lose 1 := ⟨inT 1025 (by decide +kernel) (by decide +kernel), cdX9_lose, iniX9, pdX9_lose⟩
theorem cwL_109 : gCw RL 109 mX9_worst 0 := ⟨inT 1030 (by decide +kernel) (by decide +kernel), cdX9_worst, iniX9, pdX9_worst⟩
theorem cwL_113 : gCw RL 113 mX9_farthest 0 := ⟨inT 1035 (by decide +kernel) (by decide +kernel), cdX9_farthest, iniX9, pdX9_farthest⟩
theorem cwX9_179 : gCw RX9 179 mX9_findNearest 0 := ⟨inT 1039 (by decide +kernel) (by decide +kernel), cdX9_findNearest, iniX9, pdX9_findNearest⟩
theorem cwL_117 : gCw RL 117 mX9_nearest 0 := ⟨inT 1043 (by decide +kernel) (by decide +kernel), cdX9_nearest, iniX9, pdX9_nearest⟩
theorem cwL_121 : gCw RL 121 mX9_added 0 := ⟨inT 1047 (by decide +kernel) (by decide +kernel), cdX9_added, iniX9, pdX9_added⟩
theorem cwX9_188 : gCw RX9 188 mX9_shrines 0 := ⟨inT 1051 (by decide +kernel) (by decide +kernel), cdX9_shrines, iniX9, pdX9_shrines⟩
theorem cwX9_195 : gCw RX9 195 mX9_begins 1 := ⟨inT 1055 (by decide +kernel) (by decide +kernel), cdX9_begins, iniX9, pdX9_begins⟩
theorem cwX9_198 : gCw RX9 198 mX9_isLess 1 := ⟨inT 1059 (by decide +kernel) (by decide +kernel), cdX9_isLess, iniX9, pdX9_isLess⟩
theorem cwL_125 : gCw RL 125 mX9_changed 1 := ⟨inT 1063 (by decide +kernel) (by decide +kernel), cdX9_changed, iniX9, pdX9_changed⟩
theorem cwL_129 : gCw RL 129 mX9_moves 0 := ⟨inT 1067 (by decide +kernel) (by decide +kernel), cdX9_moves, iniX9, pdX9_moves⟩
theorem cwL_133 : gCw RL 133 mX9_price 2 := ⟨inT 1071 (by decide +kernel) (by decide +kernel), cdX9_price, iniX9, pdX9_price⟩
theorem cwL_137 : gCw RL 137 mX9_priced 1 := ⟨inT 1076 (by decide +kernel) (by decide +kernel), cdX9_priced, iniX9, pdX9_priced⟩
theorem cwL_142 : gCw RL 142 mX9_gives 2 := ⟨inT 1080 (by decide +kernel) (by decide +kernel), cdX9_gives, iniX9, pdX9_gives⟩
theorem cwX9_203 : gCw RX9 203 mX9_given 2 := ⟨inT 1084 (by decide +kernel) (by decide +kernel), cdX9_given, iniX9, pdX9_given⟩
theorem cwL_146 : gCw RL 146 mX9_worth 1 := ⟨inT 1088 (by decide +kernel) (by decide +kernel), cdX9_worth, iniX9, pdX9_worth⟩
theorem cwX9_207 : gCw RX9 207 mX9_worthOf 1 := ⟨inT 1092 (by decide +kernel) (by decide +kernel), cdX9_worthOf, iniX9, pdX9_worthOf⟩
theorem cwL_150 : gCw RL 150 mX9_bound 0 := ⟨inT 1096 (by decide +kernel) (by decide +kernel), cdX9_bound, iniX9, pdX9_bound⟩
theorem cwX9_220 : gCw RX9 220 mX9_boundNow 0 := ⟨inT 1100 (by decide +kernel) (by decide +kernel), cdX9_boundNow, iniX9, pdX9_boundNow⟩
theorem cwX9_217 : gCw RX9 217 mX9_findRichest 0 := ⟨inT 1104 (by decide +kernel) (by decide +kernel), cdX9_findRichest, iniX9, pdX9_findRichest⟩
theorem cwL_154 : gCw RL 154 mX9_climb 2 := ⟨inT 1108 (by decide +kernel) (by decide +kernel), cdX9_climb, iniX9, pdX9_climb⟩
theorem cwL_158 : gCw RL 158 mX9_highest 0 := ⟨inT 1113 (by decide +kernel) (by decide +kernel), cdX9_highest, iniX9, pdX9_highest⟩
theorem cwL_166 : gCw RL 166 mX9_count 1 := ⟨inT 1117 (by decide +kernel) (by decide +kernel), cdX9_count, iniX9, pdX9_count⟩
theorem cnX8_13 : gCn RX8 13 mX6_init "BreadOvens" 0 := ⟨List.mem_of_getElem? (i := 0) (by decide +kernel), cdX6_init, iniX6, pdX6_init⟩
theorem cnX2_24 : gCn RX2 24 mX6_init "BreadOvens" 0 := ⟨List.mem_of_getElem? (i := 1) (by decide +kernel), cdX6_init, iniX6, pdX6_init⟩
theorem cnX8_33 : gCn RX8 33 mX7_init "BreadOvens" 0 := ⟨List.mem_of_getElem? (i := 2) (by decide +kernel), cdX7_init, iniX7, pdX7_init⟩
theorem cnX8_49 : gCn RX8 49 mX5_init "BreadOvens" 0 := ⟨List.mem_of_getElem? (i := 3) (by decide +kernel), cdX5_init, iniX5, pdX5_init⟩
theorem cnX8_76 : gCn RX8 76 mX1_init "BreadOvens" 0 := ⟨List.mem_of_getElem? (i := 4) (by decide +kernel), cdX1_init, iniX1, pdX1_init⟩
theorem cnX6_40 : gCn RX6 40 mX8_isWithin "BreadOvens" 3 := ⟨List.mem_of_getElem? (i := 5) (by decide +kernel), cdX8_isWithin, iniX8, pdX8_isWithin⟩
theorem cnX3_65 : gCn RX3 65 mX8_isIn "BreadOvens" 2 := ⟨List.mem_of_getElem? (i := 6) (by decide +kernel), cdX8_isIn, iniX8, pdX8_isIn⟩
theorem cnX5_86 : gCn RX5 86 mX8_isIn "BreadOvens" 2 := ⟨List.mem_of_getElem? (i := 7) (by decide +kernel), cdX8_isIn, iniX8, pdX8_isIn⟩
theorem cnX0_51 : gCn RX0 51 mX8_isIn "BreadOvens" 2 := ⟨List.mem_of_getElem? (i := 8) (by decide +kernel), cdX8_isIn, iniX8, pdX8_isIn⟩
theorem cnX4_100 : gCn RX4 100 mX8_isIn "BreadOvens" 2 := ⟨List.mem_of_getElem? (i := 9) (by decide +kernel), cdX8_isIn, iniX8, pdX8_isIn⟩
theorem kcX7_33 : Cond.constant RX7 33 (Int32.ofInt (1000000)) ∈ gTb := inT 330 (by decide +kernel) (by decide +kernel)
theorem kcX3_50 : Cond.constant RX3 50 (Int32.ofInt (1000000)) ∈ gTb := inT 352 (by decide +kernel) (by decide +kernel)
theorem kcX8_175 : Cond.constant RX8 175 (Int32.ofInt (1000000)) ∈ gTb := inT 446 (by decide +kernel) (by decide +kernel)
theorem kcJ6_265 : Cond.constant RJ6 265 (Int32.ofInt (1431655765)) ∈ gTb := inT 474 (by decide +kernel) (by decide +kernel)
theorem kcJ6_266 : Cond.constant RJ6 266 (Int32.ofInt (858993459)) ∈ gTb := inT 475 (by decide +kernel) (by decide +kernel)
theorem kcJ6_267 : Cond.constant RJ6 267 (Int32.ofInt (252645135)) ∈ gTb := inT 476 (by decide +kernel) (by decide +kernel)
theorem kcX5_79 : Cond.constant RX5 79 (Int32.ofInt (1000000)) ∈ gTb := inT 550 (by decide +kernel) (by decide +kernel)
theorem kcX4_46 : Cond.constant RX4 46 (Int32.ofInt (1000000)) ∈ gTb := inT 670 (by decide +kernel) (by decide +kernel)
theorem klX8_77 : Cond.constantLong RX8 77 (Int64.ofInt (1000)) ∈ gTb := inT 277 (by decide +kernel) (by decide +kernel)
theorem klX6_48 : Cond.constantLong RX6 48 (Int64.ofInt (1000)) ∈ gTb := inT 371 (by decide +kernel) (by decide +kernel)
theorem klX8_116 : Cond.constantLong RX8 116 (Int64.ofInt (4)) ∈ gTb := inT 381 (by decide +kernel) (by decide +kernel)
theorem klX8_118 : Cond.constantLong RX8 118 (Int64.ofInt (100000)) ∈ gTb := inT 382 (by decide +kernel) (by decide +kernel)
theorem klX8_131 : Cond.constantLong RX8 131 (Int64.ofInt (12000)) ∈ gTb := inT 395 (by decide +kernel) (by decide +kernel)
theorem klX8_139 : Cond.constantLong RX8 139 (Int64.ofInt (20)) ∈ gTb := inT 400 (by decide +kernel) (by decide +kernel)
theorem klX8_321 : Cond.constantLong RX8 321 (Int64.ofInt (3)) ∈ gTb := inT 408 (by decide +kernel) (by decide +kernel)
theorem klX8_199 : Cond.constantLong RX8 199 (Int64.ofInt (2)) ∈ gTb := inT 412 (by decide +kernel) (by decide +kernel)
theorem klX8_186 : Cond.constantLong RX8 186 (Int64.ofInt (-1)) ∈ gTb := inT 481 (by decide +kernel) (by decide +kernel)
theorem klX3_81 : Cond.constantLong RX3 81 (Int64.ofInt (1099511627776)) ∈ gTb := inT 501 (by decide +kernel) (by decide +kernel)
theorem klX8_192 : Cond.constantLong RX8 192 (Int64.ofInt (1099511627776)) ∈ gTb := inT 502 (by decide +kernel) (by decide +kernel)
theorem klX8_194 : Cond.constantLong RX8 194 (Int64.ofInt (-4)) ∈ gTb := inT 503 (by decide +kernel) (by decide +kernel)
theorem klX5_55 : Cond.constantLong RX5 55 (Int64.ofInt (9223372036854775807)) ∈ gTb := inT 549 (by decide +kernel) (by decide +kernel)
theorem klX5_38 : Cond.constantLong RX5 38 (Int64.ofInt (1099511627776)) ∈ gTb := inT 553 (by decide +kernel) (by decide +kernel)
theorem klX8_236 : Cond.constantLong RX8 236 (Int64.ofInt (-2)) ∈ gTb := inT 594 (by decide +kernel) (by decide +kernel)
theorem klX8_242 : Cond.constantLong RX8 242 (Int64.ofInt (9223372036854775807)) ∈ gTb := inT 595 (by decide +kernel) (by decide +kernel)
theorem klX5_96 : Cond.constantLong RX5 96 (Int64.ofInt (-1)) ∈ gTb := inT 604 (by decide +kernel) (by decide +kernel)
theorem klX8_267 : Cond.constantLong RX8 267 (Int64.ofInt (100000000)) ∈ gTb := inT 656 (by decide +kernel) (by decide +kernel)
theorem klX8_289 : Cond.constantLong RX8 289 (Int64.ofInt (100)) ∈ gTb := inT 706 (by decide +kernel) (by decide +kernel)
theorem klX4_95 : Cond.constantLong RX4 95 (Int64.ofInt (100000000)) ∈ gTb := inT 724 (by decide +kernel) (by decide +kernel)
theorem klX9_85 : Cond.constantLong RX9 85 (Int64.ofInt (1000)) ∈ gTb := inT 889 (by decide +kernel) (by decide +kernel)
theorem klX9_97 : Cond.constantLong RX9 97 (Int64.ofInt (4)) ∈ gTb := inT 917 (by decide +kernel) (by decide +kernel)
theorem klX9_99 : Cond.constantLong RX9 99 (Int64.ofInt (100000)) ∈ gTb := inT 918 (by decide +kernel) (by decide +kernel)
theorem klX9_104 : Cond.constantLong RX9 104 (Int64.ofInt (12000)) ∈ gTb := inT 927 (by decide +kernel) (by decide +kernel)
theorem klX9_106 : Cond.constantLong RX9 106 (Int64.ofInt (20)) ∈ gTb := inT 932 (by decide +kernel) (by decide +kernel)
theorem klX9_108 : Cond.constantLong RX9 108 (Int64.ofInt (3)) ∈ gTb := inT 937 (by decide +kernel) (by decide +kernel)
theorem klX9_110 : Cond.constantLong RX9 110 (Int64.ofInt (2)) ∈ gTb := inT 938 (by decide +kernel) (by decide +kernel)
theorem klX9_142 : Cond.constantLong RX9 142 (Int64.ofInt (-1)) ∈ gTb := inT 975 (by decide +kernel) (by decide +kernel)
theorem klX9_148 : Cond.constantLong RX9 148 (Int64.ofInt (-4)) ∈ gTb := inT 992 (by decide +kernel) (by decide +kernel)
theorem klX9_169 : Cond.constantLong RX9 169 (Int64.ofInt (-2)) ∈ gTb := inT 1029 (by decide +kernel) (by decide +kernel)
theorem klX9_171 : Cond.constantLong RX9 171 (Int64.ofInt (9223372036854775807)) ∈ gTb := inT 1034 (by decide +kernel) (by decide +kernel)
theorem klX9_201 : Cond.constantLong RX9 201 (Int64.ofInt (100000000)) ∈ gTb := inT 1075 (by decide +kernel) (by decide +kernel)
theorem klX9_224 : Cond.constantLong RX9 224 (Int64.ofInt (100)) ∈ gTb := inT 1112 (by decide +kernel) (by decide +kernel)
theorem klL_44 : Cond.constantLong RL 44 (Int64.ofInt (4294967295)) ∈ gTb := inT 1121 (by decide +kernel) (by decide +kernel)
theorem clL_7 : Cond.classLink RL 7 RX8 ∈ gTb := inT 14 (by decide +kernel) (by decide +kernel)
theorem ncL_7 : gNc RL 7 8 := ⟨(RX8, TX8, 9), tyX8, rfl, uwX8, tyX8_ok, clL_7, inT 15 (by decide +kernel) (by decide +kernel), inT 1 (by decide +kernel) (by decide +kernel), rfl, fun j hj => by
  match j, (show j < 9 from hj) with
  | 0, _ => exact ⟨2, rfl, by decide, Or.inl ⟨_, rfl⟩⟩
  | 1, _ => exact ⟨2, rfl, by decide, Or.inl ⟨_, rfl⟩⟩
  | 2, _ => exact ⟨2, rfl, by decide, Or.inr ⟨_, rfl⟩⟩
  | 3, _ => exact ⟨2, rfl, by decide, Or.inl ⟨_, rfl⟩⟩
  | 4, _ => exact ⟨2, rfl, by decide, Or.inl ⟨_, rfl⟩⟩
  | 5, _ => exact ⟨2, rfl, by decide, Or.inl ⟨_, rfl⟩⟩
  | 6, _ => exact ⟨2, rfl, by decide, Or.inl ⟨_, rfl⟩⟩
  | 7, _ => exact ⟨2, rfl, by decide, Or.inl ⟨_, rfl⟩⟩
  | 8, _ => exact ⟨3, rfl, by decide, rfl⟩
  | j + 9, hj => omega⟩
theorem clX8_11 : Cond.classLink RX8 11 RX6 ∈ gTb := inT 22 (by decide +kernel) (by decide +kernel)
theorem ncX8_11 : gNc RX8 11 6 := ⟨(RX6, TX6, 9), tyX6, rfl, uwX6, tyX6_ok, clX8_11, inT 23 (by decide +kernel) (by decide +kernel), inT 2 (by decide +kernel) (by decide +kernel), rfl, fun j hj => by
  match j, (show j < 9 from hj) with
  | 0, _ => exact ⟨0, rfl, by decide, rfl⟩
  | 1, _ => exact ⟨0, rfl, by decide, rfl⟩
  | 2, _ => exact ⟨0, rfl, by decide, rfl⟩
  | 3, _ => exact ⟨2, rfl, by decide, Or.inr ⟨_, rfl⟩⟩
  | 4, _ => exact ⟨2, rfl, by decide, Or.inr ⟨_, rfl⟩⟩
  | 5, _ => exact ⟨2, rfl, by decide, Or.inr ⟨_, rfl⟩⟩
  | 6, _ => exact ⟨2, rfl, by decide, Or.inr ⟨_, rfl⟩⟩
  | 7, _ => exact ⟨2, rfl, by decide, Or.inr ⟨_, rfl⟩⟩
  | 8, _ => exact ⟨2, rfl, by decide, Or.inr ⟨_, rfl⟩⟩
  | j + 9, hj => omega⟩
theorem clX8_18 : Cond.classLink RX8 18 RX2 ∈ gTb := inT 77 (by decide +kernel) (by decide +kernel)
theorem ncX8_18 : gNc RX8 18 2 := ⟨(RX2, TX2, 3), tyX2, rfl, uwX2, tyX2_ok, clX8_18, inT 78 (by decide +kernel) (by decide +kernel), inT 3 (by decide +kernel) (by decide +kernel), rfl, fun j hj => by
  match j, (show j < 3 from hj) with
  | 0, _ => exact ⟨2, rfl, by decide, Or.inr ⟨_, rfl⟩⟩
  | 1, _ => exact ⟨0, rfl, by decide, rfl⟩
  | 2, _ => exact ⟨0, rfl, by decide, rfl⟩
  | j + 3, hj => omega⟩
theorem clX2_11 : Cond.classLink RX2 11 RX6 ∈ gTb := inT 83 (by decide +kernel) (by decide +kernel)
theorem ncX2_11 : gNc RX2 11 6 := ⟨(RX6, TX6, 9), tyX6, rfl, uwX6, tyX6_ok, clX2_11, inT 23 (by decide +kernel) (by decide +kernel), inT 2 (by decide +kernel) (by decide +kernel), rfl, fun j hj => by
  match j, (show j < 9 from hj) with
  | 0, _ => exact ⟨0, rfl, by decide, rfl⟩
  | 1, _ => exact ⟨0, rfl, by decide, rfl⟩
  | 2, _ => exact ⟨0, rfl, by decide, rfl⟩
  | 3, _ => exact ⟨2, rfl, by decide, Or.inr ⟨_, rfl⟩⟩
  | 4, _ => exact ⟨2, rfl, by decide, Or.inr ⟨_, rfl⟩⟩
  | 5, _ => exact ⟨2, rfl, by decide, Or.inr ⟨_, rfl⟩⟩
  | 6, _ => exact ⟨2, rfl, by decide, Or.inr ⟨_, rfl⟩⟩
  | 7, _ => exact ⟨2, rfl, by decide, Or.inr ⟨_, rfl⟩⟩
  | 8, _ => exact ⟨2, rfl, by decide, Or.inr ⟨_, rfl⟩⟩
  | j + 9, hj => omega⟩
theorem clX8_25 : Cond.classLink RX8 25 RX1 ∈ gTb := inT 97 (by decide +kernel) (by decide +kernel)
theorem ncX8_25 : gNc RX8 25 1 := ⟨(RX1, TX1, 3), tyX1, rfl, uwX1, tyX1_ok, clX8_25, inT 227 (by decide +kernel) (by decide +kernel), inT 9 (by decide +kernel) (by decide +kernel), rfl, fun j hj => by
  match j, (show j < 3 from hj) with
  | 0, _ => exact ⟨0, rfl, by decide, rfl⟩
  | 1, _ => exact ⟨0, rfl, by decide, rfl⟩
  | 2, _ => exact ⟨2, rfl, by decide, Or.inr ⟨_, rfl⟩⟩
  | j + 3, hj => omega⟩
theorem clX8_31 : Cond.classLink RX8 31 RX7 ∈ gTb := inT 99 (by decide +kernel) (by decide +kernel)
theorem ncX8_31 : gNc RX8 31 7 := ⟨(RX7, TX7, 1), tyX7, rfl, uwX7, tyX7_ok, clX8_31, inT 100 (by decide +kernel) (by decide +kernel), inT 4 (by decide +kernel) (by decide +kernel), rfl, fun j hj => by
  match j, (show j < 1 from hj) with
  | 0, _ => exact ⟨2, rfl, by decide, Or.inr ⟨_, rfl⟩⟩
  | j + 1, hj => omega⟩
theorem clX8_38 : Cond.classLink RX8 38 RX3 ∈ gTb := inT 109 (by decide +kernel) (by decide +kernel)
theorem ncX8_38 : gNc RX8 38 3 := ⟨(RX3, TX3, 4), tyX3, rfl, uwX3, tyX3_ok, clX8_38, inT 110 (by decide +kernel) (by decide +kernel), inT 5 (by decide +kernel) (by decide +kernel), rfl, fun j hj => by
  match j, (show j < 4 from hj) with
  | 0, _ => exact ⟨2, rfl, by decide, Or.inl ⟨_, rfl⟩⟩
  | 1, _ => exact ⟨2, rfl, by decide, Or.inr ⟨_, rfl⟩⟩
  | 2, _ => exact ⟨0, rfl, by decide, rfl⟩
  | 3, _ => exact ⟨0, rfl, by decide, rfl⟩
  | j + 4, hj => omega⟩
theorem clX8_47 : Cond.classLink RX8 47 RX5 ∈ gTb := inT 132 (by decide +kernel) (by decide +kernel)
theorem ncX8_47 : gNc RX8 47 5 := ⟨(RX5, TX5, 10), tyX5, rfl, uwX5, tyX5_ok, clX8_47, inT 133 (by decide +kernel) (by decide +kernel), inT 6 (by decide +kernel) (by decide +kernel), rfl, fun j hj => by
  match j, (show j < 10 from hj) with
  | 0, _ => exact ⟨1, rfl, by decide, rfl⟩
  | 1, _ => exact ⟨0, rfl, by decide, rfl⟩
  | 2, _ => exact ⟨0, rfl, by decide, rfl⟩
  | 3, _ => exact ⟨0, rfl, by decide, rfl⟩
  | 4, _ => exact ⟨0, rfl, by decide, rfl⟩
  | 5, _ => exact ⟨1, rfl, by decide, rfl⟩
  | 6, _ => exact ⟨0, rfl, by decide, rfl⟩
  | 7, _ => exact ⟨0, rfl, by decide, rfl⟩
  | 8, _ => exact ⟨0, rfl, by decide, rfl⟩
  | 9, _ => exact ⟨2, rfl, by decide, Or.inr ⟨_, rfl⟩⟩
  | j + 10, hj => omega⟩
theorem clX8_54 : Cond.classLink RX8 54 RX0 ∈ gTb := inT 179 (by decide +kernel) (by decide +kernel)
theorem ncX8_54 : gNc RX8 54 0 := ⟨(RX0, TX0, 4), tyX0, rfl, uwX0, tyX0_ok, clX8_54, inT 180 (by decide +kernel) (by decide +kernel), inT 7 (by decide +kernel) (by decide +kernel), rfl, fun j hj => by
  match j, (show j < 4 from hj) with
  | 0, _ => exact ⟨2, rfl, by decide, Or.inl ⟨_, rfl⟩⟩
  | 1, _ => exact ⟨0, rfl, by decide, rfl⟩
  | 2, _ => exact ⟨0, rfl, by decide, rfl⟩
  | 3, _ => exact ⟨1, rfl, by decide, rfl⟩
  | j + 4, hj => omega⟩
theorem clX8_63 : Cond.classLink RX8 63 RX4 ∈ gTb := inT 199 (by decide +kernel) (by decide +kernel)
theorem ncX8_63 : gNc RX8 63 4 := ⟨(RX4, TX4, 6), tyX4, rfl, uwX4, tyX4_ok, clX8_63, inT 200 (by decide +kernel) (by decide +kernel), inT 8 (by decide +kernel) (by decide +kernel), rfl, fun j hj => by
  match j, (show j < 6 from hj) with
  | 0, _ => exact ⟨2, rfl, by decide, Or.inl ⟨_, rfl⟩⟩
  | 1, _ => exact ⟨2, rfl, by decide, Or.inl ⟨_, rfl⟩⟩
  | 2, _ => exact ⟨2, rfl, by decide, Or.inr ⟨_, rfl⟩⟩
  | 3, _ => exact ⟨2, rfl, by decide, Or.inr ⟨_, rfl⟩⟩
  | 4, _ => exact ⟨0, rfl, by decide, rfl⟩
  | 5, _ => exact ⟨1, rfl, by decide, rfl⟩
  | j + 6, hj => omega⟩
theorem clL_10 : Cond.classLink RL 10 RX9 ∈ gTb := inT 757 (by decide +kernel) (by decide +kernel)
theorem ncL_10 : gNc RL 10 9 := ⟨(RX9, TX9, 39), tyX9, rfl, uwX9, tyX9_ok, clL_10, inT 758 (by decide +kernel) (by decide +kernel), inT 10 (by decide +kernel) (by decide +kernel), rfl, fun j hj => by
  match j, (show j < 39 from hj) with
  | 0, _ => exact ⟨0, rfl, by decide, rfl⟩
  | 1, _ => exact ⟨2, rfl, by decide, Or.inr ⟨_, rfl⟩⟩
  | 2, _ => exact ⟨2, rfl, by decide, Or.inr ⟨_, rfl⟩⟩
  | 3, _ => exact ⟨2, rfl, by decide, Or.inr ⟨_, rfl⟩⟩
  | 4, _ => exact ⟨0, rfl, by decide, rfl⟩
  | 5, _ => exact ⟨2, rfl, by decide, Or.inr ⟨_, rfl⟩⟩
  | 6, _ => exact ⟨2, rfl, by decide, Or.inr ⟨_, rfl⟩⟩
  | 7, _ => exact ⟨2, rfl, by decide, Or.inr ⟨_, rfl⟩⟩
  | 8, _ => exact ⟨2, rfl, by decide, Or.inr ⟨_, rfl⟩⟩
  | 9, _ => exact ⟨0, rfl, by decide, rfl⟩
  | 10, _ => exact ⟨2, rfl, by decide, Or.inr ⟨_, rfl⟩⟩
  | 11, _ => exact ⟨2, rfl, by decide, Or.inr ⟨_, rfl⟩⟩
  | 12, _ => exact ⟨2, rfl, by decide, Or.inr ⟨_, rfl⟩⟩
  | 13, _ => exact ⟨0, rfl, by decide, rfl⟩
  | 14, _ => exact ⟨2, rfl, by decide, Or.inr ⟨_, rfl⟩⟩
  | 15, _ => exact ⟨2, rfl, by decide, Or.inr ⟨_, rfl⟩⟩
  | 16, _ => exact ⟨2, rfl, by decide, Or.inr ⟨_, rfl⟩⟩
  | 17, _ => exact ⟨2, rfl, by decide, Or.inr ⟨_, rfl⟩⟩
  | 18, _ => exact ⟨2, rfl, by decide, Or.inr ⟨_, rfl⟩⟩
  | 19, _ => exact ⟨2, rfl, by decide, Or.inr ⟨_, rfl⟩⟩
  | 20, _ => exact ⟨2, rfl, by decide, Or.inr ⟨_, rfl⟩⟩
  | 21, _ => exact ⟨2, rfl, by decide, Or.inr ⟨_, rfl⟩⟩
  | 22, _ => exact ⟨0, rfl, by decide, rfl⟩
  | 23, _ => exact ⟨1, rfl, by decide, rfl⟩
  | 24, _ => exact ⟨0, rfl, by decide, rfl⟩
  | 25, _ => exact ⟨0, rfl, by decide, rfl⟩
  | 26, _ => exact ⟨1, rfl, by decide, rfl⟩
  | 27, _ => exact ⟨0, rfl, by decide, rfl⟩
  | 28, _ => exact ⟨0, rfl, by decide, rfl⟩
  | 29, _ => exact ⟨0, rfl, by decide, rfl⟩
  | 30, _ => exact ⟨0, rfl, by decide, rfl⟩
  | 31, _ => exact ⟨0, rfl, by decide, rfl⟩
  | 32, _ => exact ⟨0, rfl, by decide, rfl⟩
  | 33, _ => exact ⟨0, rfl, by decide, rfl⟩
  | 34, _ => exact ⟨1, rfl, by decide, rfl⟩
  | 35, _ => exact ⟨2, rfl, by decide, Or.inr ⟨_, rfl⟩⟩
  | 36, _ => exact ⟨0, rfl, by decide, rfl⟩
  | 37, _ => exact ⟨1, rfl, by decide, rfl⟩
  | 38, _ => exact ⟨1, rfl, by decide, rfl⟩
  | j + 39, hj => omega⟩
