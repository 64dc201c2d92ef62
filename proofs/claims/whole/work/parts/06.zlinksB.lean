theorem yv_X7_giveFirstLoanBack : Cond.selects yX7_giveFirstLoanBack.cls yX7_giveFirstLoanBack yX7_giveFirstLoanBack ∈ z_good := (z_gd 567 (by decide +kernel) rfl)
theorem mv_X11_205 : z_MV RX11 205 7 yX7_giveFirstLoanBack cX7_giveFirstLoanBack 2 none 0 := ⟨⟨Or.inl (z_gd 565 (by decide +kernel) rfl), yb_X7_giveFirstLoanBack⟩, yi_X7_giveFirstLoanBack, yv_X7_giveFirstLoanBack, by decide, rfl, by decide⟩
theorem mv_X7_43 : z_MV RX7 43 7 yX7_owedForFirstLoan cX7_owedForFirstLoan 1 (some .int) 0 := ⟨⟨Or.inl (z_gd 569 (by decide +kernel) rfl), yb_X7_owedForFirstLoan⟩, yi_X7_owedForFirstLoan, yv_X7_owedForFirstLoan, by decide, rfl, by decide⟩
set_option maxRecDepth 20000 in
theorem yb_X11_undo : Cond.initialized yX11_undo.cls ∈ z_good ∧ Cond.code yX11_undo cX11_undo 1 (some .int) ∈ z_good ∧ (yX11_undo.cls ≠ "java/lang/invoke/MethodHandle" ∧ yX11_undo.cls ≠ "java/lang/invoke/VarHandle" ∧ (parseMethodDescriptor yX11_undo.desc).map (fun d => d.parameters.length) = some 0) := ⟨(z_gd 36 (by decide +kernel) rfl), (z_gd 573 rfl rfl), by decide +kernel, by decide +kernel, by decide +kernel⟩
theorem yi_X11_undo : Cond.instanceMethod yX11_undo ∈ z_good := (z_gd 571 (by decide +kernel) rfl)
theorem yv_X11_undo : Cond.selects yX11_undo.cls yX11_undo yX11_undo ∈ z_good := (z_gd 572 (by decide +kernel) rfl)
theorem mv_L_72 : z_MV RL 72 11 yX11_undo cX11_undo 1 (some .int) 0 := ⟨⟨Or.inl (z_gd 570 (by decide +kernel) rfl), yb_X11_undo⟩, yi_X11_undo, yv_X11_undo, by decide, rfl, by decide⟩
set_option maxRecDepth 20000 in
theorem yb_X0_takeLastBack : Cond.initialized yX0_takeLastBack.cls ∈ z_good ∧ Cond.code yX0_takeLastBack cX0_takeLastBack 2 none ∈ z_good ∧ (yX0_takeLastBack.cls ≠ "java/lang/invoke/MethodHandle" ∧ yX0_takeLastBack.cls ≠ "java/lang/invoke/VarHandle" ∧ (parseMethodDescriptor yX0_takeLastBack.desc).map (fun d => d.parameters.length) = some 1) := ⟨(z_gd 39 (by decide +kernel) rfl), (z_gd 577 rfl rfl), by decide +kernel, by decide +kernel, by decide +kernel⟩
theorem yi_X0_takeLastBack : Cond.instanceMethod yX0_takeLastBack ∈ z_good := (z_gd 575 (by decide +kernel) rfl)
theorem yv_X0_takeLastBack : Cond.selects yX0_takeLastBack.cls yX0_takeLastBack yX0_takeLastBack ∈ z_good := (z_gd 576 (by decide +kernel) rfl)
theorem mv_X11_208 : z_MV RX11 208 0 yX0_takeLastBack cX0_takeLastBack 2 none 1 := ⟨⟨Or.inl (z_gd 574 (by decide +kernel) rfl), yb_X0_takeLastBack⟩, yi_X0_takeLastBack, yv_X0_takeLastBack, by decide, rfl, by decide⟩
set_option maxRecDepth 20000 in
theorem yb_X11_judge : Cond.initialized yX11_judge.cls ∈ z_good ∧ Cond.code yX11_judge cX11_judge 8 (some .int) ∈ z_good ∧ (yX11_judge.cls ≠ "java/lang/invoke/MethodHandle" ∧ yX11_judge.cls ≠ "java/lang/invoke/VarHandle" ∧ (parseMethodDescriptor yX11_judge.desc).map (fun d => d.parameters.length) = some 3) := ⟨(z_gd 36 (by decide +kernel) rfl), (z_gd 581 rfl rfl), by decide +kernel, by decide +kernel, by decide +kernel⟩
theorem yi_X11_judge : Cond.instanceMethod yX11_judge ∈ z_good := (z_gd 579 (by decide +kernel) rfl)
theorem yv_X11_judge : Cond.selects yX11_judge.cls yX11_judge yX11_judge ∈ z_good := (z_gd 580 (by decide +kernel) rfl)
theorem mv_L_76 : z_MV RL 76 11 yX11_judge cX11_judge 8 (some .int) 3 := ⟨⟨Or.inl (z_gd 578 (by decide +kernel) rfl), yb_X11_judge⟩, yi_X11_judge, yv_X11_judge, by decide, rfl, by decide⟩
set_option maxRecDepth 20000 in
theorem yb_X11_splitRow : Cond.initialized yX11_splitRow.cls ∈ z_good ∧ Cond.code yX11_splitRow cX11_splitRow 5 (some .boolean) ∈ z_good ∧ (yX11_splitRow.cls ≠ "java/lang/invoke/MethodHandle" ∧ yX11_splitRow.cls ≠ "java/lang/invoke/VarHandle" ∧ (parseMethodDescriptor yX11_splitRow.desc).map (fun d => d.parameters.length) = some 2) := ⟨(z_gd 36 (by decide +kernel) rfl), (z_gd 585 rfl rfl), by decide +kernel, by decide +kernel, by decide +kernel⟩
theorem yi_X11_splitRow : Cond.instanceMethod yX11_splitRow ∈ z_good := (z_gd 584 (by decide +kernel) rfl)
theorem yv_X11_splitRow : Cond.selects yX11_splitRow.cls yX11_splitRow yX11_splitRow ∈ z_good := (z_gd 3 (by decide +kernel) rfl)
theorem mv_X11_211 : z_MV RX11 211 11 yX11_splitRow cX11_splitRow 5 (some .boolean) 2 := ⟨⟨Or.inl (z_gd 582 (by decide +kernel) rfl), yb_X11_splitRow⟩, yi_X11_splitRow, yv_X11_splitRow, by decide, rfl, by decide⟩
set_option maxRecDepth 20000 in
theorem yb_X11_tour : Cond.initialized yX11_tour.cls ∈ z_good ∧ Cond.code yX11_tour cX11_tour 3 (some .int) ∈ z_good ∧ (yX11_tour.cls ≠ "java/lang/invoke/MethodHandle" ∧ yX11_tour.cls ≠ "java/lang/invoke/VarHandle" ∧ (parseMethodDescriptor yX11_tour.desc).map (fun d => d.parameters.length) = some 2) := ⟨(z_gd 36 (by decide +kernel) rfl), (z_gd 589 rfl rfl), by decide +kernel, by decide +kernel, by decide +kernel⟩
theorem yi_X11_tour : Cond.instanceMethod yX11_tour ∈ z_good := (z_gd 587 (by decide +kernel) rfl)
theorem yv_X11_tour : Cond.selects yX11_tour.cls yX11_tour yX11_tour ∈ z_good := (z_gd 588 (by decide +kernel) rfl)
theorem mv_L_81 : z_MV RL 81 11 yX11_tour cX11_tour 3 (some .int) 2 := ⟨⟨Or.inl (z_gd 586 (by decide +kernel) rfl), yb_X11_tour⟩, yi_X11_tour, yv_X11_tour, by decide, rfl, by decide⟩
set_option maxRecDepth 20000 in
theorem yb_X1_allErrands : Cond.initialized yX1_allErrands.cls ∈ z_good ∧ Cond.code yX1_allErrands cX1_allErrands 1 (some .int) ∈ z_good ∧ (yX1_allErrands.cls ≠ "java/lang/invoke/MethodHandle" ∧ yX1_allErrands.cls ≠ "java/lang/invoke/VarHandle" ∧ (parseMethodDescriptor yX1_allErrands.desc).map (fun d => d.parameters.length) = some 0) := ⟨(z_gd 46 (by decide +kernel) rfl), (z_gd 593 rfl rfl), by decide +kernel, by decide +kernel, by decide +kernel⟩
theorem yi_X1_allErrands : Cond.instanceMethod yX1_allErrands ∈ z_good := (z_gd 591 (by decide +kernel) rfl)
theorem yv_X1_allErrands : Cond.selects yX1_allErrands.cls yX1_allErrands yX1_allErrands ∈ z_good := (z_gd 592 (by decide +kernel) rfl)
theorem mv_X11_214 : z_MV RX11 214 1 yX1_allErrands cX1_allErrands 1 (some .int) 0 := ⟨⟨Or.inl (z_gd 590 (by decide +kernel) rfl), yb_X1_allErrands⟩, yi_X1_allErrands, yv_X1_allErrands, by decide, rfl, by decide⟩
set_option maxRecDepth 20000 in
theorem yb_X11_openTo : Cond.initialized yX11_openTo.cls ∈ z_good ∧ Cond.code yX11_openTo cX11_openTo 2 (some .int) ∈ z_good ∧ (yX11_openTo.cls ≠ "java/lang/invoke/MethodHandle" ∧ yX11_openTo.cls ≠ "java/lang/invoke/VarHandle" ∧ (parseMethodDescriptor yX11_openTo.desc).map (fun d => d.parameters.length) = some 1) := ⟨(z_gd 36 (by decide +kernel) rfl), (z_gd 597 rfl rfl), by decide +kernel, by decide +kernel, by decide +kernel⟩
theorem yi_X11_openTo : Cond.instanceMethod yX11_openTo ∈ z_good := (z_gd 596 (by decide +kernel) rfl)
theorem yv_X11_openTo : Cond.selects yX11_openTo.cls yX11_openTo yX11_openTo ∈ z_good := (z_gd 4 (by decide +kernel) rfl)
theorem mv_X11_217 : z_MV RX11 217 11 yX11_openTo cX11_openTo 2 (some .int) 1 := ⟨⟨Or.inl (z_gd 594 (by decide +kernel) rfl), yb_X11_openTo⟩, yi_X11_openTo, yv_X11_openTo, by decide, rfl, by decide⟩
set_option maxRecDepth 20000 in
theorem yb_X1_allFor : Cond.initialized yX1_allFor.cls ∈ z_good ∧ Cond.code yX1_allFor cX1_allFor 4 (some .int) ∈ z_good ∧ (yX1_allFor.cls ≠ "java/lang/invoke/MethodHandle" ∧ yX1_allFor.cls ≠ "java/lang/invoke/VarHandle" ∧ (parseMethodDescriptor yX1_allFor.desc).map (fun d => d.parameters.length) = some 1) := ⟨(z_gd 46 (by decide +kernel) rfl), (z_gd 601 rfl rfl), by decide +kernel, by decide +kernel, by decide +kernel⟩
theorem yi_X1_allFor : Cond.instanceMethod yX1_allFor ∈ z_good := (z_gd 599 (by decide +kernel) rfl)
theorem yv_X1_allFor : Cond.selects yX1_allFor.cls yX1_allFor yX1_allFor ∈ z_good := (z_gd 600 (by decide +kernel) rfl)
theorem mv_X11_250 : z_MV RX11 250 1 yX1_allFor cX1_allFor 4 (some .int) 1 := ⟨⟨Or.inl (z_gd 598 (by decide +kernel) rfl), yb_X1_allFor⟩, yi_X1_allFor, yv_X1_allFor, by decide, rfl, by decide⟩
theorem mv_X1_75 : z_MV RX1 75 1 yX1_canDo cX1_canDo 3 (some .boolean) 2 := ⟨⟨Or.inl (z_gd 602 (by decide +kernel) rfl), yb_X1_canDo⟩, yi_X1_canDo, yv_X1_canDo, by decide, rfl, by decide⟩
set_option maxRecDepth 20000 in
theorem yb_X9_begin : Cond.initialized yX9_begin.cls ∈ z_good ∧ Cond.code yX9_begin cX9_begin 7 none ∈ z_good ∧ (yX9_begin.cls ≠ "java/lang/invoke/MethodHandle" ∧ yX9_begin.cls ≠ "java/lang/invoke/VarHandle" ∧ (parseMethodDescriptor yX9_begin.desc).map (fun d => d.parameters.length) = some 3) := ⟨(z_gd 41 (by decide +kernel) rfl), (z_gd 606 rfl rfl), by decide +kernel, by decide +kernel, by decide +kernel⟩
theorem yi_X9_begin : Cond.instanceMethod yX9_begin ∈ z_good := (z_gd 604 (by decide +kernel) rfl)
theorem yv_X9_begin : Cond.selects yX9_begin.cls yX9_begin yX9_begin ∈ z_good := (z_gd 605 (by decide +kernel) rfl)
theorem mv_X11_220 : z_MV RX11 220 9 yX9_begin cX9_begin 7 none 3 := ⟨⟨Or.inl (z_gd 603 (by decide +kernel) rfl), yb_X9_begin⟩, yi_X9_begin, yv_X9_begin, by decide, rfl, by decide⟩
theorem mv_X9_18 : z_MV RX9 18 1 yX1_isPlace cX1_isPlace 2 (some .boolean) 1 := ⟨⟨Or.inl (z_gd 607 (by decide +kernel) rfl), yb_X1_isPlace⟩, yi_X1_isPlace, yv_X1_isPlace, by decide, rfl, by decide⟩
set_option maxRecDepth 20000 in
theorem yb_X9_goOn : Cond.initialized yX9_goOn.cls ∈ z_good ∧ Cond.code yX9_goOn cX9_goOn 8 none ∈ z_good ∧ (yX9_goOn.cls ≠ "java/lang/invoke/MethodHandle" ∧ yX9_goOn.cls ≠ "java/lang/invoke/VarHandle" ∧ (parseMethodDescriptor yX9_goOn.desc).map (fun d => d.parameters.length) = some 4) := ⟨(z_gd 41 (by decide +kernel) rfl), (z_gd 612 rfl rfl), by decide +kernel, by decide +kernel, by decide +kernel⟩
theorem yi_X9_goOn : Cond.instanceMethod yX9_goOn ∈ z_good := (z_gd 611 (by decide +kernel) rfl)
theorem yv_X9_goOn : Cond.selects yX9_goOn.cls yX9_goOn yX9_goOn ∈ z_good := (z_gd 5 (by decide +kernel) rfl)
theorem mv_X9_32 : z_MV RX9 32 9 yX9_goOn cX9_goOn 8 none 4 := ⟨⟨Or.inl (z_gd 609 (by decide +kernel) rfl), yb_X9_goOn⟩, yi_X9_goOn, yv_X9_goOn, by decide, rfl, by decide⟩
theorem mv_X9_36 : z_MV RX9 36 1 yX1_between cX1_between 3 (some .int) 2 := ⟨⟨Or.inl (z_gd 613 (by decide +kernel) rfl), yb_X1_between⟩, yi_X1_between, yv_X1_between, by decide, rfl, by decide⟩
set_option maxRecDepth 20000 in
theorem mx_X9_40 : z_MM RX9 40 Lib.Math.min.name Lib.Math.min.code 2 := ⟨(z_gd 614 (by decide +kernel) rfl), (z_gd 260 (by decide +kernel) rfl), (z_gd 47 (by decide +kernel) rfl), (z_gd 261 (by decide +kernel) rfl)⟩
set_option maxRecDepth 20000 in
theorem yb_X1_placesOfSet : Cond.initialized yX1_placesOfSet.cls ∈ z_good ∧ Cond.code yX1_placesOfSet cX1_placesOfSet 4 (some .int) ∈ z_good ∧ (yX1_placesOfSet.cls ≠ "java/lang/invoke/MethodHandle" ∧ yX1_placesOfSet.cls ≠ "java/lang/invoke/VarHandle" ∧ (parseMethodDescriptor yX1_placesOfSet.desc).map (fun d => d.parameters.length) = some 1) := ⟨(z_gd 46 (by decide +kernel) rfl), (z_gd 618 rfl rfl), by decide +kernel, by decide +kernel, by decide +kernel⟩
theorem yi_X1_placesOfSet : Cond.instanceMethod yX1_placesOfSet ∈ z_good := (z_gd 616 (by decide +kernel) rfl)
theorem yv_X1_placesOfSet : Cond.selects yX1_placesOfSet.cls yX1_placesOfSet yX1_placesOfSet ∈ z_good := (z_gd 617 (by decide +kernel) rfl)
theorem mv_X11_223 : z_MV RX11 223 1 yX1_placesOfSet cX1_placesOfSet 4 (some .int) 1 := ⟨⟨Or.inl (z_gd 615 (by decide +kernel) rfl), yb_X1_placesOfSet⟩, yi_X1_placesOfSet, yv_X1_placesOfSet, by decide, rfl, by decide⟩
theorem mv_X1_82 : z_MV RX1 82 1 yX1_siteOf cX1_siteOf 2 (some .int) 1 := ⟨⟨Or.inl (z_gd 619 (by decide +kernel) rfl), yb_X1_siteOf⟩, yi_X1_siteOf, yv_X1_siteOf, by decide, rfl, by decide⟩
set_option maxRecDepth 20000 in
theorem yb_X9_by : Cond.initialized yX9_by.cls ∈ z_good ∧ Cond.code yX9_by cX9_by 3 (some .int) ∈ z_good ∧ (yX9_by.cls ≠ "java/lang/invoke/MethodHandle" ∧ yX9_by.cls ≠ "java/lang/invoke/VarHandle" ∧ (parseMethodDescriptor yX9_by.desc).map (fun d => d.parameters.length) = some 1) := ⟨(z_gd 41 (by decide +kernel) rfl), (z_gd 623 rfl rfl), by decide +kernel, by decide +kernel, by decide +kernel⟩
theorem yi_X9_by : Cond.instanceMethod yX9_by ∈ z_good := (z_gd 621 (by decide +kernel) rfl)
theorem yv_X9_by : Cond.selects yX9_by.cls yX9_by yX9_by ∈ z_good := (z_gd 622 (by decide +kernel) rfl)
theorem mv_X11_226 : z_MV RX11 226 9 yX9_by cX9_by 3 (some .int) 1 := ⟨⟨Or.inl (z_gd 620 (by decide +kernel) rfl), yb_X9_by⟩, yi_X9_by, yv_X9_by, by decide, rfl, by decide⟩
set_option maxRecDepth 20000 in
theorem yb_X11_plan : Cond.initialized yX11_plan.cls ∈ z_good ∧ Cond.code yX11_plan cX11_plan 2 (some .int) ∈ z_good ∧ (yX11_plan.cls ≠ "java/lang/invoke/MethodHandle" ∧ yX11_plan.cls ≠ "java/lang/invoke/VarHandle" ∧ (parseMethodDescriptor yX11_plan.desc).map (fun d => d.parameters.length) = some 1) := ⟨(z_gd 36 (by decide +kernel) rfl), (z_gd 627 rfl rfl), by decide +kernel, by decide +kernel, by decide +kernel⟩
theorem yi_X11_plan : Cond.instanceMethod yX11_plan ∈ z_good := (z_gd 625 (by decide +kernel) rfl)
theorem yv_X11_plan : Cond.selects yX11_plan.cls yX11_plan yX11_plan ∈ z_good := (z_gd 626 (by decide +kernel) rfl)
theorem mv_L_85 : z_MV RL 85 11 yX11_plan cX11_plan 2 (some .int) 1 := ⟨⟨Or.inl (z_gd 624 (by decide +kernel) rfl), yb_X11_plan⟩, yi_X11_plan, yv_X11_plan, by decide, rfl, by decide⟩
set_option maxRecDepth 20000 in
theorem yb_X3_offer : Cond.initialized yX3_offer.cls ∈ z_good ∧ Cond.code yX3_offer cX3_offer 3 none ∈ z_good ∧ (yX3_offer.cls ≠ "java/lang/invoke/MethodHandle" ∧ yX3_offer.cls ≠ "java/lang/invoke/VarHandle" ∧ (parseMethodDescriptor yX3_offer.desc).map (fun d => d.parameters.length) = some 2) := ⟨(z_gd 42 (by decide +kernel) rfl), (z_gd 631 rfl rfl), by decide +kernel, by decide +kernel, by decide +kernel⟩
theorem yi_X3_offer : Cond.instanceMethod yX3_offer ∈ z_good := (z_gd 629 (by decide +kernel) rfl)
theorem yv_X3_offer : Cond.selects yX3_offer.cls yX3_offer yX3_offer ∈ z_good := (z_gd 630 (by decide +kernel) rfl)
theorem mv_X11_229 : z_MV RX11 229 3 yX3_offer cX3_offer 3 none 2 := ⟨⟨Or.inl (z_gd 628 (by decide +kernel) rfl), yb_X3_offer⟩, yi_X3_offer, yv_X3_offer, by decide, rfl, by decide⟩
set_option maxRecDepth 20000 in
theorem yb_X3_settle : Cond.initialized yX3_settle.cls ∈ z_good ∧ Cond.code yX3_settle cX3_settle 9 none ∈ z_good ∧ (yX3_settle.cls ≠ "java/lang/invoke/MethodHandle" ∧ yX3_settle.cls ≠ "java/lang/invoke/VarHandle" ∧ (parseMethodDescriptor yX3_settle.desc).map (fun d => d.parameters.length) = some 5) := ⟨(z_gd 42 (by decide +kernel) rfl), (z_gd 635 rfl rfl), by decide +kernel, by decide +kernel, by decide +kernel⟩
theorem yi_X3_settle : Cond.instanceMethod yX3_settle ∈ z_good := (z_gd 633 (by decide +kernel) rfl)
theorem yv_X3_settle : Cond.selects yX3_settle.cls yX3_settle yX3_settle ∈ z_good := (z_gd 634 (by decide +kernel) rfl)
theorem mv_X11_232 : z_MV RX11 232 3 yX3_settle cX3_settle 9 none 5 := ⟨⟨Or.inl (z_gd 632 (by decide +kernel) rfl), yb_X3_settle⟩, yi_X3_settle, yv_X3_settle, by decide, rfl, by decide⟩
theorem mv_X3_35 : z_MV RX3 35 9 yX9_begin cX9_begin 7 none 3 := ⟨⟨Or.inl (z_gd 636 (by decide +kernel) rfl), yb_X9_begin⟩, yi_X9_begin, yv_X9_begin, by decide, rfl, by decide⟩
theorem mv_X3_48 : z_MV RX3 48 1 yX1_worthOfSet cX1_worthOfSet 4 (some .int) 1 := ⟨⟨Or.inl (z_gd 637 (by decide +kernel) rfl), yb_X1_worthOfSet⟩, yi_X1_worthOfSet, yv_X1_worthOfSet, by decide, rfl, by decide⟩
set_option maxRecDepth 20000 in
theorem yb_X3_isPartOf : Cond.initialized yX3_isPartOf.cls ∈ z_good ∧ Cond.code yX3_isPartOf cX3_isPartOf 2 (some .boolean) ∈ z_good ∧ (yX3_isPartOf.cls ≠ "java/lang/invoke/MethodHandle" ∧ yX3_isPartOf.cls ≠ "java/lang/invoke/VarHandle" ∧ (parseMethodDescriptor yX3_isPartOf.desc).map (fun d => d.parameters.length) = some 2) := ⟨(z_gd 42 (by decide +kernel) rfl), (z_gd 640 rfl rfl), by decide +kernel, by decide +kernel, by decide +kernel⟩
theorem ys_X3_isPartOf : Cond.static yX3_isPartOf ∈ z_good := (z_gd 639 (by decide +kernel) rfl)
theorem ms_X3_52 : z_MS RX3 52 yX3_isPartOf cX3_isPartOf 2 (some .boolean) 2 := ⟨⟨Or.inl (z_gd 638 (by decide +kernel) rfl), yb_X3_isPartOf⟩, ys_X3_isPartOf, by decide⟩
theorem mv_X3_56 : z_MV RX3 56 1 yX1_placesOfSet cX1_placesOfSet 4 (some .int) 1 := ⟨⟨Or.inl (z_gd 641 (by decide +kernel) rfl), yb_X1_placesOfSet⟩, yi_X1_placesOfSet, yv_X1_placesOfSet, by decide, rfl, by decide⟩
theorem mv_X3_59 : z_MV RX3 59 9 yX9_by cX9_by 3 (some .int) 1 := ⟨⟨Or.inl (z_gd 642 (by decide +kernel) rfl), yb_X9_by⟩, yi_X9_by, yv_X9_by, by decide, rfl, by decide⟩
set_option maxRecDepth 20000 in
theorem yb_X3_tryWith : Cond.initialized yX3_tryWith.cls ∈ z_good ∧ Cond.code yX3_tryWith cX3_tryWith 7 none ∈ z_good ∧ (yX3_tryWith.cls ≠ "java/lang/invoke/MethodHandle" ∧ yX3_tryWith.cls ≠ "java/lang/invoke/VarHandle" ∧ (parseMethodDescriptor yX3_tryWith.desc).map (fun d => d.parameters.length) = some 4) := ⟨(z_gd 42 (by decide +kernel) rfl), (z_gd 647 rfl rfl), by decide +kernel, by decide +kernel, by decide +kernel⟩
theorem yi_X3_tryWith : Cond.instanceMethod yX3_tryWith ∈ z_good := (z_gd 646 (by decide +kernel) rfl)
theorem yv_X3_tryWith : Cond.selects yX3_tryWith.cls yX3_tryWith yX3_tryWith ∈ z_good := (z_gd 6 (by decide +kernel) rfl)
theorem mv_X3_63 : z_MV RX3 63 3 yX3_tryWith cX3_tryWith 7 none 4 := ⟨⟨Or.inl (z_gd 644 (by decide +kernel) rfl), yb_X3_tryWith⟩, yi_X3_tryWith, yv_X3_tryWith, by decide, rfl, by decide⟩
set_option maxRecDepth 20000 in
theorem yb_X3_isBetter : Cond.initialized yX3_isBetter.cls ∈ z_good ∧ Cond.code yX3_isBetter cX3_isBetter 3 (some .boolean) ∈ z_good ∧ (yX3_isBetter.cls ≠ "java/lang/invoke/MethodHandle" ∧ yX3_isBetter.cls ≠ "java/lang/invoke/VarHandle" ∧ (parseMethodDescriptor yX3_isBetter.desc).map (fun d => d.parameters.length) = some 2) := ⟨(z_gd 42 (by decide +kernel) rfl), (z_gd 651 rfl rfl), by decide +kernel, by decide +kernel, by decide +kernel⟩
theorem yi_X3_isBetter : Cond.instanceMethod yX3_isBetter ∈ z_good := (z_gd 650 (by decide +kernel) rfl)
theorem yv_X3_isBetter : Cond.selects yX3_isBetter.cls yX3_isBetter yX3_isBetter ∈ z_good := (z_gd 7 (by decide +kernel) rfl)
theorem mv_X3_67 : z_MV RX3 67 3 yX3_isBetter cX3_isBetter 3 (some .boolean) 2 := ⟨⟨Or.inl (z_gd 648 (by decide +kernel) rfl), yb_X3_isBetter⟩, yi_X3_isBetter, yv_X3_isBetter, by decide, rfl, by decide⟩
set_option maxRecDepth 20000 in
theorem yb_X11_live : Cond.initialized yX11_live.cls ∈ z_good ∧ Cond.code yX11_live cX11_live 4 (some .int) ∈ z_good ∧ (yX11_live.cls ≠ "java/lang/invoke/MethodHandle" ∧ yX11_live.cls ≠ "java/lang/invoke/VarHandle" ∧ (parseMethodDescriptor yX11_live.desc).map (fun d => d.parameters.length) = some 0) := ⟨(z_gd 36 (by decide +kernel) rfl), (z_gd 655 rfl rfl), by decide +kernel, by decide +kernel, by decide +kernel⟩
theorem yi_X11_live : Cond.instanceMethod yX11_live ∈ z_good := (z_gd 653 (by decide +kernel) rfl)
theorem yv_X11_live : Cond.selects yX11_live.cls yX11_live yX11_live ∈ z_good := (z_gd 654 (by decide +kernel) rfl)
theorem mv_L_89 : z_MV RL 89 11 yX11_live cX11_live 4 (some .int) 0 := ⟨⟨Or.inl (z_gd 652 (by decide +kernel) rfl), yb_X11_live⟩, yi_X11_live, yv_X11_live, by decide, rfl, by decide⟩
set_option maxRecDepth 20000 in
theorem yb_X11_byTurns : Cond.initialized yX11_byTurns.cls ∈ z_good ∧ Cond.code yX11_byTurns cX11_byTurns 6 (some .int) ∈ z_good ∧ (yX11_byTurns.cls ≠ "java/lang/invoke/MethodHandle" ∧ yX11_byTurns.cls ≠ "java/lang/invoke/VarHandle" ∧ (parseMethodDescriptor yX11_byTurns.desc).map (fun d => d.parameters.length) = some 1) := ⟨(z_gd 36 (by decide +kernel) rfl), (z_gd 659 rfl rfl), by decide +kernel, by decide +kernel, by decide +kernel⟩
theorem yi_X11_byTurns : Cond.instanceMethod yX11_byTurns ∈ z_good := (z_gd 657 (by decide +kernel) rfl)
theorem yv_X11_byTurns : Cond.selects yX11_byTurns.cls yX11_byTurns yX11_byTurns ∈ z_good := (z_gd 658 (by decide +kernel) rfl)
theorem mv_L_93 : z_MV RL 93 11 yX11_byTurns cX11_byTurns 6 (some .int) 1 := ⟨⟨Or.inl (z_gd 656 (by decide +kernel) rfl), yb_X11_byTurns⟩, yi_X11_byTurns, yv_X11_byTurns, by decide, rfl, by decide⟩
set_option maxRecDepth 20000 in
theorem yb_J6_bitCount_0f7a4 : Cond.initialized yJ6_bitCount_0f7a4.cls ∈ z_good ∧ Cond.code yJ6_bitCount_0f7a4 cJ6_bitCount_0f7a4 1 (some .int) ∈ z_good ∧ (yJ6_bitCount_0f7a4.cls ≠ "java/lang/invoke/MethodHandle" ∧ yJ6_bitCount_0f7a4.cls ≠ "java/lang/invoke/VarHandle" ∧ (parseMethodDescriptor yJ6_bitCount_0f7a4.desc).map (fun d => d.parameters.length) = some 1) := ⟨(z_gd 50 (by decide +kernel) rfl), (z_gd 662 rfl rfl), by decide +kernel, by decide +kernel, by decide +kernel⟩
theorem ys_J6_bitCount_0f7a4 : Cond.static yJ6_bitCount_0f7a4 ∈ z_good := (z_gd 661 (by decide +kernel) rfl)
theorem ms_X11_253 : z_MS RX11 253 yJ6_bitCount_0f7a4 cJ6_bitCount_0f7a4 1 (some .int) 1 := ⟨⟨Or.inl (z_gd 660 (by decide +kernel) rfl), yb_J6_bitCount_0f7a4⟩, ys_J6_bitCount_0f7a4, by decide⟩
set_option maxRecDepth 20000 in
theorem yb_X10_begin : Cond.initialized yX10_begin.cls ∈ z_good ∧ Cond.code yX10_begin cX10_begin 2 none ∈ z_good ∧ (yX10_begin.cls ≠ "java/lang/invoke/MethodHandle" ∧ yX10_begin.cls ≠ "java/lang/invoke/VarHandle" ∧ (parseMethodDescriptor yX10_begin.desc).map (fun d => d.parameters.length) = some 1) := ⟨(z_gd 43 (by decide +kernel) rfl), (z_gd 669 rfl rfl), by decide +kernel, by decide +kernel, by decide +kernel⟩
theorem yi_X10_begin : Cond.instanceMethod yX10_begin ∈ z_good := (z_gd 667 (by decide +kernel) rfl)
theorem yv_X10_begin : Cond.selects yX10_begin.cls yX10_begin yX10_begin ∈ z_good := (z_gd 668 (by decide +kernel) rfl)
theorem mv_X11_258 : z_MV RX11 258 10 yX10_begin cX10_begin 2 none 1 := ⟨⟨Or.inl (z_gd 666 (by decide +kernel) rfl), yb_X10_begin⟩, yi_X10_begin, yv_X10_begin, by decide, rfl, by decide⟩
set_option maxRecDepth 20000 in
theorem yb_X10_homeward : Cond.initialized yX10_homeward.cls ∈ z_good ∧ Cond.code yX10_homeward cX10_homeward 2 (some .int) ∈ z_good ∧ (yX10_homeward.cls ≠ "java/lang/invoke/MethodHandle" ∧ yX10_homeward.cls ≠ "java/lang/invoke/VarHandle" ∧ (parseMethodDescriptor yX10_homeward.desc).map (fun d => d.parameters.length) = some 1) := ⟨(z_gd 43 (by decide +kernel) rfl), (z_gd 673 rfl rfl), by decide +kernel, by decide +kernel, by decide +kernel⟩
theorem yi_X10_homeward : Cond.instanceMethod yX10_homeward ∈ z_good := (z_gd 671 (by decide +kernel) rfl)
theorem yv_X10_homeward : Cond.selects yX10_homeward.cls yX10_homeward yX10_homeward ∈ z_good := (z_gd 672 (by decide +kernel) rfl)
theorem mv_X11_261 : z_MV RX11 261 10 yX10_homeward cX10_homeward 2 (some .int) 1 := ⟨⟨Or.inl (z_gd 670 (by decide +kernel) rfl), yb_X10_homeward⟩, yi_X10_homeward, yv_X10_homeward, by decide, rfl, by decide⟩
theorem mv_X10_15 : z_MV RX10 15 1 yX1_between cX1_between 3 (some .int) 2 := ⟨⟨Or.inl (z_gd 674 (by decide +kernel) rfl), yb_X1_between⟩, yi_X1_between, yv_X1_between, by decide, rfl, by decide⟩
theorem mv_X10_21 : z_MV RX10 21 10 yX10_homeward cX10_homeward 2 (some .int) 1 := ⟨⟨Or.inl (z_gd 678 (by decide +kernel) rfl), yb_X10_homeward⟩, yi_X10_homeward, yv_X10_homeward, by decide, rfl, by decide⟩
set_option maxRecDepth 20000 in
theorem yb_X10_play : Cond.initialized yX10_play.cls ∈ z_good ∧ Cond.code yX10_play cX10_play 16 (some .int) ∈ z_good ∧ (yX10_play.cls ≠ "java/lang/invoke/MethodHandle" ∧ yX10_play.cls ≠ "java/lang/invoke/VarHandle" ∧ (parseMethodDescriptor yX10_play.desc).map (fun d => d.parameters.length) = some 7) := ⟨(z_gd 43 (by decide +kernel) rfl), (z_gd 677 rfl rfl), by decide +kernel, by decide +kernel, by decide +kernel⟩
theorem ys_X10_play : Cond.static yX10_play ∈ z_good := (z_gd 676 (by decide +kernel) rfl)
theorem ms_X10_25 : z_MS RX10 25 yX10_play cX10_play 16 (some .int) 7 := ⟨⟨Or.inl (z_gd 679 (by decide +kernel) rfl), yb_X10_play⟩, ys_X10_play, by decide⟩
theorem mv_X10_29 : z_MV RX10 29 1 yX1_canDo cX1_canDo 3 (some .boolean) 2 := ⟨⟨Or.inl (z_gd 680 (by decide +kernel) rfl), yb_X1_canDo⟩, yi_X1_canDo, yv_X1_canDo, by decide, rfl, by decide⟩
theorem mv_X10_33 : z_MV RX10 33 1 yX1_siteOf cX1_siteOf 2 (some .int) 1 := ⟨⟨Or.inl (z_gd 681 (by decide +kernel) rfl), yb_X1_siteOf⟩, yi_X1_siteOf, yv_X1_siteOf, by decide, rfl, by decide⟩
theorem mv_X10_36 : z_MV RX10 36 1 yX1_worthOf cX1_worthOf 2 (some .int) 1 := ⟨⟨Or.inl (z_gd 682 (by decide +kernel) rfl), yb_X1_worthOf⟩, yi_X1_worthOf, yv_X1_worthOf, by decide, rfl, by decide⟩
set_option maxRecDepth 20000 in
theorem yb_X10_share : Cond.initialized yX10_share.cls ∈ z_good ∧ Cond.code yX10_share cX10_share 2 (some .int) ∈ z_good ∧ (yX10_share.cls ≠ "java/lang/invoke/MethodHandle" ∧ yX10_share.cls ≠ "java/lang/invoke/VarHandle" ∧ (parseMethodDescriptor yX10_share.desc).map (fun d => d.parameters.length) = some 2) := ⟨(z_gd 43 (by decide +kernel) rfl), (z_gd 685 rfl rfl), by decide +kernel, by decide +kernel, by decide +kernel⟩
theorem ys_X10_share : Cond.static yX10_share ∈ z_good := (z_gd 684 (by decide +kernel) rfl)
theorem ms_X10_39 : z_MS RX10 39 yX10_share cX10_share 2 (some .int) 2 := ⟨⟨Or.inl (z_gd 683 (by decide +kernel) rfl), yb_X10_share⟩, ys_X10_share, by decide⟩
theorem ms_X11_268 : z_MS RX11 268 yX10_share cX10_share 2 (some .int) 2 := ⟨⟨Or.inl (z_gd 686 (by decide +kernel) rfl), yb_X10_share⟩, ys_X10_share, by decide⟩
set_option maxRecDepth 20000 in
theorem yb_X11_ledger : Cond.initialized yX11_ledger.cls ∈ z_good ∧ Cond.code yX11_ledger cX11_ledger 7 (some .long) ∈ z_good ∧ (yX11_ledger.cls ≠ "java/lang/invoke/MethodHandle" ∧ yX11_ledger.cls ≠ "java/lang/invoke/VarHandle" ∧ (parseMethodDescriptor yX11_ledger.desc).map (fun d => d.parameters.length) = some 3) := ⟨(z_gd 36 (by decide +kernel) rfl), (z_gd 690 rfl rfl), by decide +kernel, by decide +kernel, by decide +kernel⟩
theorem yi_X11_ledger : Cond.instanceMethod yX11_ledger ∈ z_good := (z_gd 688 (by decide +kernel) rfl)
theorem yv_X11_ledger : Cond.selects yX11_ledger.cls yX11_ledger yX11_ledger ∈ z_good := (z_gd 689 (by decide +kernel) rfl)
theorem mv_L_97 : z_MV RL 97 11 yX11_ledger cX11_ledger 7 (some .long) 3 := ⟨⟨Or.inl (z_gd 687 (by decide +kernel) rfl), yb_X11_ledger⟩, yi_X11_ledger, yv_X11_ledger, by decide, rfl, by decide⟩
set_option maxRecDepth 20000 in
theorem yb_X5_count : Cond.initialized yX5_count.cls ∈ z_good ∧ Cond.code yX5_count cX5_count 8 none ∈ z_good ∧ (yX5_count.cls ≠ "java/lang/invoke/MethodHandle" ∧ yX5_count.cls ≠ "java/lang/invoke/VarHandle" ∧ (parseMethodDescriptor yX5_count.desc).map (fun d => d.parameters.length) = some 4) := ⟨(z_gd 44 (by decide +kernel) rfl), (z_gd 696 rfl rfl), by decide +kernel, by decide +kernel, by decide +kernel⟩
theorem yi_X5_count : Cond.instanceMethod yX5_count ∈ z_good := (z_gd 694 (by decide +kernel) rfl)
theorem yv_X5_count : Cond.selects yX5_count.cls yX5_count yX5_count ∈ z_good := (z_gd 695 (by decide +kernel) rfl)
theorem mv_X11_275 : z_MV RX11 275 5 yX5_count cX5_count 8 none 4 := ⟨⟨Or.inl (z_gd 693 (by decide +kernel) rfl), yb_X5_count⟩, yi_X5_count, yv_X5_count, by decide, rfl, by decide⟩
set_option maxRecDepth 20000 in
theorem yb_X5_clear : Cond.initialized yX5_clear.cls ∈ z_good ∧ Cond.code yX5_clear cX5_clear 4 none ∈ z_good ∧ (yX5_clear.cls ≠ "java/lang/invoke/MethodHandle" ∧ yX5_clear.cls ≠ "java/lang/invoke/VarHandle" ∧ (parseMethodDescriptor yX5_clear.desc).map (fun d => d.parameters.length) = some 1) := ⟨(z_gd 44 (by decide +kernel) rfl), (z_gd 700 rfl rfl), by decide +kernel, by decide +kernel, by decide +kernel⟩
theorem yi_X5_clear : Cond.instanceMethod yX5_clear ∈ z_good := (z_gd 699 (by decide +kernel) rfl)
theorem yv_X5_clear : Cond.selects yX5_clear.cls yX5_clear yX5_clear ∈ z_good := (z_gd 8 (by decide +kernel) rfl)
theorem mv_X5_22 : z_MV RX5 22 5 yX5_clear cX5_clear 4 none 1 := ⟨⟨Or.inl (z_gd 697 (by decide +kernel) rfl), yb_X5_clear⟩, yi_X5_clear, yv_X5_clear, by decide, rfl, by decide⟩
theorem mv_X5_26 : z_MV RX5 26 1 yX1_isPlace cX1_isPlace 2 (some .boolean) 1 := ⟨⟨Or.inl (z_gd 701 (by decide +kernel) rfl), yb_X1_isPlace⟩, yi_X1_isPlace, yv_X1_isPlace, by decide, rfl, by decide⟩
set_option maxRecDepth 20000 in
theorem mx_X5_32 : z_MM RX5 32 Lib.Math.min.name Lib.Math.min.code 2 := ⟨(z_gd 702 (by decide +kernel) rfl), (z_gd 260 (by decide +kernel) rfl), (z_gd 47 (by decide +kernel) rfl), (z_gd 261 (by decide +kernel) rfl)⟩
set_option maxRecDepth 20000 in
theorem yb_X1_farthest : Cond.initialized yX1_farthest.cls ∈ z_good ∧ Cond.code yX1_farthest cX1_farthest 4 (some .int) ∈ z_good ∧ (yX1_farthest.cls ≠ "java/lang/invoke/MethodHandle" ∧ yX1_farthest.cls ≠ "java/lang/invoke/VarHandle" ∧ (parseMethodDescriptor yX1_farthest.desc).map (fun d => d.parameters.length) = some 0) := ⟨(z_gd 46 (by decide +kernel) rfl), (z_gd 706 rfl rfl), by decide +kernel, by decide +kernel, by decide +kernel⟩
theorem yi_X1_farthest : Cond.instanceMethod yX1_farthest ∈ z_good := (z_gd 704 (by decide +kernel) rfl)
theorem yv_X1_farthest : Cond.selects yX1_farthest.cls yX1_farthest yX1_farthest ∈ z_good := (z_gd 705 (by decide +kernel) rfl)
theorem mv_X5_38 : z_MV RX5 38 1 yX1_farthest cX1_farthest 4 (some .int) 0 := ⟨⟨Or.inl (z_gd 703 (by decide +kernel) rfl), yb_X1_farthest⟩, yi_X1_farthest, yv_X1_farthest, by decide, rfl, by decide⟩
theorem mv_X1_69 : z_MV RX1 69 1 yX1_between cX1_between 3 (some .int) 2 := ⟨⟨Or.inl (z_gd 707 (by decide +kernel) rfl), yb_X1_between⟩, yi_X1_between, yv_X1_between, by decide, rfl, by decide⟩
set_option maxRecDepth 20000 in
theorem yb_X5_goOn : Cond.initialized yX5_goOn.cls ∈ z_good ∧ Cond.code yX5_goOn cX5_goOn 7 none ∈ z_good ∧ (yX5_goOn.cls ≠ "java/lang/invoke/MethodHandle" ∧ yX5_goOn.cls ≠ "java/lang/invoke/VarHandle" ∧ (parseMethodDescriptor yX5_goOn.desc).map (fun d => d.parameters.length) = some 3) := ⟨(z_gd 44 (by decide +kernel) rfl), (z_gd 711 rfl rfl), by decide +kernel, by decide +kernel, by decide +kernel⟩
theorem yi_X5_goOn : Cond.instanceMethod yX5_goOn ∈ z_good := (z_gd 710 (by decide +kernel) rfl)
theorem yv_X5_goOn : Cond.selects yX5_goOn.cls yX5_goOn yX5_goOn ∈ z_good := (z_gd 9 (by decide +kernel) rfl)
theorem mv_X5_45 : z_MV RX5 45 5 yX5_goOn cX5_goOn 7 none 3 := ⟨⟨Or.inl (z_gd 708 (by decide +kernel) rfl), yb_X5_goOn⟩, yi_X5_goOn, yv_X5_goOn, by decide, rfl, by decide⟩
theorem mv_X5_49 : z_MV RX5 49 1 yX1_between cX1_between 3 (some .int) 2 := ⟨⟨Or.inl (z_gd 712 (by decide +kernel) rfl), yb_X1_between⟩, yi_X1_between, yv_X1_between, by decide, rfl, by decide⟩
set_option maxRecDepth 20000 in
theorem yb_X5_endingAt : Cond.initialized yX5_endingAt.cls ∈ z_good ∧ Cond.code yX5_endingAt cX5_endingAt 3 (some .int) ∈ z_good ∧ (yX5_endingAt.cls ≠ "java/lang/invoke/MethodHandle" ∧ yX5_endingAt.cls ≠ "java/lang/invoke/VarHandle" ∧ (parseMethodDescriptor yX5_endingAt.desc).map (fun d => d.parameters.length) = some 2) := ⟨(z_gd 44 (by decide +kernel) rfl), (z_gd 717 rfl rfl), by decide +kernel, by decide +kernel, by decide +kernel⟩
theorem yi_X5_endingAt : Cond.instanceMethod yX5_endingAt ∈ z_good := (z_gd 715 (by decide +kernel) rfl)
theorem yv_X5_endingAt : Cond.selects yX5_endingAt.cls yX5_endingAt yX5_endingAt ∈ z_good := (z_gd 716 (by decide +kernel) rfl)
theorem mv_X11_278 : z_MV RX11 278 5 yX5_endingAt cX5_endingAt 3 (some .int) 2 := ⟨⟨Or.inl (z_gd 714 (by decide +kernel) rfl), yb_X5_endingAt⟩, yi_X5_endingAt, yv_X5_endingAt, by decide, rfl, by decide⟩
set_option maxRecDepth 20000 in
theorem yb_X11_ends : Cond.initialized yX11_ends.cls ∈ z_good ∧ Cond.code yX11_ends cX11_ends 6 (some .int) ∈ z_good ∧ (yX11_ends.cls ≠ "java/lang/invoke/MethodHandle" ∧ yX11_ends.cls ≠ "java/lang/invoke/VarHandle" ∧ (parseMethodDescriptor yX11_ends.desc).map (fun d => d.parameters.length) = some 3) := ⟨(z_gd 36 (by decide +kernel) rfl), (z_gd 721 rfl rfl), by decide +kernel, by decide +kernel, by decide +kernel⟩
theorem yi_X11_ends : Cond.instanceMethod yX11_ends ∈ z_good := (z_gd 719 (by decide +kernel) rfl)
theorem yv_X11_ends : Cond.selects yX11_ends.cls yX11_ends yX11_ends ∈ z_good := (z_gd 720 (by decide +kernel) rfl)
theorem mv_L_102 : z_MV RL 102 11 yX11_ends cX11_ends 6 (some .int) 3 := ⟨⟨Or.inl (z_gd 718 (by decide +kernel) rfl), yb_X11_ends⟩, yi_X11_ends, yv_X11_ends, by decide, rfl, by decide⟩
set_option maxRecDepth 20000 in
theorem yb_X11_chance : Cond.initialized yX11_chance.cls ∈ z_good ∧ Cond.code yX11_chance cX11_chance 10 (some .long) ∈ z_good ∧ (yX11_chance.cls ≠ "java/lang/invoke/MethodHandle" ∧ yX11_chance.cls ≠ "java/lang/invoke/VarHandle" ∧ (parseMethodDescriptor yX11_chance.desc).map (fun d => d.parameters.length) = some 3) := ⟨(z_gd 36 (by decide +kernel) rfl), (z_gd 725 rfl rfl), by decide +kernel, by decide +kernel, by decide +kernel⟩
theorem yi_X11_chance : Cond.instanceMethod yX11_chance ∈ z_good := (z_gd 723 (by decide +kernel) rfl)
theorem yv_X11_chance : Cond.selects yX11_chance.cls yX11_chance yX11_chance ∈ z_good := (z_gd 724 (by decide +kernel) rfl)
theorem mv_L_106 : z_MV RL 106 11 yX11_chance cX11_chance 10 (some .long) 3 := ⟨⟨Or.inl (z_gd 722 (by decide +kernel) rfl), yb_X11_chance⟩, yi_X11_chance, yv_X11_chance, by decide, rfl, by decide⟩
set_option maxRecDepth 20000 in
theorem yb_X11_prepareGuess : Cond.initialized yX11_prepareGuess.cls ∈ z_good ∧ Cond.code yX11_prepareGuess cX11_prepareGuess 2 none ∈ z_good ∧ (yX11_prepareGuess.cls ≠ "java/lang/invoke/MethodHandle" ∧ yX11_prepareGuess.cls ≠ "java/lang/invoke/VarHandle" ∧ (parseMethodDescriptor yX11_prepareGuess.desc).map (fun d => d.parameters.length) = some 1) := ⟨(z_gd 36 (by decide +kernel) rfl), (z_gd 729 rfl rfl), by decide +kernel, by decide +kernel, by decide +kernel⟩
theorem yi_X11_prepareGuess : Cond.instanceMethod yX11_prepareGuess ∈ z_good := (z_gd 728 (by decide +kernel) rfl)
theorem yv_X11_prepareGuess : Cond.selects yX11_prepareGuess.cls yX11_prepareGuess yX11_prepareGuess ∈ z_good := (z_gd 10 (by decide +kernel) rfl)
theorem mv_X11_281 : z_MV RX11 281 11 yX11_prepareGuess cX11_prepareGuess 2 none 1 := ⟨⟨Or.inl (z_gd 726 (by decide +kernel) rfl), yb_X11_prepareGuess⟩, yi_X11_prepareGuess, yv_X11_prepareGuess, by decide, rfl, by decide⟩
set_option maxRecDepth 20000 in
theorem yb_X2_prepare : Cond.initialized yX2_prepare.cls ∈ z_good ∧ Cond.code yX2_prepare cX2_prepare 7 none ∈ z_good ∧ (yX2_prepare.cls ≠ "java/lang/invoke/MethodHandle" ∧ yX2_prepare.cls ≠ "java/lang/invoke/VarHandle" ∧ (parseMethodDescriptor yX2_prepare.desc).map (fun d => d.parameters.length) = some 3) := ⟨(z_gd 45 (by decide +kernel) rfl), (z_gd 733 rfl rfl), by decide +kernel, by decide +kernel, by decide +kernel⟩
theorem yi_X2_prepare : Cond.instanceMethod yX2_prepare ∈ z_good := (z_gd 731 (by decide +kernel) rfl)
theorem yv_X2_prepare : Cond.selects yX2_prepare.cls yX2_prepare yX2_prepare ∈ z_good := (z_gd 732 (by decide +kernel) rfl)
theorem mv_X11_308 : z_MV RX11 308 2 yX2_prepare cX2_prepare 7 none 3 := ⟨⟨Or.inl (z_gd 730 (by decide +kernel) rfl), yb_X2_prepare⟩, yi_X2_prepare, yv_X2_prepare, by decide, rfl, by decide⟩
theorem mv_X2_30 : z_MV RX2 30 1 yX1_placesOfSet cX1_placesOfSet 4 (some .int) 1 := ⟨⟨Or.inl (z_gd 734 (by decide +kernel) rfl), yb_X1_placesOfSet⟩, yi_X1_placesOfSet, yv_X1_placesOfSet, by decide, rfl, by decide⟩
theorem mv_X2_34 : z_MV RX2 34 9 yX9_by cX9_by 3 (some .int) 1 := ⟨⟨Or.inl (z_gd 735 (by decide +kernel) rfl), yb_X9_by⟩, yi_X9_by, yv_X9_by, by decide, rfl, by decide⟩
set_option maxRecDepth 20000 in
theorem yb_X2_weightWithin : Cond.initialized yX2_weightWithin.cls ∈ z_good ∧ Cond.code yX2_weightWithin cX2_weightWithin 4 (some .int) ∈ z_good ∧ (yX2_weightWithin.cls ≠ "java/lang/invoke/MethodHandle" ∧ yX2_weightWithin.cls ≠ "java/lang/invoke/VarHandle" ∧ (parseMethodDescriptor yX2_weightWithin.desc).map (fun d => d.parameters.length) = some 1) := ⟨(z_gd 45 (by decide +kernel) rfl), (z_gd 739 rfl rfl), by decide +kernel, by decide +kernel, by decide +kernel⟩
theorem yi_X2_weightWithin : Cond.instanceMethod yX2_weightWithin ∈ z_good := (z_gd 737 (by decide +kernel) rfl)
theorem yv_X2_weightWithin : Cond.selects yX2_weightWithin.cls yX2_weightWithin yX2_weightWithin ∈ z_good := (z_gd 738 (by decide +kernel) rfl)
theorem mv_X11_284 : z_MV RX11 284 2 yX2_weightWithin cX2_weightWithin 4 (some .int) 1 := ⟨⟨Or.inl (z_gd 736 (by decide +kernel) rfl), yb_X2_weightWithin⟩, yi_X2_weightWithin, yv_X2_weightWithin, by decide, rfl, by decide⟩
set_option maxRecDepth 20000 in
theorem yb_X11_commonDivisor : Cond.initialized yX11_commonDivisor.cls ∈ z_good ∧ Cond.code yX11_commonDivisor cX11_commonDivisor 11 (some .long) ∈ z_good ∧ (yX11_commonDivisor.cls ≠ "java/lang/invoke/MethodHandle" ∧ yX11_commonDivisor.cls ≠ "java/lang/invoke/VarHandle" ∧ (parseMethodDescriptor yX11_commonDivisor.desc).map (fun d => d.parameters.length) = some 2) := ⟨(z_gd 36 (by decide +kernel) rfl), (z_gd 742 rfl rfl), by decide +kernel, by decide +kernel, by decide +kernel⟩
theorem ys_X11_commonDivisor : Cond.static yX11_commonDivisor ∈ z_good := (z_gd 741 (by decide +kernel) rfl)
theorem ms_X11_290 : z_MS RX11 290 yX11_commonDivisor cX11_commonDivisor 11 (some .long) 2 := ⟨⟨Or.inl (z_gd 740 (by decide +kernel) rfl), yb_X11_commonDivisor⟩, ys_X11_commonDivisor, by decide⟩
set_option maxRecDepth 20000 in
theorem yb_X11_spare : Cond.initialized yX11_spare.cls ∈ z_good ∧ Cond.code yX11_spare cX11_spare 3 (some .int) ∈ z_good ∧ (yX11_spare.cls ≠ "java/lang/invoke/MethodHandle" ∧ yX11_spare.cls ≠ "java/lang/invoke/VarHandle" ∧ (parseMethodDescriptor yX11_spare.desc).map (fun d => d.parameters.length) = some 2) := ⟨(z_gd 36 (by decide +kernel) rfl), (z_gd 746 rfl rfl), by decide +kernel, by decide +kernel, by decide +kernel⟩
theorem yi_X11_spare : Cond.instanceMethod yX11_spare ∈ z_good := (z_gd 744 (by decide +kernel) rfl)
theorem yv_X11_spare : Cond.selects yX11_spare.cls yX11_spare yX11_spare ∈ z_good := (z_gd 745 (by decide +kernel) rfl)
theorem mv_L_111 : z_MV RL 111 11 yX11_spare cX11_spare 3 (some .int) 2 := ⟨⟨Or.inl (z_gd 743 (by decide +kernel) rfl), yb_X11_spare⟩, yi_X11_spare, yv_X11_spare, by decide, rfl, by decide⟩
set_option maxRecDepth 20000 in
theorem yb_X2_leastSteps : Cond.initialized yX2_leastSteps.cls ∈ z_good ∧ Cond.code yX2_leastSteps cX2_leastSteps 6 (some .int) ∈ z_good ∧ (yX2_leastSteps.cls ≠ "java/lang/invoke/MethodHandle" ∧ yX2_leastSteps.cls ≠ "java/lang/invoke/VarHandle" ∧ (parseMethodDescriptor yX2_leastSteps.desc).map (fun d => d.parameters.length) = some 1) := ⟨(z_gd 45 (by decide +kernel) rfl), (z_gd 750 rfl rfl), by decide +kernel, by decide +kernel, by decide +kernel⟩
theorem yi_X2_leastSteps : Cond.instanceMethod yX2_leastSteps ∈ z_good := (z_gd 748 (by decide +kernel) rfl)
theorem yv_X2_leastSteps : Cond.selects yX2_leastSteps.cls yX2_leastSteps yX2_leastSteps ∈ z_good := (z_gd 749 (by decide +kernel) rfl)
theorem mv_X11_294 : z_MV RX11 294 2 yX2_leastSteps cX2_leastSteps 6 (some .int) 1 := ⟨⟨Or.inl (z_gd 747 (by decide +kernel) rfl), yb_X2_leastSteps⟩, yi_X2_leastSteps, yv_X2_leastSteps, by decide, rfl, by decide⟩
theorem mv_X2_41 : z_MV RX2 41 2 yX2_weightWithin cX2_weightWithin 4 (some .int) 1 := ⟨⟨Or.inl (z_gd 752 (by decide +kernel) rfl), yb_X2_weightWithin⟩, yi_X2_weightWithin, yv_X2_weightWithin, by decide, rfl, by decide⟩
set_option maxRecDepth 20000 in
theorem yb_X11_keep : Cond.initialized yX11_keep.cls ∈ z_good ∧ Cond.code yX11_keep cX11_keep 2 (some .int) ∈ z_good ∧ (yX11_keep.cls ≠ "java/lang/invoke/MethodHandle" ∧ yX11_keep.cls ≠ "java/lang/invoke/VarHandle" ∧ (parseMethodDescriptor yX11_keep.desc).map (fun d => d.parameters.length) = some 1) := ⟨(z_gd 36 (by decide +kernel) rfl), (z_gd 756 rfl rfl), by decide +kernel, by decide +kernel, by decide +kernel⟩
theorem yi_X11_keep : Cond.instanceMethod yX11_keep ∈ z_good := (z_gd 754 (by decide +kernel) rfl)
theorem yv_X11_keep : Cond.selects yX11_keep.cls yX11_keep yX11_keep ∈ z_good := (z_gd 755 (by decide +kernel) rfl)
theorem mv_L_115 : z_MV RL 115 11 yX11_keep cX11_keep 2 (some .int) 1 := ⟨⟨Or.inl (z_gd 753 (by decide +kernel) rfl), yb_X11_keep⟩, yi_X11_keep, yv_X11_keep, by decide, rfl, by decide⟩
set_option maxRecDepth 20000 in
theorem yb_X6_put : Cond.initialized yX6_put.cls ∈ z_good ∧ Cond.code yX6_put cX6_put 3 none ∈ z_good ∧ (yX6_put.cls ≠ "java/lang/invoke/MethodHandle" ∧ yX6_put.cls ≠ "java/lang/invoke/VarHandle" ∧ (parseMethodDescriptor yX6_put.desc).map (fun d => d.parameters.length) = some 2) := ⟨(z_gd 40 (by decide +kernel) rfl), (z_gd 760 rfl rfl), by decide +kernel, by decide +kernel, by decide +kernel⟩
theorem yi_X6_put : Cond.instanceMethod yX6_put ∈ z_good := (z_gd 758 (by decide +kernel) rfl)
theorem yv_X6_put : Cond.selects yX6_put.cls yX6_put yX6_put ∈ z_good := (z_gd 759 (by decide +kernel) rfl)
theorem mv_X11_297 : z_MV RX11 297 6 yX6_put cX6_put 3 none 2 := ⟨⟨Or.inl (z_gd 757 (by decide +kernel) rfl), yb_X6_put⟩, yi_X6_put, yv_X6_put, by decide, rfl, by decide⟩
theorem mv_X6_22 : z_MV RX6 22 7 yX7_copyOf cX7_copyOf 3 none 1 := ⟨⟨Or.inl (z_gd 761 (by decide +kernel) rfl), yb_X7_copyOf⟩, yi_X7_copyOf, yv_X7_copyOf, by decide, rfl, by decide⟩
set_option maxRecDepth 20000 in
theorem yb_X11_again : Cond.initialized yX11_again.cls ∈ z_good ∧ Cond.code yX11_again cX11_again 2 (some .int) ∈ z_good ∧ (yX11_again.cls ≠ "java/lang/invoke/MethodHandle" ∧ yX11_again.cls ≠ "java/lang/invoke/VarHandle" ∧ (parseMethodDescriptor yX11_again.desc).map (fun d => d.parameters.length) = some 1) := ⟨(z_gd 36 (by decide +kernel) rfl), (z_gd 765 rfl rfl), by decide +kernel, by decide +kernel, by decide +kernel⟩
theorem yi_X11_again : Cond.instanceMethod yX11_again ∈ z_good := (z_gd 763 (by decide +kernel) rfl)
theorem yv_X11_again : Cond.selects yX11_again.cls yX11_again yX11_again ∈ z_good := (z_gd 764 (by decide +kernel) rfl)
theorem mv_L_119 : z_MV RL 119 11 yX11_again cX11_again 2 (some .int) 1 := ⟨⟨Or.inl (z_gd 762 (by decide +kernel) rfl), yb_X11_again⟩, yi_X11_again, yv_X11_again, by decide, rfl, by decide⟩
set_option maxRecDepth 20000 in
theorem yb_X6_holds : Cond.initialized yX6_holds.cls ∈ z_good ∧ Cond.code yX6_holds cX6_holds 2 (some .boolean) ∈ z_good ∧ (yX6_holds.cls ≠ "java/lang/invoke/MethodHandle" ∧ yX6_holds.cls ≠ "java/lang/invoke/VarHandle" ∧ (parseMethodDescriptor yX6_holds.desc).map (fun d => d.parameters.length) = some 1) := ⟨(z_gd 40 (by decide +kernel) rfl), (z_gd 769 rfl rfl), by decide +kernel, by decide +kernel, by decide +kernel⟩
theorem yi_X6_holds : Cond.instanceMethod yX6_holds ∈ z_good := (z_gd 767 (by decide +kernel) rfl)
theorem yv_X6_holds : Cond.selects yX6_holds.cls yX6_holds yX6_holds ∈ z_good := (z_gd 768 (by decide +kernel) rfl)
theorem mv_X11_301 : z_MV RX11 301 6 yX6_holds cX6_holds 2 (some .boolean) 1 := ⟨⟨Or.inl (z_gd 766 (by decide +kernel) rfl), yb_X6_holds⟩, yi_X6_holds, yv_X6_holds, by decide, rfl, by decide⟩
set_option maxRecDepth 20000 in
theorem yb_X6_fetch : Cond.initialized yX6_fetch.cls ∈ z_good ∧ Cond.code yX6_fetch cX6_fetch 3 none ∈ z_good ∧ (yX6_fetch.cls ≠ "java/lang/invoke/MethodHandle" ∧ yX6_fetch.cls ≠ "java/lang/invoke/VarHandle" ∧ (parseMethodDescriptor yX6_fetch.desc).map (fun d => d.parameters.length) = some 2) := ⟨(z_gd 40 (by decide +kernel) rfl), (z_gd 773 rfl rfl), by decide +kernel, by decide +kernel, by decide +kernel⟩
theorem yi_X6_fetch : Cond.instanceMethod yX6_fetch ∈ z_good := (z_gd 771 (by decide +kernel) rfl)
theorem yv_X6_fetch : Cond.selects yX6_fetch.cls yX6_fetch yX6_fetch ∈ z_good := (z_gd 772 (by decide +kernel) rfl)
theorem mv_X11_304 : z_MV RX11 304 6 yX6_fetch cX6_fetch 3 none 2 := ⟨⟨Or.inl (z_gd 770 (by decide +kernel) rfl), yb_X6_fetch⟩, yi_X6_fetch, yv_X6_fetch, by decide, rfl, by decide⟩
theorem mv_X6_26 : z_MV RX6 26 6 yX6_holds cX6_holds 2 (some .boolean) 1 := ⟨⟨Or.inl (z_gd 774 (by decide +kernel) rfl), yb_X6_holds⟩, yi_X6_holds, yv_X6_holds, by decide, rfl, by decide⟩
set_option maxRecDepth 20000 in
theorem yb_X12_init : Cond.initialized yX12_init.cls ∈ z_good ∧ Cond.code yX12_init cX12_init 2 none ∈ z_good ∧ (yX12_init.cls ≠ "java/lang/invoke/MethodHandle" ∧ yX12_init.cls ≠ "java/lang/invoke/VarHandle" ∧ (parseMethodDescriptor yX12_init.desc).map (fun d => d.parameters.length) = some 0) := ⟨(z_gd 48 (by decide +kernel) rfl), (z_gd 779 rfl rfl), by decide +kernel, by decide +kernel, by decide +kernel⟩
theorem yi_X12_init : Cond.instanceMethod yX12_init ∈ z_good := (z_gd 778 (by decide +kernel) rfl)
theorem mi_L_12 : z_MI RL 12 yX12_init cX12_init 2 0 := ⟨⟨Or.inl (z_gd 777 (by decide +kernel) rfl), yb_X12_init⟩, yi_X12_init, rfl, by decide⟩
theorem oi_X12_1 : Cond.methodLink RX12 1 Lib.objectInit ∈ z_good := (z_gd 780 (by decide +kernel) rfl)
set_option maxRecDepth 20000 in
theorem yb_X12_write : Cond.initialized yX12_write.cls ∈ z_good ∧ Cond.code yX12_write cX12_write 5 (some .int) ∈ z_good ∧ (yX12_write.cls ≠ "java/lang/invoke/MethodHandle" ∧ yX12_write.cls ≠ "java/lang/invoke/VarHandle" ∧ (parseMethodDescriptor yX12_write.desc).map (fun d => d.parameters.length) = some 2) := ⟨(z_gd 48 (by decide +kernel) rfl), (z_gd 934 rfl rfl), by decide +kernel, by decide +kernel, by decide +kernel⟩
theorem yi_X12_write : Cond.instanceMethod yX12_write ∈ z_good := (z_gd 932 (by decide +kernel) rfl)
theorem yv_X12_write : Cond.selects yX12_write.cls yX12_write yX12_write ∈ z_good := (z_gd 933 (by decide +kernel) rfl)
theorem mv_L_19 : z_MV RL 19 12 yX12_write cX12_write 5 (some .int) 2 := ⟨⟨Or.inl (z_gd 931 (by decide +kernel) rfl), yb_X12_write⟩, yi_X12_write, yv_X12_write, by decide, rfl, by decide⟩
set_option maxRecDepth 20000 in
theorem yb_X12_in : Cond.initialized yX12_in.cls ∈ z_good ∧ Cond.code yX12_in cX12_in 6 (some .boolean) ∈ z_good ∧ (yX12_in.cls ≠ "java/lang/invoke/MethodHandle" ∧ yX12_in.cls ≠ "java/lang/invoke/VarHandle" ∧ (parseMethodDescriptor yX12_in.desc).map (fun d => d.parameters.length) = some 3) := ⟨(z_gd 48 (by decide +kernel) rfl), (z_gd 938 rfl rfl), by decide +kernel, by decide +kernel, by decide +kernel⟩
theorem ys_X12_in : Cond.static yX12_in ∈ z_good := (z_gd 937 (by decide +kernel) rfl)
theorem ms_X12_107 : z_MS RX12 107 yX12_in cX12_in 6 (some .boolean) 3 := ⟨⟨Or.inl (z_gd 936 (by decide +kernel) rfl), yb_X12_in⟩, ys_X12_in, by decide⟩
set_option maxRecDepth 20000 in
theorem yb_X12_wipe : Cond.initialized yX12_wipe.cls ∈ z_good ∧ Cond.code yX12_wipe cX12_wipe 2 (some .int) ∈ z_good ∧ (yX12_wipe.cls ≠ "java/lang/invoke/MethodHandle" ∧ yX12_wipe.cls ≠ "java/lang/invoke/VarHandle" ∧ (parseMethodDescriptor yX12_wipe.desc).map (fun d => d.parameters.length) = some 0) := ⟨(z_gd 48 (by decide +kernel) rfl), (z_gd 942 rfl rfl), by decide +kernel, by decide +kernel, by decide +kernel⟩
theorem yi_X12_wipe : Cond.instanceMethod yX12_wipe ∈ z_good := (z_gd 940 (by decide +kernel) rfl)
theorem yv_X12_wipe : Cond.selects yX12_wipe.cls yX12_wipe yX12_wipe ∈ z_good := (z_gd 941 (by decide +kernel) rfl)
theorem mv_L_24 : z_MV RL 24 12 yX12_wipe cX12_wipe 2 (some .int) 0 := ⟨⟨Or.inl (z_gd 939 (by decide +kernel) rfl), yb_X12_wipe⟩, yi_X12_wipe, yv_X12_wipe, by decide, rfl, by decide⟩
set_option maxRecDepth 20000 in
theorem yb_X12_fault : Cond.initialized yX12_fault.cls ∈ z_good ∧ Cond.code yX12_fault cX12_fault 1 (some .int) ∈ z_good ∧ (yX12_fault.cls ≠ "java/lang/invoke/MethodHandle" ∧ yX12_fault.cls ≠ "java/lang/invoke/VarHandle" ∧ (parseMethodDescriptor yX12_fault.desc).map (fun d => d.parameters.length) = some 0) := ⟨(z_gd 48 (by decide +kernel) rfl), (z_gd 946 rfl rfl), by decide +kernel, by decide +kernel, by decide +kernel⟩
theorem yi_X12_fault : Cond.instanceMethod yX12_fault ∈ z_good := (z_gd 944 (by decide +kernel) rfl)
theorem yv_X12_fault : Cond.selects yX12_fault.cls yX12_fault yX12_fault ∈ z_good := (z_gd 945 (by decide +kernel) rfl)
theorem mv_L_28 : z_MV RL 28 12 yX12_fault cX12_fault 1 (some .int) 0 := ⟨⟨Or.inl (z_gd 943 (by decide +kernel) rfl), yb_X12_fault⟩, yi_X12_fault, yv_X12_fault, by decide, rfl, by decide⟩
set_option maxRecDepth 20000 in
theorem yb_X12_readDay : Cond.initialized yX12_readDay.cls ∈ z_good ∧ Cond.code yX12_readDay cX12_readDay 3 (some .int) ∈ z_good ∧ (yX12_readDay.cls ≠ "java/lang/invoke/MethodHandle" ∧ yX12_readDay.cls ≠ "java/lang/invoke/VarHandle" ∧ (parseMethodDescriptor yX12_readDay.desc).map (fun d => d.parameters.length) = some 0) := ⟨(z_gd 48 (by decide +kernel) rfl), (z_gd 950 rfl rfl), by decide +kernel, by decide +kernel, by decide +kernel⟩
theorem yi_X12_readDay : Cond.instanceMethod yX12_readDay ∈ z_good := (z_gd 949 (by decide +kernel) rfl)
theorem yv_X12_readDay : Cond.selects yX12_readDay.cls yX12_readDay yX12_readDay ∈ z_good := (z_gd 11 (by decide +kernel) rfl)
theorem mv_X12_155 : z_MV RX12 155 12 yX12_readDay cX12_readDay 3 (some .int) 0 := ⟨⟨Or.inl (z_gd 947 (by decide +kernel) rfl), yb_X12_readDay⟩, yi_X12_readDay, yv_X12_readDay, by decide, rfl, by decide⟩
set_option maxRecDepth 20000 in
theorem yb_X12_figure : Cond.initialized yX12_figure.cls ∈ z_good ∧ Cond.code yX12_figure cX12_figure 3 (some .int) ∈ z_good ∧ (yX12_figure.cls ≠ "java/lang/invoke/MethodHandle" ∧ yX12_figure.cls ≠ "java/lang/invoke/VarHandle" ∧ (parseMethodDescriptor yX12_figure.desc).map (fun d => d.parameters.length) = some 2) := ⟨(z_gd 48 (by decide +kernel) rfl), (z_gd 954 rfl rfl), by decide +kernel, by decide +kernel, by decide +kernel⟩
theorem yi_X12_figure : Cond.instanceMethod yX12_figure ∈ z_good := (z_gd 953 (by decide +kernel) rfl)
theorem yv_X12_figure : Cond.selects yX12_figure.cls yX12_figure yX12_figure ∈ z_good := (z_gd 12 (by decide +kernel) rfl)
theorem mv_X12_129 : z_MV RX12 129 12 yX12_figure cX12_figure 3 (some .int) 2 := ⟨⟨Or.inl (z_gd 951 (by decide +kernel) rfl), yb_X12_figure⟩, yi_X12_figure, yv_X12_figure, by decide, rfl, by decide⟩
set_option maxRecDepth 20000 in
theorem yb_X12_readPart : Cond.initialized yX12_readPart.cls ∈ z_good ∧ Cond.code yX12_readPart cX12_readPart 2 (some .boolean) ∈ z_good ∧ (yX12_readPart.cls ≠ "java/lang/invoke/MethodHandle" ∧ yX12_readPart.cls ≠ "java/lang/invoke/VarHandle" ∧ (parseMethodDescriptor yX12_readPart.desc).map (fun d => d.parameters.length) = some 0) := ⟨(z_gd 48 (by decide +kernel) rfl), (z_gd 958 rfl rfl), by decide +kernel, by decide +kernel, by decide +kernel⟩
theorem yi_X12_readPart : Cond.instanceMethod yX12_readPart ∈ z_good := (z_gd 957 (by decide +kernel) rfl)
theorem yv_X12_readPart : Cond.selects yX12_readPart.cls yX12_readPart yX12_readPart ∈ z_good := (z_gd 13 (by decide +kernel) rfl)
theorem mv_X12_152 : z_MV RX12 152 12 yX12_readPart cX12_readPart 2 (some .boolean) 0 := ⟨⟨Or.inl (z_gd 955 (by decide +kernel) rfl), yb_X12_readPart⟩, yi_X12_readPart, yv_X12_readPart, by decide, rfl, by decide⟩
set_option maxRecDepth 20000 in
theorem yb_X12_hasPair : Cond.initialized yX12_hasPair.cls ∈ z_good ∧ Cond.code yX12_hasPair cX12_hasPair 3 (some .boolean) ∈ z_good ∧ (yX12_hasPair.cls ≠ "java/lang/invoke/MethodHandle" ∧ yX12_hasPair.cls ≠ "java/lang/invoke/VarHandle" ∧ (parseMethodDescriptor yX12_hasPair.desc).map (fun d => d.parameters.length) = some 0) := ⟨(z_gd 48 (by decide +kernel) rfl), (z_gd 962 rfl rfl), by decide +kernel, by decide +kernel, by decide +kernel⟩
theorem yi_X12_hasPair : Cond.instanceMethod yX12_hasPair ∈ z_good := (z_gd 961 (by decide +kernel) rfl)
theorem yv_X12_hasPair : Cond.selects yX12_hasPair.cls yX12_hasPair yX12_hasPair ∈ z_good := (z_gd 14 (by decide +kernel) rfl)
theorem mv_X12_139 : z_MV RX12 139 12 yX12_hasPair cX12_hasPair 3 (some .boolean) 0 := ⟨⟨Or.inl (z_gd 959 (by decide +kernel) rfl), yb_X12_hasPair⟩, yi_X12_hasPair, yv_X12_hasPair, by decide, rfl, by decide⟩
set_option maxRecDepth 20000 in
theorem yb_X12_hasPartner : Cond.initialized yX12_hasPartner.cls ∈ z_good ∧ Cond.code yX12_hasPartner cX12_hasPartner 4 (some .boolean) ∈ z_good ∧ (yX12_hasPartner.cls ≠ "java/lang/invoke/MethodHandle" ∧ yX12_hasPartner.cls ≠ "java/lang/invoke/VarHandle" ∧ (parseMethodDescriptor yX12_hasPartner.desc).map (fun d => d.parameters.length) = some 1) := ⟨(z_gd 48 (by decide +kernel) rfl), (z_gd 966 rfl rfl), by decide +kernel, by decide +kernel, by decide +kernel⟩
theorem yi_X12_hasPartner : Cond.instanceMethod yX12_hasPartner ∈ z_good := (z_gd 965 (by decide +kernel) rfl)
theorem yv_X12_hasPartner : Cond.selects yX12_hasPartner.cls yX12_hasPartner yX12_hasPartner ∈ z_good := (z_gd 15 (by decide +kernel) rfl)
theorem mv_X12_125 : z_MV RX12 125 12 yX12_hasPartner cX12_hasPartner 4 (some .boolean) 1 := ⟨⟨Or.inl (z_gd 963 (by decide +kernel) rfl), yb_X12_hasPartner⟩, yi_X12_hasPartner, yv_X12_hasPartner, by decide, rfl, by decide⟩
set_option maxRecDepth 20000 in
theorem yb_X12_readRoad : Cond.initialized yX12_readRoad.cls ∈ z_good ∧ Cond.code yX12_readRoad cX12_readRoad 5 (some .boolean) ∈ z_good ∧ (yX12_readRoad.cls ≠ "java/lang/invoke/MethodHandle" ∧ yX12_readRoad.cls ≠ "java/lang/invoke/VarHandle" ∧ (parseMethodDescriptor yX12_readRoad.desc).map (fun d => d.parameters.length) = some 0) := ⟨(z_gd 48 (by decide +kernel) rfl), (z_gd 970 rfl rfl), by decide +kernel, by decide +kernel, by decide +kernel⟩
theorem yi_X12_readRoad : Cond.instanceMethod yX12_readRoad ∈ z_good := (z_gd 969 (by decide +kernel) rfl)
theorem yv_X12_readRoad : Cond.selects yX12_readRoad.cls yX12_readRoad yX12_readRoad ∈ z_good := (z_gd 16 (by decide +kernel) rfl)
theorem mv_X12_143 : z_MV RX12 143 12 yX12_readRoad cX12_readRoad 5 (some .boolean) 0 := ⟨⟨Or.inl (z_gd 967 (by decide +kernel) rfl), yb_X12_readRoad⟩, yi_X12_readRoad, yv_X12_readRoad, by decide, rfl, by decide⟩
set_option maxRecDepth 20000 in
theorem yb_X12_readErrand : Cond.initialized yX12_readErrand.cls ∈ z_good ∧ Cond.code yX12_readErrand cX12_readErrand 4 (some .boolean) ∈ z_good ∧ (yX12_readErrand.cls ≠ "java/lang/invoke/MethodHandle" ∧ yX12_readErrand.cls ≠ "java/lang/invoke/VarHandle" ∧ (parseMethodDescriptor yX12_readErrand.desc).map (fun d => d.parameters.length) = some 0) := ⟨(z_gd 48 (by decide +kernel) rfl), (z_gd 974 rfl rfl), by decide +kernel, by decide +kernel, by decide +kernel⟩
theorem yi_X12_readErrand : Cond.instanceMethod yX12_readErrand ∈ z_good := (z_gd 973 (by decide +kernel) rfl)
theorem yv_X12_readErrand : Cond.selects yX12_readErrand.cls yX12_readErrand yX12_readErrand ∈ z_good := (z_gd 17 (by decide +kernel) rfl)
theorem mv_X12_146 : z_MV RX12 146 12 yX12_readErrand cX12_readErrand 4 (some .boolean) 0 := ⟨⟨Or.inl (z_gd 971 (by decide +kernel) rfl), yb_X12_readErrand⟩, yi_X12_readErrand, yv_X12_readErrand, by decide, rfl, by decide⟩
set_option maxRecDepth 20000 in
theorem yb_X12_day : Cond.initialized yX12_day.cls ∈ z_good ∧ Cond.code yX12_day cX12_day 4 (some .int) ∈ z_good ∧ (yX12_day.cls ≠ "java/lang/invoke/MethodHandle" ∧ yX12_day.cls ≠ "java/lang/invoke/VarHandle" ∧ (parseMethodDescriptor yX12_day.desc).map (fun d => d.parameters.length) = some 0) := ⟨(z_gd 48 (by decide +kernel) rfl), (z_gd 978 rfl rfl), by decide +kernel, by decide +kernel, by decide +kernel⟩
theorem yi_X12_day : Cond.instanceMethod yX12_day ∈ z_good := (z_gd 976 (by decide +kernel) rfl)
theorem yv_X12_day : Cond.selects yX12_day.cls yX12_day yX12_day ∈ z_good := (z_gd 977 (by decide +kernel) rfl)
theorem mv_L_32 : z_MV RL 32 12 yX12_day cX12_day 4 (some .int) 0 := ⟨⟨Or.inl (z_gd 975 (by decide +kernel) rfl), yb_X12_day⟩, yi_X12_day, yv_X12_day, by decide, rfl, by decide⟩
set_option maxRecDepth 20000 in
theorem yb_X12_about : Cond.initialized yX12_about.cls ∈ z_good ∧ Cond.code yX12_about cX12_about 4 (some .int) ∈ z_good ∧ (yX12_about.cls ≠ "java/lang/invoke/MethodHandle" ∧ yX12_about.cls ≠ "java/lang/invoke/VarHandle" ∧ (parseMethodDescriptor yX12_about.desc).map (fun d => d.parameters.length) = some 1) := ⟨(z_gd 48 (by decide +kernel) rfl), (z_gd 982 rfl rfl), by decide +kernel, by decide +kernel, by decide +kernel⟩
theorem yi_X12_about : Cond.instanceMethod yX12_about ∈ z_good := (z_gd 980 (by decide +kernel) rfl)
theorem yv_X12_about : Cond.selects yX12_about.cls yX12_about yX12_about ∈ z_good := (z_gd 981 (by decide +kernel) rfl)
theorem mv_L_37 : z_MV RL 37 12 yX12_about cX12_about 4 (some .int) 1 := ⟨⟨Or.inl (z_gd 979 (by decide +kernel) rfl), yb_X12_about⟩, yi_X12_about, yv_X12_about, by decide, rfl, by decide⟩
set_option maxRecDepth 20000 in
theorem yb_X12_owed : Cond.initialized yX12_owed.cls ∈ z_good ∧ Cond.code yX12_owed cX12_owed 2 (some .int) ∈ z_good ∧ (yX12_owed.cls ≠ "java/lang/invoke/MethodHandle" ∧ yX12_owed.cls ≠ "java/lang/invoke/VarHandle" ∧ (parseMethodDescriptor yX12_owed.desc).map (fun d => d.parameters.length) = some 1) := ⟨(z_gd 48 (by decide +kernel) rfl), (z_gd 985 rfl rfl), by decide +kernel, by decide +kernel, by decide +kernel⟩
theorem ys_X12_owed : Cond.static yX12_owed ∈ z_good := (z_gd 984 (by decide +kernel) rfl)
theorem ms_X12_184 : z_MS RX12 184 yX12_owed cX12_owed 2 (some .int) 1 := ⟨⟨Or.inl (z_gd 983 (by decide +kernel) rfl), yb_X12_owed⟩, ys_X12_owed, by decide⟩
set_option maxRecDepth 20000 in
theorem yb_X12_worthOf : Cond.initialized yX12_worthOf.cls ∈ z_good ∧ Cond.code yX12_worthOf cX12_worthOf 4 (some .int) ∈ z_good ∧ (yX12_worthOf.cls ≠ "java/lang/invoke/MethodHandle" ∧ yX12_worthOf.cls ≠ "java/lang/invoke/VarHandle" ∧ (parseMethodDescriptor yX12_worthOf.desc).map (fun d => d.parameters.length) = some 1) := ⟨(z_gd 48 (by decide +kernel) rfl), (z_gd 989 rfl rfl), by decide +kernel, by decide +kernel, by decide +kernel⟩
theorem yi_X12_worthOf : Cond.instanceMethod yX12_worthOf ∈ z_good := (z_gd 988 (by decide +kernel) rfl)
theorem yv_X12_worthOf : Cond.selects yX12_worthOf.cls yX12_worthOf yX12_worthOf ∈ z_good := (z_gd 18 (by decide +kernel) rfl)
theorem mv_X12_188 : z_MV RX12 188 12 yX12_worthOf cX12_worthOf 4 (some .int) 1 := ⟨⟨Or.inl (z_gd 986 (by decide +kernel) rfl), yb_X12_worthOf⟩, yi_X12_worthOf, yv_X12_worthOf, by decide, rfl, by decide⟩
set_option maxRecDepth 20000 in
theorem yb_X12_has : Cond.initialized yX12_has.cls ∈ z_good ∧ Cond.code yX12_has cX12_has 2 (some .boolean) ∈ z_good ∧ (yX12_has.cls ≠ "java/lang/invoke/MethodHandle" ∧ yX12_has.cls ≠ "java/lang/invoke/VarHandle" ∧ (parseMethodDescriptor yX12_has.desc).map (fun d => d.parameters.length) = some 2) := ⟨(z_gd 48 (by decide +kernel) rfl), (z_gd 992 rfl rfl), by decide +kernel, by decide +kernel, by decide +kernel⟩
theorem ys_X12_has : Cond.static yX12_has ∈ z_good := (z_gd 991 (by decide +kernel) rfl)
theorem ms_X12_180 : z_MS RX12 180 yX12_has cX12_has 2 (some .boolean) 2 := ⟨⟨Or.inl (z_gd 990 (by decide +kernel) rfl), yb_X12_has⟩, ys_X12_has, by decide⟩
set_option maxRecDepth 20000 in
theorem yb_X12_at : Cond.initialized yX12_at.cls ∈ z_good ∧ Cond.code yX12_at cX12_at 2 (some .int) ∈ z_good ∧ (yX12_at.cls ≠ "java/lang/invoke/MethodHandle" ∧ yX12_at.cls ≠ "java/lang/invoke/VarHandle" ∧ (parseMethodDescriptor yX12_at.desc).map (fun d => d.parameters.length) = some 1) := ⟨(z_gd 48 (by decide +kernel) rfl), (z_gd 996 rfl rfl), by decide +kernel, by decide +kernel, by decide +kernel⟩
theorem yi_X12_at : Cond.instanceMethod yX12_at ∈ z_good := (z_gd 994 (by decide +kernel) rfl)
theorem yv_X12_at : Cond.selects yX12_at.cls yX12_at yX12_at ∈ z_good := (z_gd 995 (by decide +kernel) rfl)
theorem mv_L_41 : z_MV RL 41 12 yX12_at cX12_at 2 (some .int) 1 := ⟨⟨Or.inl (z_gd 993 (by decide +kernel) rfl), yb_X12_at⟩, yi_X12_at, yv_X12_at, by decide, rfl, by decide⟩
set_option maxRecDepth 20000 in
theorem yb_X12_noWalker : Cond.initialized yX12_noWalker.cls ∈ z_good ∧ Cond.code yX12_noWalker cX12_noWalker 1 (some .boolean) ∈ z_good ∧ (yX12_noWalker.cls ≠ "java/lang/invoke/MethodHandle" ∧ yX12_noWalker.cls ≠ "java/lang/invoke/VarHandle" ∧ (parseMethodDescriptor yX12_noWalker.desc).map (fun d => d.parameters.length) = some 1) := ⟨(z_gd 48 (by decide +kernel) rfl), (z_gd 999 rfl rfl), by decide +kernel, by decide +kernel, by decide +kernel⟩
theorem ys_X12_noWalker : Cond.static yX12_noWalker ∈ z_good := (z_gd 998 (by decide +kernel) rfl)
theorem ms_X12_191 : z_MS RX12 191 yX12_noWalker cX12_noWalker 1 (some .boolean) 1 := ⟨⟨Or.inl (z_gd 997 (by decide +kernel) rfl), yb_X12_noWalker⟩, ys_X12_noWalker, by decide⟩
set_option maxRecDepth 20000 in
theorem yb_X12_far : Cond.initialized yX12_far.cls ∈ z_good ∧ Cond.code yX12_far cX12_far 3 (some .int) ∈ z_good ∧ (yX12_far.cls ≠ "java/lang/invoke/MethodHandle" ∧ yX12_far.cls ≠ "java/lang/invoke/VarHandle" ∧ (parseMethodDescriptor yX12_far.desc).map (fun d => d.parameters.length) = some 2) := ⟨(z_gd 48 (by decide +kernel) rfl), (z_gd 1003 rfl rfl), by decide +kernel, by decide +kernel, by decide +kernel⟩
theorem yi_X12_far : Cond.instanceMethod yX12_far ∈ z_good := (z_gd 1001 (by decide +kernel) rfl)
theorem yv_X12_far : Cond.selects yX12_far.cls yX12_far yX12_far ∈ z_good := (z_gd 1002 (by decide +kernel) rfl)
theorem mv_L_46 : z_MV RL 46 12 yX12_far cX12_far 3 (some .int) 2 := ⟨⟨Or.inl (z_gd 1000 (by decide +kernel) rfl), yb_X12_far⟩, yi_X12_far, yv_X12_far, by decide, rfl, by decide⟩
set_option maxRecDepth 20000 in
theorem yb_X12_noPlace : Cond.initialized yX12_noPlace.cls ∈ z_good ∧ Cond.code yX12_noPlace cX12_noPlace 2 (some .boolean) ∈ z_good ∧ (yX12_noPlace.cls ≠ "java/lang/invoke/MethodHandle" ∧ yX12_noPlace.cls ≠ "java/lang/invoke/VarHandle" ∧ (parseMethodDescriptor yX12_noPlace.desc).map (fun d => d.parameters.length) = some 1) := ⟨(z_gd 48 (by decide +kernel) rfl), (z_gd 1007 rfl rfl), by decide +kernel, by decide +kernel, by decide +kernel⟩
theorem yi_X12_noPlace : Cond.instanceMethod yX12_noPlace ∈ z_good := (z_gd 1006 (by decide +kernel) rfl)
theorem yv_X12_noPlace : Cond.selects yX12_noPlace.cls yX12_noPlace yX12_noPlace ∈ z_good := (z_gd 19 (by decide +kernel) rfl)
theorem mv_X12_194 : z_MV RX12 194 12 yX12_noPlace cX12_noPlace 2 (some .boolean) 1 := ⟨⟨Or.inl (z_gd 1004 (by decide +kernel) rfl), yb_X12_noPlace⟩, yi_X12_noPlace, yv_X12_noPlace, by decide, rfl, by decide⟩
set_option maxRecDepth 20000 in
theorem yb_X12_errand : Cond.initialized yX12_errand.cls ∈ z_good ∧ Cond.code yX12_errand cX12_errand 3 (some .int) ∈ z_good ∧ (yX12_errand.cls ≠ "java/lang/invoke/MethodHandle" ∧ yX12_errand.cls ≠ "java/lang/invoke/VarHandle" ∧ (parseMethodDescriptor yX12_errand.desc).map (fun d => d.parameters.length) = some 2) := ⟨(z_gd 48 (by decide +kernel) rfl), (z_gd 1011 rfl rfl), by decide +kernel, by decide +kernel, by decide +kernel⟩
theorem yi_X12_errand : Cond.instanceMethod yX12_errand ∈ z_good := (z_gd 1009 (by decide +kernel) rfl)
theorem yv_X12_errand : Cond.selects yX12_errand.cls yX12_errand yX12_errand ∈ z_good := (z_gd 1010 (by decide +kernel) rfl)
theorem mv_L_50 : z_MV RL 50 12 yX12_errand cX12_errand 3 (some .int) 2 := ⟨⟨Or.inl (z_gd 1008 (by decide +kernel) rfl), yb_X12_errand⟩, yi_X12_errand, yv_X12_errand, by decide, rfl, by decide⟩
set_option maxRecDepth 20000 in
theorem yb_X12_noErrand : Cond.initialized yX12_noErrand.cls ∈ z_good ∧ Cond.code yX12_noErrand cX12_noErrand 2 (some .boolean) ∈ z_good ∧ (yX12_noErrand.cls ≠ "java/lang/invoke/MethodHandle" ∧ yX12_noErrand.cls ≠ "java/lang/invoke/VarHandle" ∧ (parseMethodDescriptor yX12_noErrand.desc).map (fun d => d.parameters.length) = some 1) := ⟨(z_gd 48 (by decide +kernel) rfl), (z_gd 1015 rfl rfl), by decide +kernel, by decide +kernel, by decide +kernel⟩
theorem yi_X12_noErrand : Cond.instanceMethod yX12_noErrand ∈ z_good := (z_gd 1014 (by decide +kernel) rfl)
theorem yv_X12_noErrand : Cond.selects yX12_noErrand.cls yX12_noErrand yX12_noErrand ∈ z_good := (z_gd 20 (by decide +kernel) rfl)
theorem mv_X12_197 : z_MV RX12 197 12 yX12_noErrand cX12_noErrand 2 (some .boolean) 1 := ⟨⟨Or.inl (z_gd 1012 (by decide +kernel) rfl), yb_X12_noErrand⟩, yi_X12_noErrand, yv_X12_noErrand, by decide, rfl, by decide⟩
set_option maxRecDepth 20000 in
theorem yb_X12_walk : Cond.initialized yX12_walk.cls ∈ z_good ∧ Cond.code yX12_walk cX12_walk 3 (some .int) ∈ z_good ∧ (yX12_walk.cls ≠ "java/lang/invoke/MethodHandle" ∧ yX12_walk.cls ≠ "java/lang/invoke/VarHandle" ∧ (parseMethodDescriptor yX12_walk.desc).map (fun d => d.parameters.length) = some 2) := ⟨(z_gd 48 (by decide +kernel) rfl), (z_gd 1019 rfl rfl), by decide +kernel, by decide +kernel, by decide +kernel⟩
theorem yi_X12_walk : Cond.instanceMethod yX12_walk ∈ z_good := (z_gd 1017 (by decide +kernel) rfl)
theorem yv_X12_walk : Cond.selects yX12_walk.cls yX12_walk yX12_walk ∈ z_good := (z_gd 1018 (by decide +kernel) rfl)
theorem mv_L_54 : z_MV RL 54 12 yX12_walk cX12_walk 3 (some .int) 2 := ⟨⟨Or.inl (z_gd 1016 (by decide +kernel) rfl), yb_X12_walk⟩, yi_X12_walk, yv_X12_walk, by decide, rfl, by decide⟩
set_option maxRecDepth 20000 in
theorem yb_X12_mayWalk : Cond.initialized yX12_mayWalk.cls ∈ z_good ∧ Cond.code yX12_mayWalk cX12_mayWalk 5 (some .boolean) ∈ z_good ∧ (yX12_mayWalk.cls ≠ "java/lang/invoke/MethodHandle" ∧ yX12_mayWalk.cls ≠ "java/lang/invoke/VarHandle" ∧ (parseMethodDescriptor yX12_mayWalk.desc).map (fun d => d.parameters.length) = some 4) := ⟨(z_gd 48 (by decide +kernel) rfl), (z_gd 1023 rfl rfl), by decide +kernel, by decide +kernel, by decide +kernel⟩
theorem yi_X12_mayWalk : Cond.instanceMethod yX12_mayWalk ∈ z_good := (z_gd 1022 (by decide +kernel) rfl)
theorem yv_X12_mayWalk : Cond.selects yX12_mayWalk.cls yX12_mayWalk yX12_mayWalk ∈ z_good := (z_gd 21 (by decide +kernel) rfl)
theorem mv_X12_204 : z_MV RX12 204 12 yX12_mayWalk cX12_mayWalk 5 (some .boolean) 4 := ⟨⟨Or.inl (z_gd 1020 (by decide +kernel) rfl), yb_X12_mayWalk⟩, yi_X12_mayWalk, yv_X12_mayWalk, by decide, rfl, by decide⟩
set_option maxRecDepth 20000 in
theorem yb_X12_note : Cond.initialized yX12_note.cls ∈ z_good ∧ Cond.code yX12_note cX12_note 2 none ∈ z_good ∧ (yX12_note.cls ≠ "java/lang/invoke/MethodHandle" ∧ yX12_note.cls ≠ "java/lang/invoke/VarHandle" ∧ (parseMethodDescriptor yX12_note.desc).map (fun d => d.parameters.length) = some 0) := ⟨(z_gd 48 (by decide +kernel) rfl), (z_gd 1027 rfl rfl), by decide +kernel, by decide +kernel, by decide +kernel⟩
theorem yi_X12_note : Cond.instanceMethod yX12_note ∈ z_good := (z_gd 1026 (by decide +kernel) rfl)
theorem yv_X12_note : Cond.selects yX12_note.cls yX12_note yX12_note ∈ z_good := (z_gd 22 (by decide +kernel) rfl)
theorem mv_X12_208 : z_MV RX12 208 12 yX12_note cX12_note 2 none 0 := ⟨⟨Or.inl (z_gd 1024 (by decide +kernel) rfl), yb_X12_note⟩, yi_X12_note, yv_X12_note, by decide, rfl, by decide⟩
set_option maxRecDepth 20000 in
theorem yb_X12_layPage : Cond.initialized yX12_layPage.cls ∈ z_good ∧ Cond.code yX12_layPage cX12_layPage 4 none ∈ z_good ∧ (yX12_layPage.cls ≠ "java/lang/invoke/MethodHandle" ∧ yX12_layPage.cls ≠ "java/lang/invoke/VarHandle" ∧ (parseMethodDescriptor yX12_layPage.desc).map (fun d => d.parameters.length) = some 2) := ⟨(z_gd 48 (by decide +kernel) rfl), (z_gd 1031 rfl rfl), by decide +kernel, by decide +kernel, by decide +kernel⟩
theorem yi_X12_layPage : Cond.instanceMethod yX12_layPage ∈ z_good := (z_gd 1030 (by decide +kernel) rfl)
theorem yv_X12_layPage : Cond.selects yX12_layPage.cls yX12_layPage yX12_layPage ∈ z_good := (z_gd 23 (by decide +kernel) rfl)
theorem mv_X12_200 : z_MV RX12 200 12 yX12_layPage cX12_layPage 4 none 2 := ⟨⟨Or.inl (z_gd 1028 (by decide +kernel) rfl), yb_X12_layPage⟩, yi_X12_layPage, yv_X12_layPage, by decide, rfl, by decide⟩
set_option maxRecDepth 20000 in
theorem yb_X12_carry : Cond.initialized yX12_carry.cls ∈ z_good ∧ Cond.code yX12_carry cX12_carry 3 (some .int) ∈ z_good ∧ (yX12_carry.cls ≠ "java/lang/invoke/MethodHandle" ∧ yX12_carry.cls ≠ "java/lang/invoke/VarHandle" ∧ (parseMethodDescriptor yX12_carry.desc).map (fun d => d.parameters.length) = some 2) := ⟨(z_gd 48 (by decide +kernel) rfl), (z_gd 1035 rfl rfl), by decide +kernel, by decide +kernel, by decide +kernel⟩
theorem yi_X12_carry : Cond.instanceMethod yX12_carry ∈ z_good := (z_gd 1033 (by decide +kernel) rfl)
theorem yv_X12_carry : Cond.selects yX12_carry.cls yX12_carry yX12_carry ∈ z_good := (z_gd 1034 (by decide +kernel) rfl)
theorem mv_L_58 : z_MV RL 58 12 yX12_carry cX12_carry 3 (some .int) 2 := ⟨⟨Or.inl (z_gd 1032 (by decide +kernel) rfl), yb_X12_carry⟩, yi_X12_carry, yv_X12_carry, by decide, rfl, by decide⟩
set_option maxRecDepth 20000 in
theorem yb_X12_done : Cond.initialized yX12_done.cls ∈ z_good ∧ Cond.code yX12_done cX12_done 3 (some .int) ∈ z_good ∧ (yX12_done.cls ≠ "java/lang/invoke/MethodHandle" ∧ yX12_done.cls ≠ "java/lang/invoke/VarHandle" ∧ (parseMethodDescriptor yX12_done.desc).map (fun d => d.parameters.length) = some 2) := ⟨(z_gd 48 (by decide +kernel) rfl), (z_gd 1039 rfl rfl), by decide +kernel, by decide +kernel, by decide +kernel⟩
theorem yi_X12_done : Cond.instanceMethod yX12_done ∈ z_good := (z_gd 1037 (by decide +kernel) rfl)
theorem yv_X12_done : Cond.selects yX12_done.cls yX12_done yX12_done ∈ z_good := (z_gd 1038 (by decide +kernel) rfl)
theorem mv_L_62 : z_MV RL 62 12 yX12_done cX12_done 3 (some .int) 2 := ⟨⟨Or.inl (z_gd 1036 (by decide +kernel) rfl), yb_X12_done⟩, yi_X12_done, yv_X12_done, by decide, rfl, by decide⟩
set_option maxRecDepth 20000 in
theorem yb_X12_canDo : Cond.initialized yX12_canDo.cls ∈ z_good ∧ Cond.code yX12_canDo cX12_canDo 3 (some .boolean) ∈ z_good ∧ (yX12_canDo.cls ≠ "java/lang/invoke/MethodHandle" ∧ yX12_canDo.cls ≠ "java/lang/invoke/VarHandle" ∧ (parseMethodDescriptor yX12_canDo.desc).map (fun d => d.parameters.length) = some 2) := ⟨(z_gd 48 (by decide +kernel) rfl), (z_gd 1043 rfl rfl), by decide +kernel, by decide +kernel, by decide +kernel⟩
theorem yi_X12_canDo : Cond.instanceMethod yX12_canDo ∈ z_good := (z_gd 1042 (by decide +kernel) rfl)
theorem yv_X12_canDo : Cond.selects yX12_canDo.cls yX12_canDo yX12_canDo ∈ z_good := (z_gd 24 (by decide +kernel) rfl)
theorem mv_X12_211 : z_MV RX12 211 12 yX12_canDo cX12_canDo 3 (some .boolean) 2 := ⟨⟨Or.inl (z_gd 1040 (by decide +kernel) rfl), yb_X12_canDo⟩, yi_X12_canDo, yv_X12_canDo, by decide, rfl, by decide⟩
set_option maxRecDepth 20000 in
theorem yb_X12_loan : Cond.initialized yX12_loan.cls ∈ z_good ∧ Cond.code yX12_loan cX12_loan 3 (some .int) ∈ z_good ∧ (yX12_loan.cls ≠ "java/lang/invoke/MethodHandle" ∧ yX12_loan.cls ≠ "java/lang/invoke/VarHandle" ∧ (parseMethodDescriptor yX12_loan.desc).map (fun d => d.parameters.length) = some 2) := ⟨(z_gd 48 (by decide +kernel) rfl), (z_gd 1047 rfl rfl), by decide +kernel, by decide +kernel, by decide +kernel⟩
theorem yi_X12_loan : Cond.instanceMethod yX12_loan ∈ z_good := (z_gd 1045 (by decide +kernel) rfl)
theorem yv_X12_loan : Cond.selects yX12_loan.cls yX12_loan yX12_loan ∈ z_good := (z_gd 1046 (by decide +kernel) rfl)
theorem mv_L_67 : z_MV RL 67 12 yX12_loan cX12_loan 3 (some .int) 2 := ⟨⟨Or.inl (z_gd 1044 (by decide +kernel) rfl), yb_X12_loan⟩, yi_X12_loan, yv_X12_loan, by decide, rfl, by decide⟩
set_option maxRecDepth 20000 in
theorem yb_X12_back : Cond.initialized yX12_back.cls ∈ z_good ∧ Cond.code yX12_back cX12_back 2 (some .int) ∈ z_good ∧ (yX12_back.cls ≠ "java/lang/invoke/MethodHandle" ∧ yX12_back.cls ≠ "java/lang/invoke/VarHandle" ∧ (parseMethodDescriptor yX12_back.desc).map (fun d => d.parameters.length) = some 0) := ⟨(z_gd 48 (by decide +kernel) rfl), (z_gd 1052 rfl rfl), by decide +kernel, by decide +kernel, by decide +kernel⟩
theorem yi_X12_back : Cond.instanceMethod yX12_back ∈ z_good := (z_gd 1050 (by decide +kernel) rfl)
theorem yv_X12_back : Cond.selects yX12_back.cls yX12_back yX12_back ∈ z_good := (z_gd 1051 (by decide +kernel) rfl)
theorem mv_L_71 : z_MV RL 71 12 yX12_back cX12_back 2 (some .int) 0 := ⟨⟨Or.inl (z_gd 1049 (by decide +kernel) rfl), yb_X12_back⟩, yi_X12_back, yv_X12_back, by decide, rfl, by decide⟩
set_option maxRecDepth 20000 in
theorem yb_X12_undo : Cond.initialized yX12_undo.cls ∈ z_good ∧ Cond.code yX12_undo cX12_undo 1 (some .int) ∈ z_good ∧ (yX12_undo.cls ≠ "java/lang/invoke/MethodHandle" ∧ yX12_undo.cls ≠ "java/lang/invoke/VarHandle" ∧ (parseMethodDescriptor yX12_undo.desc).map (fun d => d.parameters.length) = some 0) := ⟨(z_gd 48 (by decide +kernel) rfl), (z_gd 1056 rfl rfl), by decide +kernel, by decide +kernel, by decide +kernel⟩
theorem yi_X12_undo : Cond.instanceMethod yX12_undo ∈ z_good := (z_gd 1054 (by decide +kernel) rfl)
theorem yv_X12_undo : Cond.selects yX12_undo.cls yX12_undo yX12_undo ∈ z_good := (z_gd 1055 (by decide +kernel) rfl)
theorem mv_L_75 : z_MV RL 75 12 yX12_undo cX12_undo 1 (some .int) 0 := ⟨⟨Or.inl (z_gd 1053 (by decide +kernel) rfl), yb_X12_undo⟩, yi_X12_undo, yv_X12_undo, by decide, rfl, by decide⟩
set_option maxRecDepth 20000 in
theorem yb_X12_takePage : Cond.initialized yX12_takePage.cls ∈ z_good ∧ Cond.code yX12_takePage cX12_takePage 4 none ∈ z_good ∧ (yX12_takePage.cls ≠ "java/lang/invoke/MethodHandle" ∧ yX12_takePage.cls ≠ "java/lang/invoke/VarHandle" ∧ (parseMethodDescriptor yX12_takePage.desc).map (fun d => d.parameters.length) = some 2) := ⟨(z_gd 48 (by decide +kernel) rfl), (z_gd 1060 rfl rfl), by decide +kernel, by decide +kernel, by decide +kernel⟩
theorem yi_X12_takePage : Cond.instanceMethod yX12_takePage ∈ z_good := (z_gd 1059 (by decide +kernel) rfl)
theorem yv_X12_takePage : Cond.selects yX12_takePage.cls yX12_takePage yX12_takePage ∈ z_good := (z_gd 25 (by decide +kernel) rfl)
theorem mv_X12_216 : z_MV RX12 216 12 yX12_takePage cX12_takePage 4 none 2 := ⟨⟨Or.inl (z_gd 1057 (by decide +kernel) rfl), yb_X12_takePage⟩, yi_X12_takePage, yv_X12_takePage, by decide, rfl, by decide⟩
set_option maxRecDepth 20000 in
theorem yb_X12_judge : Cond.initialized yX12_judge.cls ∈ z_good ∧ Cond.code yX12_judge cX12_judge 9 (some .int) ∈ z_good ∧ (yX12_judge.cls ≠ "java/lang/invoke/MethodHandle" ∧ yX12_judge.cls ≠ "java/lang/invoke/VarHandle" ∧ (parseMethodDescriptor yX12_judge.desc).map (fun d => d.parameters.length) = some 3) := ⟨(z_gd 48 (by decide +kernel) rfl), (z_gd 1064 rfl rfl), by decide +kernel, by decide +kernel, by decide +kernel⟩
theorem yi_X12_judge : Cond.instanceMethod yX12_judge ∈ z_good := (z_gd 1062 (by decide +kernel) rfl)
theorem yv_X12_judge : Cond.selects yX12_judge.cls yX12_judge yX12_judge ∈ z_good := (z_gd 1063 (by decide +kernel) rfl)
theorem mv_L_80 : z_MV RL 80 12 yX12_judge cX12_judge 9 (some .int) 3 := ⟨⟨Or.inl (z_gd 1061 (by decide +kernel) rfl), yb_X12_judge⟩, yi_X12_judge, yv_X12_judge, by decide, rfl, by decide⟩
set_option maxRecDepth 20000 in
theorem yb_X12_tour : Cond.initialized yX12_tour.cls ∈ z_good ∧ Cond.code yX12_tour cX12_tour 4 (some .int) ∈ z_good ∧ (yX12_tour.cls ≠ "java/lang/invoke/MethodHandle" ∧ yX12_tour.cls ≠ "java/lang/invoke/VarHandle" ∧ (parseMethodDescriptor yX12_tour.desc).map (fun d => d.parameters.length) = some 2) := ⟨(z_gd 48 (by decide +kernel) rfl), (z_gd 1068 rfl rfl), by decide +kernel, by decide +kernel, by decide +kernel⟩
theorem yi_X12_tour : Cond.instanceMethod yX12_tour ∈ z_good := (z_gd 1066 (by decide +kernel) rfl)
theorem yv_X12_tour : Cond.selects yX12_tour.cls yX12_tour yX12_tour ∈ z_good := (z_gd 1067 (by decide +kernel) rfl)
theorem mv_L_84 : z_MV RL 84 12 yX12_tour cX12_tour 4 (some .int) 2 := ⟨⟨Or.inl (z_gd 1065 (by decide +kernel) rfl), yb_X12_tour⟩, yi_X12_tour, yv_X12_tour, by decide, rfl, by decide⟩
set_option maxRecDepth 20000 in
theorem yb_X12_layTours : Cond.initialized yX12_layTours.cls ∈ z_good ∧ Cond.code yX12_layTours cX12_layTours 11 none ∈ z_good ∧ (yX12_layTours.cls ≠ "java/lang/invoke/MethodHandle" ∧ yX12_layTours.cls ≠ "java/lang/invoke/VarHandle" ∧ (parseMethodDescriptor yX12_layTours.desc).map (fun d => d.parameters.length) = some 3) := ⟨(z_gd 48 (by decide +kernel) rfl), (z_gd 1072 rfl rfl), by decide +kernel, by decide +kernel, by decide +kernel⟩
theorem yi_X12_layTours : Cond.instanceMethod yX12_layTours ∈ z_good := (z_gd 1071 (by decide +kernel) rfl)
theorem yv_X12_layTours : Cond.selects yX12_layTours.cls yX12_layTours yX12_layTours ∈ z_good := (z_gd 26 (by decide +kernel) rfl)
theorem mv_X12_219 : z_MV RX12 219 12 yX12_layTours cX12_layTours 11 none 3 := ⟨⟨Or.inl (z_gd 1069 (by decide +kernel) rfl), yb_X12_layTours⟩, yi_X12_layTours, yv_X12_layTours, by decide, rfl, by decide⟩
set_option maxRecDepth 20000 in
theorem yb_X12_plan : Cond.initialized yX12_plan.cls ∈ z_good ∧ Cond.code yX12_plan cX12_plan 2 (some .int) ∈ z_good ∧ (yX12_plan.cls ≠ "java/lang/invoke/MethodHandle" ∧ yX12_plan.cls ≠ "java/lang/invoke/VarHandle" ∧ (parseMethodDescriptor yX12_plan.desc).map (fun d => d.parameters.length) = some 1) := ⟨(z_gd 48 (by decide +kernel) rfl), (z_gd 1076 rfl rfl), by decide +kernel, by decide +kernel, by decide +kernel⟩
theorem yi_X12_plan : Cond.instanceMethod yX12_plan ∈ z_good := (z_gd 1074 (by decide +kernel) rfl)
theorem yv_X12_plan : Cond.selects yX12_plan.cls yX12_plan yX12_plan ∈ z_good := (z_gd 1075 (by decide +kernel) rfl)
theorem mv_L_88 : z_MV RL 88 12 yX12_plan cX12_plan 2 (some .int) 1 := ⟨⟨Or.inl (z_gd 1073 (by decide +kernel) rfl), yb_X12_plan⟩, yi_X12_plan, yv_X12_plan, by decide, rfl, by decide⟩
set_option maxRecDepth 20000 in
theorem yb_X12_findPlan : Cond.initialized yX12_findPlan.cls ∈ z_good ∧ Cond.code yX12_findPlan cX12_findPlan 7 none ∈ z_good ∧ (yX12_findPlan.cls ≠ "java/lang/invoke/MethodHandle" ∧ yX12_findPlan.cls ≠ "java/lang/invoke/VarHandle" ∧ (parseMethodDescriptor yX12_findPlan.desc).map (fun d => d.parameters.length) = some 2) := ⟨(z_gd 48 (by decide +kernel) rfl), (z_gd 1081 rfl rfl), by decide +kernel, by decide +kernel, by decide +kernel⟩
theorem yi_X12_findPlan : Cond.instanceMethod yX12_findPlan ∈ z_good := (z_gd 1080 (by decide +kernel) rfl)
theorem yv_X12_findPlan : Cond.selects yX12_findPlan.cls yX12_findPlan yX12_findPlan ∈ z_good := (z_gd 27 (by decide +kernel) rfl)
theorem mv_X12_237 : z_MV RX12 237 12 yX12_findPlan cX12_findPlan 7 none 2 := ⟨⟨Or.inl (z_gd 1078 (by decide +kernel) rfl), yb_X12_findPlan⟩, yi_X12_findPlan, yv_X12_findPlan, by decide, rfl, by decide⟩
set_option maxRecDepth 20000 in
theorem yb_X12_live : Cond.initialized yX12_live.cls ∈ z_good ∧ Cond.code yX12_live cX12_live 4 (some .int) ∈ z_good ∧ (yX12_live.cls ≠ "java/lang/invoke/MethodHandle" ∧ yX12_live.cls ≠ "java/lang/invoke/VarHandle" ∧ (parseMethodDescriptor yX12_live.desc).map (fun d => d.parameters.length) = some 0) := ⟨(z_gd 48 (by decide +kernel) rfl), (z_gd 1085 rfl rfl), by decide +kernel, by decide +kernel, by decide +kernel⟩
theorem yi_X12_live : Cond.instanceMethod yX12_live ∈ z_good := (z_gd 1083 (by decide +kernel) rfl)
theorem yv_X12_live : Cond.selects yX12_live.cls yX12_live yX12_live ∈ z_good := (z_gd 1084 (by decide +kernel) rfl)
theorem mv_L_92 : z_MV RL 92 12 yX12_live cX12_live 4 (some .int) 0 := ⟨⟨Or.inl (z_gd 1082 (by decide +kernel) rfl), yb_X12_live⟩, yi_X12_live, yv_X12_live, by decide, rfl, by decide⟩
set_option maxRecDepth 20000 in
theorem yb_X12_byTurns : Cond.initialized yX12_byTurns.cls ∈ z_good ∧ Cond.code yX12_byTurns cX12_byTurns 7 (some .int) ∈ z_good ∧ (yX12_byTurns.cls ≠ "java/lang/invoke/MethodHandle" ∧ yX12_byTurns.cls ≠ "java/lang/invoke/VarHandle" ∧ (parseMethodDescriptor yX12_byTurns.desc).map (fun d => d.parameters.length) = some 1) := ⟨(z_gd 48 (by decide +kernel) rfl), (z_gd 1089 rfl rfl), by decide +kernel, by decide +kernel, by decide +kernel⟩
theorem yi_X12_byTurns : Cond.instanceMethod yX12_byTurns ∈ z_good := (z_gd 1087 (by decide +kernel) rfl)
theorem yv_X12_byTurns : Cond.selects yX12_byTurns.cls yX12_byTurns yX12_byTurns ∈ z_good := (z_gd 1088 (by decide +kernel) rfl)
theorem mv_L_96 : z_MV RL 96 12 yX12_byTurns cX12_byTurns 7 (some .int) 1 := ⟨⟨Or.inl (z_gd 1086 (by decide +kernel) rfl), yb_X12_byTurns⟩, yi_X12_byTurns, yv_X12_byTurns, by decide, rfl, by decide⟩
set_option maxRecDepth 20000 in
theorem yb_X12_canBoth : Cond.initialized yX12_canBoth.cls ∈ z_good ∧ Cond.code yX12_canBoth cX12_canBoth 4 (some .boolean) ∈ z_good ∧ (yX12_canBoth.cls ≠ "java/lang/invoke/MethodHandle" ∧ yX12_canBoth.cls ≠ "java/lang/invoke/VarHandle" ∧ (parseMethodDescriptor yX12_canBoth.desc).map (fun d => d.parameters.length) = some 1) := ⟨(z_gd 48 (by decide +kernel) rfl), (z_gd 1093 rfl rfl), by decide +kernel, by decide +kernel, by decide +kernel⟩
theorem yi_X12_canBoth : Cond.instanceMethod yX12_canBoth ∈ z_good := (z_gd 1092 (by decide +kernel) rfl)
theorem yv_X12_canBoth : Cond.selects yX12_canBoth.cls yX12_canBoth yX12_canBoth ∈ z_good := (z_gd 28 (by decide +kernel) rfl)
theorem mv_X12_241 : z_MV RX12 241 12 yX12_canBoth cX12_canBoth 4 (some .boolean) 1 := ⟨⟨Or.inl (z_gd 1090 (by decide +kernel) rfl), yb_X12_canBoth⟩, yi_X12_canBoth, yv_X12_canBoth, by decide, rfl, by decide⟩
set_option maxRecDepth 20000 in
theorem yb_X12_take : Cond.initialized yX12_take.cls ∈ z_good ∧ Cond.code yX12_take cX12_take 5 none ∈ z_good ∧ (yX12_take.cls ≠ "java/lang/invoke/MethodHandle" ∧ yX12_take.cls ≠ "java/lang/invoke/VarHandle" ∧ (parseMethodDescriptor yX12_take.desc).map (fun d => d.parameters.length) = some 3) := ⟨(z_gd 48 (by decide +kernel) rfl), (z_gd 1097 rfl rfl), by decide +kernel, by decide +kernel, by decide +kernel⟩
theorem yi_X12_take : Cond.instanceMethod yX12_take ∈ z_good := (z_gd 1096 (by decide +kernel) rfl)
theorem yv_X12_take : Cond.selects yX12_take.cls yX12_take yX12_take ∈ z_good := (z_gd 29 (by decide +kernel) rfl)
theorem mv_X12_244 : z_MV RX12 244 12 yX12_take cX12_take 5 none 3 := ⟨⟨Or.inl (z_gd 1094 (by decide +kernel) rfl), yb_X12_take⟩, yi_X12_take, yv_X12_take, by decide, rfl, by decide⟩
set_option maxRecDepth 20000 in
theorem yb_X12_choose : Cond.initialized yX12_choose.cls ∈ z_good ∧ Cond.code yX12_choose cX12_choose 8 (some .boolean) ∈ z_good ∧ (yX12_choose.cls ≠ "java/lang/invoke/MethodHandle" ∧ yX12_choose.cls ≠ "java/lang/invoke/VarHandle" ∧ (parseMethodDescriptor yX12_choose.desc).map (fun d => d.parameters.length) = some 2) := ⟨(z_gd 48 (by decide +kernel) rfl), (z_gd 1101 rfl rfl), by decide +kernel, by decide +kernel, by decide +kernel⟩
theorem yi_X12_choose : Cond.instanceMethod yX12_choose ∈ z_good := (z_gd 1100 (by decide +kernel) rfl)
theorem yv_X12_choose : Cond.selects yX12_choose.cls yX12_choose yX12_choose ∈ z_good := (z_gd 30 (by decide +kernel) rfl)
theorem mv_X12_247 : z_MV RX12 247 12 yX12_choose cX12_choose 8 (some .boolean) 2 := ⟨⟨Or.inl (z_gd 1098 (by decide +kernel) rfl), yb_X12_choose⟩, yi_X12_choose, yv_X12_choose, by decide, rfl, by decide⟩
set_option maxRecDepth 20000 in
theorem yb_X12_ledger : Cond.initialized yX12_ledger.cls ∈ z_good ∧ Cond.code yX12_ledger cX12_ledger 7 (some .long) ∈ z_good ∧ (yX12_ledger.cls ≠ "java/lang/invoke/MethodHandle" ∧ yX12_ledger.cls ≠ "java/lang/invoke/VarHandle" ∧ (parseMethodDescriptor yX12_ledger.desc).map (fun d => d.parameters.length) = some 3) := ⟨(z_gd 48 (by decide +kernel) rfl), (z_gd 1105 rfl rfl), by decide +kernel, by decide +kernel, by decide +kernel⟩
theorem yi_X12_ledger : Cond.instanceMethod yX12_ledger ∈ z_good := (z_gd 1103 (by decide +kernel) rfl)
theorem yv_X12_ledger : Cond.selects yX12_ledger.cls yX12_ledger yX12_ledger ∈ z_good := (z_gd 1104 (by decide +kernel) rfl)
theorem mv_L_101 : z_MV RL 101 12 yX12_ledger cX12_ledger 7 (some .long) 3 := ⟨⟨Or.inl (z_gd 1102 (by decide +kernel) rfl), yb_X12_ledger⟩, yi_X12_ledger, yv_X12_ledger, by decide, rfl, by decide⟩
set_option maxRecDepth 20000 in
theorem yb_X12_layWays : Cond.initialized yX12_layWays.cls ∈ z_good ∧ Cond.code yX12_layWays cX12_layWays 8 none ∈ z_good ∧ (yX12_layWays.cls ≠ "java/lang/invoke/MethodHandle" ∧ yX12_layWays.cls ≠ "java/lang/invoke/VarHandle" ∧ (parseMethodDescriptor yX12_layWays.desc).map (fun d => d.parameters.length) = some 3) := ⟨(z_gd 48 (by decide +kernel) rfl), (z_gd 1112 rfl rfl), by decide +kernel, by decide +kernel, by decide +kernel⟩
theorem yi_X12_layWays : Cond.instanceMethod yX12_layWays ∈ z_good := (z_gd 1111 (by decide +kernel) rfl)
theorem yv_X12_layWays : Cond.selects yX12_layWays.cls yX12_layWays yX12_layWays ∈ z_good := (z_gd 31 (by decide +kernel) rfl)
theorem mv_X12_256 : z_MV RX12 256 12 yX12_layWays cX12_layWays 8 none 3 := ⟨⟨Or.inl (z_gd 1109 (by decide +kernel) rfl), yb_X12_layWays⟩, yi_X12_layWays, yv_X12_layWays, by decide, rfl, by decide⟩
set_option maxRecDepth 20000 in
theorem yb_X12_ends : Cond.initialized yX12_ends.cls ∈ z_good ∧ Cond.code yX12_ends cX12_ends 6 (some .int) ∈ z_good ∧ (yX12_ends.cls ≠ "java/lang/invoke/MethodHandle" ∧ yX12_ends.cls ≠ "java/lang/invoke/VarHandle" ∧ (parseMethodDescriptor yX12_ends.desc).map (fun d => d.parameters.length) = some 3) := ⟨(z_gd 48 (by decide +kernel) rfl), (z_gd 1116 rfl rfl), by decide +kernel, by decide +kernel, by decide +kernel⟩
theorem yi_X12_ends : Cond.instanceMethod yX12_ends ∈ z_good := (z_gd 1114 (by decide +kernel) rfl)
theorem yv_X12_ends : Cond.selects yX12_ends.cls yX12_ends yX12_ends ∈ z_good := (z_gd 1115 (by decide +kernel) rfl)
theorem mv_L_105 : z_MV RL 105 12 yX12_ends cX12_ends 6 (some .int) 3 := ⟨⟨Or.inl (z_gd 1113 (by decide +kernel) rfl), yb_X12_ends⟩, yi_X12_ends, yv_X12_ends, by decide, rfl, by decide⟩
set_option maxRecDepth 20000 in
theorem yb_X12_chance : Cond.initialized yX12_chance.cls ∈ z_good ∧ Cond.code yX12_chance cX12_chance 8 (some .long) ∈ z_good ∧ (yX12_chance.cls ≠ "java/lang/invoke/MethodHandle" ∧ yX12_chance.cls ≠ "java/lang/invoke/VarHandle" ∧ (parseMethodDescriptor yX12_chance.desc).map (fun d => d.parameters.length) = some 3) := ⟨(z_gd 48 (by decide +kernel) rfl), (z_gd 1120 rfl rfl), by decide +kernel, by decide +kernel, by decide +kernel⟩
theorem yi_X12_chance : Cond.instanceMethod yX12_chance ∈ z_good := (z_gd 1118 (by decide +kernel) rfl)
theorem yv_X12_chance : Cond.selects yX12_chance.cls yX12_chance yX12_chance ∈ z_good := (z_gd 1119 (by decide +kernel) rfl)
theorem mv_L_110 : z_MV RL 110 12 yX12_chance cX12_chance 8 (some .long) 3 := ⟨⟨Or.inl (z_gd 1117 (by decide +kernel) rfl), yb_X12_chance⟩, yi_X12_chance, yv_X12_chance, by decide, rfl, by decide⟩
set_option maxRecDepth 20000 in
theorem yb_X12_layAll : Cond.initialized yX12_layAll.cls ∈ z_good ∧ Cond.code yX12_layAll cX12_layAll 2 none ∈ z_good ∧ (yX12_layAll.cls ≠ "java/lang/invoke/MethodHandle" ∧ yX12_layAll.cls ≠ "java/lang/invoke/VarHandle" ∧ (parseMethodDescriptor yX12_layAll.desc).map (fun d => d.parameters.length) = some 0) := ⟨(z_gd 48 (by decide +kernel) rfl), (z_gd 1125 rfl rfl), by decide +kernel, by decide +kernel, by decide +kernel⟩
theorem yi_X12_layAll : Cond.instanceMethod yX12_layAll ∈ z_good := (z_gd 1124 (by decide +kernel) rfl)
theorem yv_X12_layAll : Cond.selects yX12_layAll.cls yX12_layAll yX12_layAll ∈ z_good := (z_gd 32 (by decide +kernel) rfl)
theorem mv_X12_261 : z_MV RX12 261 12 yX12_layAll cX12_layAll 2 none 0 := ⟨⟨Or.inl (z_gd 1122 (by decide +kernel) rfl), yb_X12_layAll⟩, yi_X12_layAll, yv_X12_layAll, by decide, rfl, by decide⟩
set_option maxRecDepth 20000 in
theorem yb_X12_within : Cond.initialized yX12_within.cls ∈ z_good ∧ Cond.code yX12_within cX12_within 9 (some .long) ∈ z_good ∧ (yX12_within.cls ≠ "java/lang/invoke/MethodHandle" ∧ yX12_within.cls ≠ "java/lang/invoke/VarHandle" ∧ (parseMethodDescriptor yX12_within.desc).map (fun d => d.parameters.length) = some 2) := ⟨(z_gd 48 (by decide +kernel) rfl), (z_gd 1129 rfl rfl), by decide +kernel, by decide +kernel, by decide +kernel⟩
theorem yi_X12_within : Cond.instanceMethod yX12_within ∈ z_good := (z_gd 1128 (by decide +kernel) rfl)
theorem yv_X12_within : Cond.selects yX12_within.cls yX12_within yX12_within ∈ z_good := (z_gd 33 (by decide +kernel) rfl)
theorem mv_X12_264 : z_MV RX12 264 12 yX12_within cX12_within 9 (some .long) 2 := ⟨⟨Or.inl (z_gd 1126 (by decide +kernel) rfl), yb_X12_within⟩, yi_X12_within, yv_X12_within, by decide, rfl, by decide⟩
set_option maxRecDepth 20000 in
theorem yb_X12_whole : Cond.initialized yX12_whole.cls ∈ z_good ∧ Cond.code yX12_whole cX12_whole 4 (some .long) ∈ z_good ∧ (yX12_whole.cls ≠ "java/lang/invoke/MethodHandle" ∧ yX12_whole.cls ≠ "java/lang/invoke/VarHandle" ∧ (parseMethodDescriptor yX12_whole.desc).map (fun d => d.parameters.length) = some 0) := ⟨(z_gd 48 (by decide +kernel) rfl), (z_gd 1133 rfl rfl), by decide +kernel, by decide +kernel, by decide +kernel⟩
theorem yi_X12_whole : Cond.instanceMethod yX12_whole ∈ z_good := (z_gd 1132 (by decide +kernel) rfl)
theorem yv_X12_whole : Cond.selects yX12_whole.cls yX12_whole yX12_whole ∈ z_good := (z_gd 34 (by decide +kernel) rfl)
theorem mv_X12_268 : z_MV RX12 268 12 yX12_whole cX12_whole 4 (some .long) 0 := ⟨⟨Or.inl (z_gd 1130 (by decide +kernel) rfl), yb_X12_whole⟩, yi_X12_whole, yv_X12_whole, by decide, rfl, by decide⟩
set_option maxRecDepth 20000 in
theorem yb_X12_divisor : Cond.initialized yX12_divisor.cls ∈ z_good ∧ Cond.code yX12_divisor cX12_divisor 10 (some .long) ∈ z_good ∧ (yX12_divisor.cls ≠ "java/lang/invoke/MethodHandle" ∧ yX12_divisor.cls ≠ "java/lang/invoke/VarHandle" ∧ (parseMethodDescriptor yX12_divisor.desc).map (fun d => d.parameters.length) = some 2) := ⟨(z_gd 48 (by decide +kernel) rfl), (z_gd 1136 rfl rfl), by decide +kernel, by decide +kernel, by decide +kernel⟩
theorem ys_X12_divisor : Cond.static yX12_divisor ∈ z_good := (z_gd 1135 (by decide +kernel) rfl)
theorem ms_X12_272 : z_MS RX12 272 yX12_divisor cX12_divisor 10 (some .long) 2 := ⟨⟨Or.inl (z_gd 1134 (by decide +kernel) rfl), yb_X12_divisor⟩, ys_X12_divisor, by decide⟩
set_option maxRecDepth 20000 in
theorem yb_X12_spare : Cond.initialized yX12_spare.cls ∈ z_good ∧ Cond.code yX12_spare cX12_spare 4 (some .int) ∈ z_good ∧ (yX12_spare.cls ≠ "java/lang/invoke/MethodHandle" ∧ yX12_spare.cls ≠ "java/lang/invoke/VarHandle" ∧ (parseMethodDescriptor yX12_spare.desc).map (fun d => d.parameters.length) = some 2) := ⟨(z_gd 48 (by decide +kernel) rfl), (z_gd 1140 rfl rfl), by decide +kernel, by decide +kernel, by decide +kernel⟩
theorem yi_X12_spare : Cond.instanceMethod yX12_spare ∈ z_good := (z_gd 1138 (by decide +kernel) rfl)
theorem yv_X12_spare : Cond.selects yX12_spare.cls yX12_spare yX12_spare ∈ z_good := (z_gd 1139 (by decide +kernel) rfl)
theorem mv_L_114 : z_MV RL 114 12 yX12_spare cX12_spare 4 (some .int) 2 := ⟨⟨Or.inl (z_gd 1137 (by decide +kernel) rfl), yb_X12_spare⟩, yi_X12_spare, yv_X12_spare, by decide, rfl, by decide⟩
set_option maxRecDepth 20000 in
theorem yb_X12_keep : Cond.initialized yX12_keep.cls ∈ z_good ∧ Cond.code yX12_keep cX12_keep 2 (some .int) ∈ z_good ∧ (yX12_keep.cls ≠ "java/lang/invoke/MethodHandle" ∧ yX12_keep.cls ≠ "java/lang/invoke/VarHandle" ∧ (parseMethodDescriptor yX12_keep.desc).map (fun d => d.parameters.length) = some 1) := ⟨(z_gd 48 (by decide +kernel) rfl), (z_gd 1145 rfl rfl), by decide +kernel, by decide +kernel, by decide +kernel⟩
theorem yi_X12_keep : Cond.instanceMethod yX12_keep ∈ z_good := (z_gd 1143 (by decide +kernel) rfl)
theorem yv_X12_keep : Cond.selects yX12_keep.cls yX12_keep yX12_keep ∈ z_good := (z_gd 1144 (by decide +kernel) rfl)
theorem mv_L_118 : z_MV RL 118 12 yX12_keep cX12_keep 2 (some .int) 1 := ⟨⟨Or.inl (z_gd 1142 (by decide +kernel) rfl), yb_X12_keep⟩, yi_X12_keep, yv_X12_keep, by decide, rfl, by decide⟩
set_option maxRecDepth 20000 in
theorem yb_X12_again : Cond.initialized yX12_again.cls ∈ z_good ∧ Cond.code yX12_again cX12_again 2 (some .int) ∈ z_good ∧ (yX12_again.cls ≠ "java/lang/invoke/MethodHandle" ∧ yX12_again.cls ≠ "java/lang/invoke/VarHandle" ∧ (parseMethodDescriptor yX12_again.desc).map (fun d => d.parameters.length) = some 1) := ⟨(z_gd 48 (by decide +kernel) rfl), (z_gd 1149 rfl rfl), by decide +kernel, by decide +kernel, by decide +kernel⟩
theorem yi_X12_again : Cond.instanceMethod yX12_again ∈ z_good := (z_gd 1147 (by decide +kernel) rfl)
theorem yv_X12_again : Cond.selects yX12_again.cls yX12_again yX12_again ∈ z_good := (z_gd 1148 (by decide +kernel) rfl)
theorem mv_L_122 : z_MV RL 122 12 yX12_again cX12_again 2 (some .int) 1 := ⟨⟨Or.inl (z_gd 1146 (by decide +kernel) rfl), yb_X12_again⟩, yi_X12_again, yv_X12_again, by decide, rfl, by decide⟩
set_option maxRecDepth 20000 in
theorem yb_X8_init : Cond.initialized yX8_init.cls ∈ z_good ∧ Cond.code yX8_init cX8_init 1 none ∈ z_good ∧ (yX8_init.cls ≠ "java/lang/invoke/MethodHandle" ∧ yX8_init.cls ≠ "java/lang/invoke/VarHandle" ∧ (parseMethodDescriptor yX8_init.desc).map (fun d => d.parameters.length) = some 0) := ⟨(z_gd 37 (by decide +kernel) rfl), (z_gd 63 rfl rfl), by decide +kernel, by decide +kernel, by decide +kernel⟩
theorem yi_X8_init : Cond.instanceMethod yX8_init ∈ z_good := (z_gd 62 (by decide +kernel) rfl)
theorem mi_X11_9 : z_MI RX11 9 yX8_init cX8_init 1 0 := ⟨⟨Or.inr ⟨"StepsShared", (z_ns 61 (by decide +kernel) rfl)⟩, yb_X8_init⟩, yi_X8_init, rfl, by decide⟩
set_option maxRecDepth 20000 in
theorem yb_X7_init : Cond.initialized yX7_init.cls ∈ z_good ∧ Cond.code yX7_init cX7_init 1 none ∈ z_good ∧ (yX7_init.cls ≠ "java/lang/invoke/MethodHandle" ∧ yX7_init.cls ≠ "java/lang/invoke/VarHandle" ∧ (parseMethodDescriptor yX7_init.desc).map (fun d => d.parameters.length) = some 0) := ⟨(z_gd 38 (by decide +kernel) rfl), (z_gd 77 rfl rfl), by decide +kernel, by decide +kernel, by decide +kernel⟩
theorem yi_X7_init : Cond.instanceMethod yX7_init ∈ z_good := (z_gd 76 (by decide +kernel) rfl)
theorem mi_X11_18 : z_MI RX11 18 yX7_init cX7_init 1 0 := ⟨⟨Or.inr ⟨"StepsShared", (z_ns 75 (by decide +kernel) rfl)⟩, yb_X7_init⟩, yi_X7_init, rfl, by decide⟩
set_option maxRecDepth 20000 in
theorem yb_X0_init : Cond.initialized yX0_init.cls ∈ z_good ∧ Cond.code yX0_init cX0_init 2 none ∈ z_good ∧ (yX0_init.cls ≠ "java/lang/invoke/MethodHandle" ∧ yX0_init.cls ≠ "java/lang/invoke/VarHandle" ∧ (parseMethodDescriptor yX0_init.desc).map (fun d => d.parameters.length) = some 0) := ⟨(z_gd 39 (by decide +kernel) rfl), (z_gd 108 rfl rfl), by decide +kernel, by decide +kernel, by decide +kernel⟩
theorem yi_X0_init : Cond.instanceMethod yX0_init ∈ z_good := (z_gd 107 (by decide +kernel) rfl)
theorem mi_X11_25 : z_MI RX11 25 yX0_init cX0_init 2 0 := ⟨⟨Or.inr ⟨"StepsShared", (z_ns 106 (by decide +kernel) rfl)⟩, yb_X0_init⟩, yi_X0_init, rfl, by decide⟩
theorem mi_X0_17 : z_MI RX0 17 yX7_init cX7_init 1 0 := ⟨⟨Or.inr ⟨"StepsShared", (z_ns 112 (by decide +kernel) rfl)⟩, yb_X7_init⟩, yi_X7_init, rfl, by decide⟩
set_option maxRecDepth 20000 in
theorem yb_X6_init : Cond.initialized yX6_init.cls ∈ z_good ∧ Cond.code yX6_init cX6_init 2 none ∈ z_good ∧ (yX6_init.cls ≠ "java/lang/invoke/MethodHandle" ∧ yX6_init.cls ≠ "java/lang/invoke/VarHandle" ∧ (parseMethodDescriptor yX6_init.desc).map (fun d => d.parameters.length) = some 0) := ⟨(z_gd 40 (by decide +kernel) rfl), (z_gd 128 rfl rfl), by decide +kernel, by decide +kernel, by decide +kernel⟩
theorem yi_X6_init : Cond.instanceMethod yX6_init ∈ z_good := (z_gd 127 (by decide +kernel) rfl)
theorem mi_X11_32 : z_MI RX11 32 yX6_init cX6_init 2 0 := ⟨⟨Or.inr ⟨"StepsShared", (z_ns 126 (by decide +kernel) rfl)⟩, yb_X6_init⟩, yi_X6_init, rfl, by decide⟩
theorem mi_X6_21 : z_MI RX6 21 yX7_init cX7_init 1 0 := ⟨⟨Or.inr ⟨"StepsShared", (z_ns 131 (by decide +kernel) rfl)⟩, yb_X7_init⟩, yi_X7_init, rfl, by decide⟩
set_option maxRecDepth 20000 in
theorem yb_X9_init : Cond.initialized yX9_init.cls ∈ z_good ∧ Cond.code yX9_init cX9_init 1 none ∈ z_good ∧ (yX9_init.cls ≠ "java/lang/invoke/MethodHandle" ∧ yX9_init.cls ≠ "java/lang/invoke/VarHandle" ∧ (parseMethodDescriptor yX9_init.desc).map (fun d => d.parameters.length) = some 0) := ⟨(z_gd 41 (by decide +kernel) rfl), (z_gd 144 rfl rfl), by decide +kernel, by decide +kernel, by decide +kernel⟩
theorem yi_X9_init : Cond.instanceMethod yX9_init ∈ z_good := (z_gd 143 (by decide +kernel) rfl)
theorem mi_X11_39 : z_MI RX11 39 yX9_init cX9_init 1 0 := ⟨⟨Or.inr ⟨"StepsShared", (z_ns 142 (by decide +kernel) rfl)⟩, yb_X9_init⟩, yi_X9_init, rfl, by decide⟩
set_option maxRecDepth 20000 in
theorem yb_X3_init : Cond.initialized yX3_init.cls ∈ z_good ∧ Cond.code yX3_init cX3_init 1 none ∈ z_good ∧ (yX3_init.cls ≠ "java/lang/invoke/MethodHandle" ∧ yX3_init.cls ≠ "java/lang/invoke/VarHandle" ∧ (parseMethodDescriptor yX3_init.desc).map (fun d => d.parameters.length) = some 0) := ⟨(z_gd 42 (by decide +kernel) rfl), (z_gd 160 rfl rfl), by decide +kernel, by decide +kernel, by decide +kernel⟩
theorem yi_X3_init : Cond.instanceMethod yX3_init ∈ z_good := (z_gd 159 (by decide +kernel) rfl)
theorem mi_X11_46 : z_MI RX11 46 yX3_init cX3_init 1 0 := ⟨⟨Or.inr ⟨"StepsShared", (z_ns 158 (by decide +kernel) rfl)⟩, yb_X3_init⟩, yi_X3_init, rfl, by decide⟩
theorem mi_X3_11 : z_MI RX3 11 yX9_init cX9_init 1 0 := ⟨⟨Or.inr ⟨"StepsShared", (z_ns 163 (by decide +kernel) rfl)⟩, yb_X9_init⟩, yi_X9_init, rfl, by decide⟩
set_option maxRecDepth 20000 in
theorem yb_X10_init : Cond.initialized yX10_init.cls ∈ z_good ∧ Cond.code yX10_init cX10_init 1 none ∈ z_good ∧ (yX10_init.cls ≠ "java/lang/invoke/MethodHandle" ∧ yX10_init.cls ≠ "java/lang/invoke/VarHandle" ∧ (parseMethodDescriptor yX10_init.desc).map (fun d => d.parameters.length) = some 0) := ⟨(z_gd 43 (by decide +kernel) rfl), (z_gd 207 rfl rfl), by decide +kernel, by decide +kernel, by decide +kernel⟩
theorem yi_X10_init : Cond.instanceMethod yX10_init ∈ z_good := (z_gd 206 (by decide +kernel) rfl)
theorem mi_X11_53 : z_MI RX11 53 yX10_init cX10_init 1 0 := ⟨⟨Or.inr ⟨"StepsShared", (z_ns 205 (by decide +kernel) rfl)⟩, yb_X10_init⟩, yi_X10_init, rfl, by decide⟩
set_option maxRecDepth 20000 in
theorem yb_X5_init : Cond.initialized yX5_init.cls ∈ z_good ∧ Cond.code yX5_init cX5_init 1 none ∈ z_good ∧ (yX5_init.cls ≠ "java/lang/invoke/MethodHandle" ∧ yX5_init.cls ≠ "java/lang/invoke/VarHandle" ∧ (parseMethodDescriptor yX5_init.desc).map (fun d => d.parameters.length) = some 0) := ⟨(z_gd 44 (by decide +kernel) rfl), (z_gd 217 rfl rfl), by decide +kernel, by decide +kernel, by decide +kernel⟩
theorem yi_X5_init : Cond.instanceMethod yX5_init ∈ z_good := (z_gd 216 (by decide +kernel) rfl)
theorem mi_X11_60 : z_MI RX11 60 yX5_init cX5_init 1 0 := ⟨⟨Or.inr ⟨"StepsShared", (z_ns 215 (by decide +kernel) rfl)⟩, yb_X5_init⟩, yi_X5_init, rfl, by decide⟩
set_option maxRecDepth 20000 in
theorem yb_X2_init : Cond.initialized yX2_init.cls ∈ z_good ∧ Cond.code yX2_init cX2_init 1 none ∈ z_good ∧ (yX2_init.cls ≠ "java/lang/invoke/MethodHandle" ∧ yX2_init.cls ≠ "java/lang/invoke/VarHandle" ∧ (parseMethodDescriptor yX2_init.desc).map (fun d => d.parameters.length) = some 0) := ⟨(z_gd 45 (by decide +kernel) rfl), (z_gd 233 rfl rfl), by decide +kernel, by decide +kernel, by decide +kernel⟩
theorem yi_X2_init : Cond.instanceMethod yX2_init ∈ z_good := (z_gd 232 (by decide +kernel) rfl)
theorem mi_X11_67 : z_MI RX11 67 yX2_init cX2_init 1 0 := ⟨⟨Or.inr ⟨"StepsShared", (z_ns 231 (by decide +kernel) rfl)⟩, yb_X2_init⟩, yi_X2_init, rfl, by decide⟩
set_option maxRecDepth 20000 in
theorem yb_X1_init : Cond.initialized yX1_init.cls ∈ z_good ∧ Cond.code yX1_init cX1_init 1 none ∈ z_good ∧ (yX1_init.cls ≠ "java/lang/invoke/MethodHandle" ∧ yX1_init.cls ≠ "java/lang/invoke/VarHandle" ∧ (parseMethodDescriptor yX1_init.desc).map (fun d => d.parameters.length) = some 0) := ⟨(z_gd 46 (by decide +kernel) rfl), (z_gd 253 rfl rfl), by decide +kernel, by decide +kernel, by decide +kernel⟩
theorem yi_X1_init : Cond.instanceMethod yX1_init ∈ z_good := (z_gd 252 (by decide +kernel) rfl)
theorem mi_X11_78 : z_MI RX11 78 yX1_init cX1_init 1 0 := ⟨⟨Or.inr ⟨"StepsShared", (z_ns 251 (by decide +kernel) rfl)⟩, yb_X1_init⟩, yi_X1_init, rfl, by decide⟩
theorem mv_X4_25 : z_MV RX4 25 1 yX1_begin cX1_begin 4 none 2 := ⟨⟨Or.inr ⟨"StepsShared", (z_ns 386 (by decide +kernel) rfl)⟩, yb_X1_begin⟩, yi_X1_begin, yv_X1_begin, by decide, rfl, by decide⟩
theorem mv_X11_103 : z_MV RX11 103 1 yX1_measure cX1_measure 5 none 0 := ⟨⟨Or.inr ⟨"StepsShared", (z_ns 428 (by decide +kernel) rfl)⟩, yb_X1_measure⟩, yi_X1_measure, yv_X1_measure, by decide, rfl, by decide⟩
theorem ms_X11_264 : z_MS RX11 264 yX10_play cX10_play 16 (some .int) 7 := ⟨⟨Or.inr ⟨"StepsShared", (z_ns 675 (by decide +kernel) rfl)⟩, yb_X10_play⟩, ys_X10_play, by decide⟩
theorem nw_L_7 : 11 < 13 ∧ Cond.classLink RL 7 (zR 11) ∈ z_good ∧ Cond.instantiable (zR 11) (zN 11) ∈ z_good ∧ Cond.initialized (zR 11) ∈ z_good := ⟨by decide, (z_gd 51 (by decide +kernel) rfl), (z_gd 52 (by decide +kernel) rfl), (z_gd 36 (by decide +kernel) rfl)⟩
theorem nw_X11_7 : 8 < 13 ∧ Cond.classLink RX11 7 (zR 8) ∈ z_good ∧ Cond.instantiable (zR 8) (zN 8) ∈ z_good ∧ Cond.initialized (zR 8) ∈ z_good := ⟨by decide, (z_gd 59 (by decide +kernel) rfl), (z_gd 60 (by decide +kernel) rfl), (z_gd 37 (by decide +kernel) rfl)⟩
theorem nw_X11_16 : 7 < 13 ∧ Cond.classLink RX11 16 (zR 7) ∈ z_good ∧ Cond.instantiable (zR 7) (zN 7) ∈ z_good ∧ Cond.initialized (zR 7) ∈ z_good := ⟨by decide, (z_gd 73 (by decide +kernel) rfl), (z_gd 74 (by decide +kernel) rfl), (z_gd 38 (by decide +kernel) rfl)⟩
theorem an_X11_16 : Cond.classLink RX11 16 "StepsShared$Standing" ∈ z_good := (z_gd 73 (by decide +kernel) rfl)
theorem nw_X11_23 : 0 < 13 ∧ Cond.classLink RX11 23 (zR 0) ∈ z_good ∧ Cond.instantiable (zR 0) (zN 0) ∈ z_good ∧ Cond.initialized (zR 0) ∈ z_good := ⟨by decide, (z_gd 104 (by decide +kernel) rfl), (z_gd 105 (by decide +kernel) rfl), (z_gd 39 (by decide +kernel) rfl)⟩
theorem nw_X0_9 : 7 < 13 ∧ Cond.classLink RX0 9 (zR 7) ∈ z_good ∧ Cond.instantiable (zR 7) (zN 7) ∈ z_good ∧ Cond.initialized (zR 7) ∈ z_good := ⟨by decide, (z_gd 110 (by decide +kernel) rfl), (z_gd 74 (by decide +kernel) rfl), (z_gd 38 (by decide +kernel) rfl)⟩
theorem an_X0_9 : Cond.classLink RX0 9 "StepsShared$Standing" ∈ z_good := (z_gd 110 (by decide +kernel) rfl)
theorem nw_X11_30 : 6 < 13 ∧ Cond.classLink RX11 30 (zR 6) ∈ z_good ∧ Cond.instantiable (zR 6) (zN 6) ∈ z_good ∧ Cond.initialized (zR 6) ∈ z_good := ⟨by decide, (z_gd 124 (by decide +kernel) rfl), (z_gd 125 (by decide +kernel) rfl), (z_gd 40 (by decide +kernel) rfl)⟩
theorem nw_X6_9 : 7 < 13 ∧ Cond.classLink RX6 9 (zR 7) ∈ z_good ∧ Cond.instantiable (zR 7) (zN 7) ∈ z_good ∧ Cond.initialized (zR 7) ∈ z_good := ⟨by decide, (z_gd 130 (by decide +kernel) rfl), (z_gd 74 (by decide +kernel) rfl), (z_gd 38 (by decide +kernel) rfl)⟩
theorem an_X6_9 : Cond.classLink RX6 9 "StepsShared$Standing" ∈ z_good := (z_gd 130 (by decide +kernel) rfl)
theorem nw_X11_37 : 9 < 13 ∧ Cond.classLink RX11 37 (zR 9) ∈ z_good ∧ Cond.instantiable (zR 9) (zN 9) ∈ z_good ∧ Cond.initialized (zR 9) ∈ z_good := ⟨by decide, (z_gd 140 (by decide +kernel) rfl), (z_gd 141 (by decide +kernel) rfl), (z_gd 41 (by decide +kernel) rfl)⟩
theorem nw_X11_44 : 3 < 13 ∧ Cond.classLink RX11 44 (zR 3) ∈ z_good ∧ Cond.instantiable (zR 3) (zN 3) ∈ z_good ∧ Cond.initialized (zR 3) ∈ z_good := ⟨by decide, (z_gd 156 (by decide +kernel) rfl), (z_gd 157 (by decide +kernel) rfl), (z_gd 42 (by decide +kernel) rfl)⟩
theorem nw_X3_9 : 9 < 13 ∧ Cond.classLink RX3 9 (zR 9) ∈ z_good ∧ Cond.instantiable (zR 9) (zN 9) ∈ z_good ∧ Cond.initialized (zR 9) ∈ z_good := ⟨by decide, (z_gd 162 (by decide +kernel) rfl), (z_gd 141 (by decide +kernel) rfl), (z_gd 41 (by decide +kernel) rfl)⟩
theorem nw_X11_51 : 10 < 13 ∧ Cond.classLink RX11 51 (zR 10) ∈ z_good ∧ Cond.instantiable (zR 10) (zN 10) ∈ z_good ∧ Cond.initialized (zR 10) ∈ z_good := ⟨by decide, (z_gd 203 (by decide +kernel) rfl), (z_gd 204 (by decide +kernel) rfl), (z_gd 43 (by decide +kernel) rfl)⟩
theorem nw_X11_58 : 5 < 13 ∧ Cond.classLink RX11 58 (zR 5) ∈ z_good ∧ Cond.instantiable (zR 5) (zN 5) ∈ z_good ∧ Cond.initialized (zR 5) ∈ z_good := ⟨by decide, (z_gd 213 (by decide +kernel) rfl), (z_gd 214 (by decide +kernel) rfl), (z_gd 44 (by decide +kernel) rfl)⟩
theorem nw_X11_65 : 2 < 13 ∧ Cond.classLink RX11 65 (zR 2) ∈ z_good ∧ Cond.instantiable (zR 2) (zN 2) ∈ z_good ∧ Cond.initialized (zR 2) ∈ z_good := ⟨by decide, (z_gd 229 (by decide +kernel) rfl), (z_gd 230 (by decide +kernel) rfl), (z_gd 45 (by decide +kernel) rfl)⟩
theorem nw_X11_76 : 1 < 13 ∧ Cond.classLink RX11 76 (zR 1) ∈ z_good ∧ Cond.instantiable (zR 1) (zN 1) ∈ z_good ∧ Cond.initialized (zR 1) ∈ z_good := ⟨by decide, (z_gd 249 (by decide +kernel) rfl), (z_gd 250 (by decide +kernel) rfl), (z_gd 46 (by decide +kernel) rfl)⟩
theorem nw_L_10 : 12 < 13 ∧ Cond.classLink RL 10 (zR 12) ∈ z_good ∧ Cond.instantiable (zR 12) (zN 12) ∈ z_good ∧ Cond.initialized (zR 12) ∈ z_good := ⟨by decide, (z_gd 775 (by decide +kernel) rfl), (z_gd 776 (by decide +kernel) rfl), (z_gd 48 (by decide +kernel) rfl)⟩
theorem ac_int : (ArrayType.int = .int ∨ ArrayType.int = .long ∨ ArrayType.int = .boolean) ∧ Cond.arrayClass (newarray.typeOf .int) ∈ z_good := ⟨by decide, (z_gd 72 (by decide +kernel) rfl)⟩
theorem ac_boolean : (ArrayType.boolean = .int ∨ ArrayType.boolean = .long ∨ ArrayType.boolean = .boolean) ∧ Cond.arrayClass (newarray.typeOf .boolean) ∈ z_good := ⟨by decide, (z_gd 139 (by decide +kernel) rfl)⟩
theorem ac_long : (ArrayType.long = .int ∨ ArrayType.long = .long ∨ ArrayType.long = .boolean) ∧ Cond.arrayClass (newarray.typeOf .long) ∈ z_good := ⟨by decide, (z_gd 930 (by decide +kernel) rfl)⟩
theorem ct_X1_68 : Cond.constant RX1 68 (1000000) ∈ z_good := (z_gd 269 (by decide +kernel) rfl)
theorem ct_X11_307 : Cond.constant RX11 307 (1000000) ∈ z_good := (z_gd 490 (by decide +kernel) rfl)
theorem ct_X9_28 : Cond.constant RX9 28 (1000000) ∈ z_good := (z_gd 608 (by decide +kernel) rfl)
theorem ct_X3_62 : Cond.constant RX3 62 (1000000) ∈ z_good := (z_gd 643 (by decide +kernel) rfl)
theorem ct_J6_265 : Cond.constant RJ6 265 (1431655765) ∈ z_good := (z_gd 663 (by decide +kernel) rfl)
theorem ct_J6_266 : Cond.constant RJ6 266 (858993459) ∈ z_good := (z_gd 664 (by decide +kernel) rfl)
theorem ct_J6_267 : Cond.constant RJ6 267 (252645135) ∈ z_good := (z_gd 665 (by decide +kernel) rfl)
theorem ct_X5_52 : Cond.constant RX5 52 (1000000) ∈ z_good := (z_gd 713 (by decide +kernel) rfl)
theorem ct_X12_103 : Cond.constant RX12 103 (99999) ∈ z_good := (z_gd 781 (by decide +kernel) rfl)
theorem cl_X11_271 : Cond.constantLong RX11 271 (-1) ∈ z_good := (z_gd 691 (by decide +kernel) rfl)
theorem cl_X11_273 : Cond.constantLong RX11 273 (-2) ∈ z_good := (z_gd 692 (by decide +kernel) rfl)
theorem cl_X2_39 : Cond.constantLong RX2 39 (100) ∈ z_good := (z_gd 751 (by decide +kernel) rfl)
theorem cl_X12_114 : Cond.constantLong RX12 114 (8) ∈ z_good := (z_gd 935 (by decide +kernel) rfl)
theorem cl_X12_214 : Cond.constantLong RX12 214 (99) ∈ z_good := (z_gd 1048 (by decide +kernel) rfl)
theorem cl_X12_235 : Cond.constantLong RX12 235 (3) ∈ z_good := (z_gd 1077 (by decide +kernel) rfl)
theorem cl_X12_250 : Cond.constantLong RX12 250 (-1) ∈ z_good := (z_gd 1106 (by decide +kernel) rfl)
theorem cl_X12_252 : Cond.constantLong RX12 252 (999) ∈ z_good := (z_gd 1107 (by decide +kernel) rfl)
theorem cl_X12_254 : Cond.constantLong RX12 254 (-2) ∈ z_good := (z_gd 1108 (by decide +kernel) rfl)
theorem cl_X12_259 : Cond.constantLong RX12 259 (10) ∈ z_good := (z_gd 1121 (by decide +kernel) rfl)
theorem cl_X12_276 : Cond.constantLong RX12 276 (100) ∈ z_good := (z_gd 1141 (by decide +kernel) rfl)
theorem cl_L_13 : Cond.constantLong RL 13 (4294967295) ∈ z_good := (z_gd 1150 (by decide +kernel) rfl)
