/-! the law: instructions; the wrappers: handlers; by program -/
theorem CW_Lw_appendCharacter : Cond.codeWith M_Lw_appendCharacter.1 M_Lw_appendCharacter.2.1 M_Lw_appendCharacter.2.2.1 M_Lw_appendCharacter.2.2.2.1 M_Lw_appendCharacter.2.2.2.2 ∈ lw_good := lw_k2 189 rfl rfl
theorem ct_Lw_appendCharacter_1 : iCatch M_Lw_appendCharacter 4 12 "java/lang/IllegalArgumentException" := ⟨[], (0, 9, 12, 13), [(0, 9, 15, 15)], rfl, fun z hz => absurd hz List.not_mem_nil, by decide, by decide, rfl, lw_k2 190 rfl rfl, by decide +kernel⟩
theorem ct_Lw_appendCharacter_2 : iCatch M_Lw_appendCharacter 4 15 "java/lang/IllegalStateException" := ⟨[(0, 9, 12, 13)], (0, 9, 15, 15), [], rfl, List.forall_mem_cons.mpr ⟨⟨by decide, "java/lang/IllegalArgumentException", lw_k2 190 rfl rfl, by decide +kernel⟩, fun z hz => absurd hz List.not_mem_nil⟩, by decide, by decide, rfl, lw_k2 191 rfl rfl, by decide +kernel⟩
theorem CW_Lw_setProduction : Cond.codeWith M_Lw_setProduction.1 M_Lw_setProduction.2.1 M_Lw_setProduction.2.2.1 M_Lw_setProduction.2.2.2.1 M_Lw_setProduction.2.2.2.2 ∈ lw_good := lw_k3 49 rfl rfl
theorem ct_Lw_setProduction_1 : iCatch M_Lw_setProduction 5 13 "java/lang/IndexOutOfBoundsException" := ⟨[], (0, 10, 13, 21), [(0, 10, 17, 13)], rfl, fun z hz => absurd hz List.not_mem_nil, by decide, by decide, rfl, lw_k3 50 rfl rfl, by decide +kernel⟩
theorem ct_Lw_setProduction_2 : iCatch M_Lw_setProduction 5 17 "java/lang/IllegalArgumentException" := ⟨[(0, 10, 13, 21)], (0, 10, 17, 13), [], rfl, List.forall_mem_cons.mpr ⟨⟨by decide, "java/lang/IndexOutOfBoundsException", lw_k3 50 rfl rfl, by decide +kernel⟩, fun z hz => absurd hz List.not_mem_nil⟩, by decide, by decide, rfl, lw_k2 190 rfl rfl, by decide +kernel⟩
theorem CW_Lw_addProduction : Cond.codeWith M_Lw_addProduction.1 M_Lw_addProduction.2.1 M_Lw_addProduction.2.2.1 M_Lw_addProduction.2.2.2.1 M_Lw_addProduction.2.2.2.2 ∈ lw_good := lw_k3 123 rfl rfl
theorem ct_Lw_addProduction_1 : iCatch M_Lw_addProduction 5 13 "java/lang/IndexOutOfBoundsException" := ⟨[], (0, 10, 13, 21), [(0, 10, 17, 13), (0, 10, 21, 15)], rfl, fun z hz => absurd hz List.not_mem_nil, by decide, by decide, rfl, lw_k3 50 rfl rfl, by decide +kernel⟩
theorem ct_Lw_addProduction_2 : iCatch M_Lw_addProduction 5 17 "java/lang/IllegalArgumentException" := ⟨[(0, 10, 13, 21)], (0, 10, 17, 13), [(0, 10, 21, 15)], rfl, List.forall_mem_cons.mpr ⟨⟨by decide, "java/lang/IndexOutOfBoundsException", lw_k3 50 rfl rfl, by decide +kernel⟩, fun z hz => absurd hz List.not_mem_nil⟩, by decide, by decide, rfl, lw_k2 190 rfl rfl, by decide +kernel⟩
theorem ct_Lw_addProduction_3 : iCatch M_Lw_addProduction 5 21 "java/lang/IllegalStateException" := ⟨[(0, 10, 13, 21), (0, 10, 17, 13)], (0, 10, 21, 15), [], rfl, List.forall_mem_cons.mpr ⟨⟨by decide, "java/lang/IndexOutOfBoundsException", lw_k3 50 rfl rfl, by decide +kernel⟩, List.forall_mem_cons.mpr ⟨⟨by decide, "java/lang/IllegalArgumentException", lw_k2 190 rfl rfl, by decide +kernel⟩, fun z hz => absurd hz List.not_mem_nil⟩⟩, by decide, by decide, rfl, lw_k2 191 rfl rfl, by decide +kernel⟩
theorem CW_Lw_productionCount : Cond.codeWith M_Lw_productionCount.1 M_Lw_productionCount.2.1 M_Lw_productionCount.2.2.1 M_Lw_productionCount.2.2.2.1 M_Lw_productionCount.2.2.2.2 ∈ lw_good := lw_k3 135 rfl rfl
theorem ct_Lw_productionCount_1 : iCatch M_Lw_productionCount 5 13 "java/lang/IndexOutOfBoundsException" := ⟨[], (0, 10, 13, 21), [], rfl, fun z hz => absurd hz List.not_mem_nil, by decide, by decide, rfl, lw_k3 50 rfl rfl, by decide +kernel⟩
theorem CW_Lw_setContextRule : Cond.codeWith M_Lw_setContextRule.1 M_Lw_setContextRule.2.1 M_Lw_setContextRule.2.2.1 M_Lw_setContextRule.2.2.2.1 M_Lw_setContextRule.2.2.2.2 ∈ lw_good := lw_k3 142 rfl rfl
theorem ct_Lw_setContextRule_1 : iCatch M_Lw_setContextRule 7 22 "java/lang/IndexOutOfBoundsException" := ⟨[], (0, 19, 22, 21), [(0, 19, 26, 13), (0, 19, 30, 15)], rfl, fun z hz => absurd hz List.not_mem_nil, by decide, by decide, rfl, lw_k3 50 rfl rfl, by decide +kernel⟩
theorem ct_Lw_setContextRule_2 : iCatch M_Lw_setContextRule 7 26 "java/lang/IllegalArgumentException" := ⟨[(0, 19, 22, 21)], (0, 19, 26, 13), [(0, 19, 30, 15)], rfl, List.forall_mem_cons.mpr ⟨⟨by decide, "java/lang/IndexOutOfBoundsException", lw_k3 50 rfl rfl, by decide +kernel⟩, fun z hz => absurd hz List.not_mem_nil⟩, by decide, by decide, rfl, lw_k2 190 rfl rfl, by decide +kernel⟩
theorem ct_Lw_setContextRule_3 : iCatch M_Lw_setContextRule 7 30 "java/lang/IllegalStateException" := ⟨[(0, 19, 22, 21), (0, 19, 26, 13)], (0, 19, 30, 15), [], rfl, List.forall_mem_cons.mpr ⟨⟨by decide, "java/lang/IndexOutOfBoundsException", lw_k3 50 rfl rfl, by decide +kernel⟩, List.forall_mem_cons.mpr ⟨⟨by decide, "java/lang/IllegalArgumentException", lw_k2 190 rfl rfl, by decide +kernel⟩, fun z hz => absurd hz List.not_mem_nil⟩⟩, by decide, by decide, rfl, lw_k2 191 rfl rfl, by decide +kernel⟩
theorem CW_Lw_removeContextRule : Cond.codeWith M_Lw_removeContextRule.1 M_Lw_removeContextRule.2.1 M_Lw_removeContextRule.2.2.1 M_Lw_removeContextRule.2.2.2.1 M_Lw_removeContextRule.2.2.2.2 ∈ lw_good := lw_k3 162 rfl rfl
theorem ct_Lw_removeContextRule_1 : iCatch M_Lw_removeContextRule 7 22 "java/lang/IndexOutOfBoundsException" := ⟨[], (0, 19, 22, 21), [], rfl, fun z hz => absurd hz List.not_mem_nil, by decide, by decide, rfl, lw_k3 50 rfl rfl, by decide +kernel⟩
theorem CW_Lw_isDeterministic : Cond.codeWith M_Lw_isDeterministic.1 M_Lw_isDeterministic.2.1 M_Lw_isDeterministic.2.2.1 M_Lw_isDeterministic.2.2.2.1 M_Lw_isDeterministic.2.2.2.2 ∈ lw_good := lw_k3 173 rfl rfl
theorem ct_Lw_isDeterministic_1 : iCatch M_Lw_isDeterministic 4 19 "java/lang/IndexOutOfBoundsException" := ⟨[], (0, 16, 19, 21), [], rfl, fun z hz => absurd hz List.not_mem_nil, by decide, by decide, rfl, lw_k3 50 rfl rfl, by decide +kernel⟩
theorem CW_Lw_isPlain : Cond.codeWith M_Lw_isPlain.1 M_Lw_isPlain.2.1 M_Lw_isPlain.2.2.1 M_Lw_isPlain.2.2.2.1 M_Lw_isPlain.2.2.2.2 ∈ lw_good := lw_k3 184 rfl rfl
theorem ct_Lw_isPlain_1 : iCatch M_Lw_isPlain 4 19 "java/lang/IndexOutOfBoundsException" := ⟨[], (0, 16, 19, 21), [], rfl, fun z hz => absurd hz List.not_mem_nil, by decide, by decide, rfl, lw_k3 50 rfl rfl, by decide +kernel⟩
theorem CW_Lw_setWord : Cond.codeWith M_Lw_setWord.1 M_Lw_setWord.2.1 M_Lw_setWord.2.2.1 M_Lw_setWord.2.2.2.1 M_Lw_setWord.2.2.2.2 ∈ lw_good := lw_k3 191 rfl rfl
theorem ct_Lw_setWord_1 : iCatch M_Lw_setWord 3 11 "java/lang/IllegalArgumentException" := ⟨[], (0, 8, 11, 13), [], rfl, fun z hz => absurd hz List.not_mem_nil, by decide, by decide, rfl, lw_k2 190 rfl rfl, by decide +kernel⟩
theorem CW_Lw_setTarget : Cond.codeWith M_Lw_setTarget.1 M_Lw_setTarget.2.1 M_Lw_setTarget.2.2.1 M_Lw_setTarget.2.2.2.1 M_Lw_setTarget.2.2.2.2 ∈ lw_good := lw_k3 211 rfl rfl
theorem ct_Lw_setTarget_1 : iCatch M_Lw_setTarget 3 11 "java/lang/IllegalArgumentException" := ⟨[], (0, 8, 11, 13), [], rfl, fun z hz => absurd hz List.not_mem_nil, by decide, by decide, rfl, lw_k2 190 rfl rfl, by decide +kernel⟩
theorem CW_Lw_wordLetter : Cond.codeWith M_Lw_wordLetter.1 M_Lw_wordLetter.2.1 M_Lw_wordLetter.2.2.1 M_Lw_wordLetter.2.2.2.1 M_Lw_wordLetter.2.2.2.2 ∈ lw_good := lw_k3 218 rfl rfl
theorem ct_Lw_wordLetter_1 : iCatch M_Lw_wordLetter 4 12 "java/lang/IndexOutOfBoundsException" := ⟨[], (0, 9, 12, 21), [], rfl, fun z hz => absurd hz List.not_mem_nil, by decide, by decide, rfl, lw_k3 50 rfl rfl, by decide +kernel⟩
theorem CW_Lw_step : Cond.codeWith M_Lw_step.1 M_Lw_step.2.1 M_Lw_step.2.2.1 M_Lw_step.2.2.2.1 M_Lw_step.2.2.2.2 ∈ lw_good := lw_k3 226 rfl rfl
theorem ct_Lw_step_1 : iCatch M_Lw_step 5 13 "java/lang/IndexOutOfBoundsException" := ⟨[], (0, 10, 13, 21), [(0, 10, 17, 15)], rfl, fun z hz => absurd hz List.not_mem_nil, by decide, by decide, rfl, lw_k3 50 rfl rfl, by decide +kernel⟩
theorem ct_Lw_step_2 : iCatch M_Lw_step 5 17 "java/lang/IllegalStateException" := ⟨[(0, 10, 13, 21)], (0, 10, 17, 15), [], rfl, List.forall_mem_cons.mpr ⟨⟨by decide, "java/lang/IndexOutOfBoundsException", lw_k3 50 rfl rfl, by decide +kernel⟩, fun z hz => absurd hz List.not_mem_nil⟩, by decide, by decide, rfl, lw_k2 191 rfl rfl, by decide +kernel⟩
theorem CW_Lw_lengthAfter : Cond.codeWith M_Lw_lengthAfter.1 M_Lw_lengthAfter.2.1 M_Lw_lengthAfter.2.2.1 M_Lw_lengthAfter.2.2.2.1 M_Lw_lengthAfter.2.2.2.2 ∈ lw_good := lw_k4 21 rfl rfl
theorem ct_Lw_lengthAfter_1 : iCatch M_Lw_lengthAfter 5 12 "java/lang/IndexOutOfBoundsException" := ⟨[], (0, 9, 12, 21), [(0, 9, 16, 13), (0, 9, 20, 15), (0, 9, 24, 60)], rfl, fun z hz => absurd hz List.not_mem_nil, by decide, by decide, rfl, lw_k3 50 rfl rfl, by decide +kernel⟩
theorem ct_Lw_lengthAfter_2 : iCatch M_Lw_lengthAfter 5 16 "java/lang/IllegalArgumentException" := ⟨[(0, 9, 12, 21)], (0, 9, 16, 13), [(0, 9, 20, 15), (0, 9, 24, 60)], rfl, List.forall_mem_cons.mpr ⟨⟨by decide, "java/lang/IndexOutOfBoundsException", lw_k3 50 rfl rfl, by decide +kernel⟩, fun z hz => absurd hz List.not_mem_nil⟩, by decide, by decide, rfl, lw_k2 190 rfl rfl, by decide +kernel⟩
theorem ct_Lw_lengthAfter_3 : iCatch M_Lw_lengthAfter 5 20 "java/lang/IllegalStateException" := ⟨[(0, 9, 12, 21), (0, 9, 16, 13)], (0, 9, 20, 15), [(0, 9, 24, 60)], rfl, List.forall_mem_cons.mpr ⟨⟨by decide, "java/lang/IndexOutOfBoundsException", lw_k3 50 rfl rfl, by decide +kernel⟩, List.forall_mem_cons.mpr ⟨⟨by decide, "java/lang/IllegalArgumentException", lw_k2 190 rfl rfl, by decide +kernel⟩, fun z hz => absurd hz List.not_mem_nil⟩⟩, by decide, by decide, rfl, lw_k2 191 rfl rfl, by decide +kernel⟩
theorem ct_Lw_lengthAfter_4 : iCatch M_Lw_lengthAfter 5 24 "java/lang/ArithmeticException" := ⟨[(0, 9, 12, 21), (0, 9, 16, 13), (0, 9, 20, 15)], (0, 9, 24, 60), [], rfl, List.forall_mem_cons.mpr ⟨⟨by decide, "java/lang/IndexOutOfBoundsException", lw_k3 50 rfl rfl, by decide +kernel⟩, List.forall_mem_cons.mpr ⟨⟨by decide, "java/lang/IllegalArgumentException", lw_k2 190 rfl rfl, by decide +kernel⟩, List.forall_mem_cons.mpr ⟨⟨by decide, "java/lang/IllegalStateException", lw_k2 191 rfl rfl, by decide +kernel⟩, fun z hz => absurd hz List.not_mem_nil⟩⟩⟩, by decide, by decide, rfl, lw_k4 22 rfl rfl, by decide +kernel⟩
theorem CW_Lw_countAfter : Cond.codeWith M_Lw_countAfter.1 M_Lw_countAfter.2.1 M_Lw_countAfter.2.2.1 M_Lw_countAfter.2.2.2.1 M_Lw_countAfter.2.2.2.2 ∈ lw_good := lw_k4 68 rfl rfl
theorem ct_Lw_countAfter_1 : iCatch M_Lw_countAfter 7 14 "java/lang/IndexOutOfBoundsException" := ⟨[], (0, 11, 14, 21), [(0, 11, 18, 13), (0, 11, 22, 15), (0, 11, 26, 60)], rfl, fun z hz => absurd hz List.not_mem_nil, by decide, by decide, rfl, lw_k3 50 rfl rfl, by decide +kernel⟩
theorem ct_Lw_countAfter_2 : iCatch M_Lw_countAfter 7 18 "java/lang/IllegalArgumentException" := ⟨[(0, 11, 14, 21)], (0, 11, 18, 13), [(0, 11, 22, 15), (0, 11, 26, 60)], rfl, List.forall_mem_cons.mpr ⟨⟨by decide, "java/lang/IndexOutOfBoundsException", lw_k3 50 rfl rfl, by decide +kernel⟩, fun z hz => absurd hz List.not_mem_nil⟩, by decide, by decide, rfl, lw_k2 190 rfl rfl, by decide +kernel⟩
theorem ct_Lw_countAfter_3 : iCatch M_Lw_countAfter 7 22 "java/lang/IllegalStateException" := ⟨[(0, 11, 14, 21), (0, 11, 18, 13)], (0, 11, 22, 15), [(0, 11, 26, 60)], rfl, List.forall_mem_cons.mpr ⟨⟨by decide, "java/lang/IndexOutOfBoundsException", lw_k3 50 rfl rfl, by decide +kernel⟩, List.forall_mem_cons.mpr ⟨⟨by decide, "java/lang/IllegalArgumentException", lw_k2 190 rfl rfl, by decide +kernel⟩, fun z hz => absurd hz List.not_mem_nil⟩⟩, by decide, by decide, rfl, lw_k2 191 rfl rfl, by decide +kernel⟩
theorem ct_Lw_countAfter_4 : iCatch M_Lw_countAfter 7 26 "java/lang/ArithmeticException" := ⟨[(0, 11, 14, 21), (0, 11, 18, 13), (0, 11, 22, 15)], (0, 11, 26, 60), [], rfl, List.forall_mem_cons.mpr ⟨⟨by decide, "java/lang/IndexOutOfBoundsException", lw_k3 50 rfl rfl, by decide +kernel⟩, List.forall_mem_cons.mpr ⟨⟨by decide, "java/lang/IllegalArgumentException", lw_k2 190 rfl rfl, by decide +kernel⟩, List.forall_mem_cons.mpr ⟨⟨by decide, "java/lang/IllegalStateException", lw_k2 191 rfl rfl, by decide +kernel⟩, fun z hz => absurd hz List.not_mem_nil⟩⟩⟩, by decide, by decide, rfl, lw_k4 22 rfl rfl, by decide +kernel⟩
theorem CW_Lw_growthKind : Cond.codeWith M_Lw_growthKind.1 M_Lw_growthKind.2.1 M_Lw_growthKind.2.2.1 M_Lw_growthKind.2.2.2.1 M_Lw_growthKind.2.2.2.2 ∈ lw_good := lw_k4 75 rfl rfl
theorem ct_Lw_growthKind_1 : iCatch M_Lw_growthKind 4 12 "java/lang/IndexOutOfBoundsException" := ⟨[], (0, 9, 12, 21), [(0, 9, 15, 15)], rfl, fun z hz => absurd hz List.not_mem_nil, by decide, by decide, rfl, lw_k3 50 rfl rfl, by decide +kernel⟩
theorem ct_Lw_growthKind_2 : iCatch M_Lw_growthKind 4 15 "java/lang/IllegalStateException" := ⟨[(0, 9, 12, 21)], (0, 9, 15, 15), [], rfl, List.forall_mem_cons.mpr ⟨⟨by decide, "java/lang/IndexOutOfBoundsException", lw_k3 50 rfl rfl, by decide +kernel⟩, fun z hz => absurd hz List.not_mem_nil⟩, by decide, by decide, rfl, lw_k2 191 rfl rfl, by decide +kernel⟩
theorem CW_Lw_growthDegree : Cond.codeWith M_Lw_growthDegree.1 M_Lw_growthDegree.2.1 M_Lw_growthDegree.2.2.1 M_Lw_growthDegree.2.2.2.1 M_Lw_growthDegree.2.2.2.2 ∈ lw_good := lw_k4 113 rfl rfl
theorem ct_Lw_growthDegree_1 : iCatch M_Lw_growthDegree 4 12 "java/lang/IndexOutOfBoundsException" := ⟨[], (0, 9, 12, 21), [(0, 9, 15, 15), (0, 9, 18, 60)], rfl, fun z hz => absurd hz List.not_mem_nil, by decide, by decide, rfl, lw_k3 50 rfl rfl, by decide +kernel⟩
theorem ct_Lw_growthDegree_2 : iCatch M_Lw_growthDegree 4 15 "java/lang/IllegalStateException" := ⟨[(0, 9, 12, 21)], (0, 9, 15, 15), [(0, 9, 18, 60)], rfl, List.forall_mem_cons.mpr ⟨⟨by decide, "java/lang/IndexOutOfBoundsException", lw_k3 50 rfl rfl, by decide +kernel⟩, fun z hz => absurd hz List.not_mem_nil⟩, by decide, by decide, rfl, lw_k2 191 rfl rfl, by decide +kernel⟩
theorem ct_Lw_growthDegree_3 : iCatch M_Lw_growthDegree 4 18 "java/lang/ArithmeticException" := ⟨[(0, 9, 12, 21), (0, 9, 15, 15)], (0, 9, 18, 60), [], rfl, List.forall_mem_cons.mpr ⟨⟨by decide, "java/lang/IndexOutOfBoundsException", lw_k3 50 rfl rfl, by decide +kernel⟩, List.forall_mem_cons.mpr ⟨⟨by decide, "java/lang/IllegalStateException", lw_k2 191 rfl rfl, by decide +kernel⟩, fun z hz => absurd hz List.not_mem_nil⟩⟩, by decide, by decide, rfl, lw_k4 22 rfl rfl, by decide +kernel⟩
theorem CW_Lw_recurrenceOrder : Cond.codeWith M_Lw_recurrenceOrder.1 M_Lw_recurrenceOrder.2.1 M_Lw_recurrenceOrder.2.2.1 M_Lw_recurrenceOrder.2.2.2.1 M_Lw_recurrenceOrder.2.2.2.2 ∈ lw_good := lw_k4 122 rfl rfl
theorem ct_Lw_recurrenceOrder_1 : iCatch M_Lw_recurrenceOrder 4 12 "java/lang/IndexOutOfBoundsException" := ⟨[], (0, 9, 12, 21), [(0, 9, 15, 15)], rfl, fun z hz => absurd hz List.not_mem_nil, by decide, by decide, rfl, lw_k3 50 rfl rfl, by decide +kernel⟩
theorem ct_Lw_recurrenceOrder_2 : iCatch M_Lw_recurrenceOrder 4 15 "java/lang/IllegalStateException" := ⟨[(0, 9, 12, 21)], (0, 9, 15, 15), [], rfl, List.forall_mem_cons.mpr ⟨⟨by decide, "java/lang/IndexOutOfBoundsException", lw_k3 50 rfl rfl, by decide +kernel⟩, fun z hz => absurd hz List.not_mem_nil⟩, by decide, by decide, rfl, lw_k2 191 rfl rfl, by decide +kernel⟩
theorem CW_Lw_recurrenceCoefficient : Cond.codeWith M_Lw_recurrenceCoefficient.1 M_Lw_recurrenceCoefficient.2.1 M_Lw_recurrenceCoefficient.2.2.1 M_Lw_recurrenceCoefficient.2.2.2.1 M_Lw_recurrenceCoefficient.2.2.2.2 ∈ lw_good := lw_k4 156 rfl rfl
theorem ct_Lw_recurrenceCoefficient_1 : iCatch M_Lw_recurrenceCoefficient 5 13 "java/lang/IndexOutOfBoundsException" := ⟨[], (0, 10, 13, 21), [(0, 10, 17, 15), (0, 10, 21, 78)], rfl, fun z hz => absurd hz List.not_mem_nil, by decide, by decide, rfl, lw_k3 50 rfl rfl, by decide +kernel⟩
theorem ct_Lw_recurrenceCoefficient_2 : iCatch M_Lw_recurrenceCoefficient 5 17 "java/lang/IllegalStateException" := ⟨[(0, 10, 13, 21)], (0, 10, 17, 15), [(0, 10, 21, 78)], rfl, List.forall_mem_cons.mpr ⟨⟨by decide, "java/lang/IndexOutOfBoundsException", lw_k3 50 rfl rfl, by decide +kernel⟩, fun z hz => absurd hz List.not_mem_nil⟩, by decide, by decide, rfl, lw_k2 191 rfl rfl, by decide +kernel⟩
theorem ct_Lw_recurrenceCoefficient_3 : iCatch M_Lw_recurrenceCoefficient 5 21 "java/util/NoSuchElementException" := ⟨[(0, 10, 13, 21), (0, 10, 17, 15)], (0, 10, 21, 78), [], rfl, List.forall_mem_cons.mpr ⟨⟨by decide, "java/lang/IndexOutOfBoundsException", lw_k3 50 rfl rfl, by decide +kernel⟩, List.forall_mem_cons.mpr ⟨⟨by decide, "java/lang/IllegalStateException", lw_k2 191 rfl rfl, by decide +kernel⟩, fun z hz => absurd hz List.not_mem_nil⟩⟩, by decide, by decide, rfl, lw_k4 157 rfl rfl, by decide +kernel⟩
theorem CW_Lw_isAdult : Cond.codeWith M_Lw_isAdult.1 M_Lw_isAdult.2.1 M_Lw_isAdult.2.2.1 M_Lw_isAdult.2.2.2.1 M_Lw_isAdult.2.2.2.2 ∈ lw_good := lw_k4 184 rfl rfl
theorem ct_Lw_isAdult_1 : iCatch M_Lw_isAdult 4 19 "java/lang/IndexOutOfBoundsException" := ⟨[], (0, 16, 19, 21), [], rfl, fun z hz => absurd hz List.not_mem_nil, by decide, by decide, rfl, lw_k3 50 rfl rfl, by decide +kernel⟩
theorem CW_Lw_stepsToAdult : Cond.codeWith M_Lw_stepsToAdult.1 M_Lw_stepsToAdult.2.1 M_Lw_stepsToAdult.2.2.1 M_Lw_stepsToAdult.2.2.2.1 M_Lw_stepsToAdult.2.2.2.2 ∈ lw_good := lw_k4 209 rfl rfl
theorem ct_Lw_stepsToAdult_1 : iCatch M_Lw_stepsToAdult 5 13 "java/lang/IndexOutOfBoundsException" := ⟨[], (0, 10, 13, 21), [(0, 10, 17, 13), (0, 10, 21, 15), (0, 10, 25, 78)], rfl, fun z hz => absurd hz List.not_mem_nil, by decide, by decide, rfl, lw_k3 50 rfl rfl, by decide +kernel⟩
theorem ct_Lw_stepsToAdult_2 : iCatch M_Lw_stepsToAdult 5 17 "java/lang/IllegalArgumentException" := ⟨[(0, 10, 13, 21)], (0, 10, 17, 13), [(0, 10, 21, 15), (0, 10, 25, 78)], rfl, List.forall_mem_cons.mpr ⟨⟨by decide, "java/lang/IndexOutOfBoundsException", lw_k3 50 rfl rfl, by decide +kernel⟩, fun z hz => absurd hz List.not_mem_nil⟩, by decide, by decide, rfl, lw_k2 190 rfl rfl, by decide +kernel⟩
theorem ct_Lw_stepsToAdult_3 : iCatch M_Lw_stepsToAdult 5 21 "java/lang/IllegalStateException" := ⟨[(0, 10, 13, 21), (0, 10, 17, 13)], (0, 10, 21, 15), [(0, 10, 25, 78)], rfl, List.forall_mem_cons.mpr ⟨⟨by decide, "java/lang/IndexOutOfBoundsException", lw_k3 50 rfl rfl, by decide +kernel⟩, List.forall_mem_cons.mpr ⟨⟨by decide, "java/lang/IllegalArgumentException", lw_k2 190 rfl rfl, by decide +kernel⟩, fun z hz => absurd hz List.not_mem_nil⟩⟩, by decide, by decide, rfl, lw_k2 191 rfl rfl, by decide +kernel⟩
theorem ct_Lw_stepsToAdult_4 : iCatch M_Lw_stepsToAdult 5 25 "java/util/NoSuchElementException" := ⟨[(0, 10, 13, 21), (0, 10, 17, 13), (0, 10, 21, 15)], (0, 10, 25, 78), [], rfl, List.forall_mem_cons.mpr ⟨⟨by decide, "java/lang/IndexOutOfBoundsException", lw_k3 50 rfl rfl, by decide +kernel⟩, List.forall_mem_cons.mpr ⟨⟨by decide, "java/lang/IllegalArgumentException", lw_k2 190 rfl rfl, by decide +kernel⟩, List.forall_mem_cons.mpr ⟨⟨by decide, "java/lang/IllegalStateException", lw_k2 191 rfl rfl, by decide +kernel⟩, fun z hz => absurd hz List.not_mem_nil⟩⟩⟩, by decide, by decide, rfl, lw_k4 157 rfl rfl, by decide +kernel⟩
theorem CW_Lw_adultWords : Cond.codeWith M_Lw_adultWords.1 M_Lw_adultWords.2.1 M_Lw_adultWords.2.2.1 M_Lw_adultWords.2.2.2.1 M_Lw_adultWords.2.2.2.2 ∈ lw_good := lw_k4 224 rfl rfl
theorem ct_Lw_adultWords_1 : iCatch M_Lw_adultWords 5 13 "java/lang/IndexOutOfBoundsException" := ⟨[], (0, 10, 13, 21), [(0, 10, 17, 13)], rfl, fun z hz => absurd hz List.not_mem_nil, by decide, by decide, rfl, lw_k3 50 rfl rfl, by decide +kernel⟩
theorem ct_Lw_adultWords_2 : iCatch M_Lw_adultWords 5 17 "java/lang/IllegalArgumentException" := ⟨[(0, 10, 13, 21)], (0, 10, 17, 13), [], rfl, List.forall_mem_cons.mpr ⟨⟨by decide, "java/lang/IndexOutOfBoundsException", lw_k3 50 rfl rfl, by decide +kernel⟩, fun z hz => absurd hz List.not_mem_nil⟩, by decide, by decide, rfl, lw_k2 190 rfl rfl, by decide +kernel⟩
theorem CW_Lw_ways : Cond.codeWith M_Lw_ways.1 M_Lw_ways.2.1 M_Lw_ways.2.2.1 M_Lw_ways.2.2.2.1 M_Lw_ways.2.2.2.2 ∈ lw_good := lw_k5 2 rfl rfl
theorem ct_Lw_ways_1 : iCatch M_Lw_ways 4 11 "java/lang/IndexOutOfBoundsException" := ⟨[], (0, 8, 11, 21), [(0, 8, 14, 60)], rfl, fun z hz => absurd hz List.not_mem_nil, by decide, by decide, rfl, lw_k3 50 rfl rfl, by decide +kernel⟩
theorem ct_Lw_ways_2 : iCatch M_Lw_ways 4 14 "java/lang/ArithmeticException" := ⟨[(0, 8, 11, 21)], (0, 8, 14, 60), [], rfl, List.forall_mem_cons.mpr ⟨⟨by decide, "java/lang/IndexOutOfBoundsException", lw_k3 50 rfl rfl, by decide +kernel⟩, fun z hz => absurd hz List.not_mem_nil⟩, by decide, by decide, rfl, lw_k4 22 rfl rfl, by decide +kernel⟩
theorem CW_Lw_sequenceCount : Cond.codeWith M_Lw_sequenceCount.1 M_Lw_sequenceCount.2.1 M_Lw_sequenceCount.2.2.1 M_Lw_sequenceCount.2.2.2.1 M_Lw_sequenceCount.2.2.2.2 ∈ lw_good := lw_k5 35 rfl rfl
theorem ct_Lw_sequenceCount_1 : iCatch M_Lw_sequenceCount 4 12 "java/lang/IllegalArgumentException" := ⟨[], (0, 9, 12, 13), [(0, 9, 15, 15)], rfl, fun z hz => absurd hz List.not_mem_nil, by decide, by decide, rfl, lw_k2 190 rfl rfl, by decide +kernel⟩
theorem ct_Lw_sequenceCount_2 : iCatch M_Lw_sequenceCount 4 15 "java/lang/IllegalStateException" := ⟨[(0, 9, 12, 13)], (0, 9, 15, 15), [], rfl, List.forall_mem_cons.mpr ⟨⟨by decide, "java/lang/IllegalArgumentException", lw_k2 190 rfl rfl, by decide +kernel⟩, fun z hz => absurd hz List.not_mem_nil⟩, by decide, by decide, rfl, lw_k2 191 rfl rfl, by decide +kernel⟩
theorem CW_Lw_firstSequence : Cond.codeWith M_Lw_firstSequence.1 M_Lw_firstSequence.2.1 M_Lw_firstSequence.2.2.1 M_Lw_firstSequence.2.2.2.1 M_Lw_firstSequence.2.2.2.2 ∈ lw_good := lw_k5 60 rfl rfl
theorem ct_Lw_firstSequence_1 : iCatch M_Lw_firstSequence 4 12 "java/lang/IllegalArgumentException" := ⟨[], (0, 9, 12, 13), [(0, 9, 15, 15), (0, 9, 18, 78)], rfl, fun z hz => absurd hz List.not_mem_nil, by decide, by decide, rfl, lw_k2 190 rfl rfl, by decide +kernel⟩
theorem ct_Lw_firstSequence_2 : iCatch M_Lw_firstSequence 4 15 "java/lang/IllegalStateException" := ⟨[(0, 9, 12, 13)], (0, 9, 15, 15), [(0, 9, 18, 78)], rfl, List.forall_mem_cons.mpr ⟨⟨by decide, "java/lang/IllegalArgumentException", lw_k2 190 rfl rfl, by decide +kernel⟩, fun z hz => absurd hz List.not_mem_nil⟩, by decide, by decide, rfl, lw_k2 191 rfl rfl, by decide +kernel⟩
theorem ct_Lw_firstSequence_3 : iCatch M_Lw_firstSequence 4 18 "java/util/NoSuchElementException" := ⟨[(0, 9, 12, 13), (0, 9, 15, 15)], (0, 9, 18, 78), [], rfl, List.forall_mem_cons.mpr ⟨⟨by decide, "java/lang/IllegalArgumentException", lw_k2 190 rfl rfl, by decide +kernel⟩, List.forall_mem_cons.mpr ⟨⟨by decide, "java/lang/IllegalStateException", lw_k2 191 rfl rfl, by decide +kernel⟩, fun z hz => absurd hz List.not_mem_nil⟩⟩, by decide, by decide, rfl, lw_k4 157 rfl rfl, by decide +kernel⟩
theorem CW_Lw_setCommand : Cond.codeWith M_Lw_setCommand.1 M_Lw_setCommand.2.1 M_Lw_setCommand.2.2.1 M_Lw_setCommand.2.2.2.1 M_Lw_setCommand.2.2.2.2 ∈ lw_good := lw_k5 68 rfl rfl
theorem ct_Lw_setCommand_1 : iCatch M_Lw_setCommand 2 8 "java/lang/IndexOutOfBoundsException" := ⟨[], (0, 5, 8, 21), [(0, 5, 11, 13)], rfl, fun z hz => absurd hz List.not_mem_nil, by decide, by decide, rfl, lw_k3 50 rfl rfl, by decide +kernel⟩
theorem ct_Lw_setCommand_2 : iCatch M_Lw_setCommand 2 11 "java/lang/IllegalArgumentException" := ⟨[(0, 5, 8, 21)], (0, 5, 11, 13), [], rfl, List.forall_mem_cons.mpr ⟨⟨by decide, "java/lang/IndexOutOfBoundsException", lw_k3 50 rfl rfl, by decide +kernel⟩, fun z hz => absurd hz List.not_mem_nil⟩, by decide, by decide, rfl, lw_k2 190 rfl rfl, by decide +kernel⟩
theorem CW_Lw_segmentCount : Cond.codeWith M_Lw_segmentCount.1 M_Lw_segmentCount.2.1 M_Lw_segmentCount.2.2.1 M_Lw_segmentCount.2.2.2.1 M_Lw_segmentCount.2.2.2.2 ∈ lw_good := lw_k5 142 rfl rfl
theorem ct_Lw_segmentCount_1 : iCatch M_Lw_segmentCount 3 11 "java/lang/IllegalStateException" := ⟨[], (0, 8, 11, 15), [], rfl, fun z hz => absurd hz List.not_mem_nil, by decide, by decide, rfl, lw_k2 191 rfl rfl, by decide +kernel⟩
theorem CW_Lw_inkLength : Cond.codeWith M_Lw_inkLength.1 M_Lw_inkLength.2.1 M_Lw_inkLength.2.2.1 M_Lw_inkLength.2.2.2.1 M_Lw_inkLength.2.2.2.2 ∈ lw_good := lw_k5 196 rfl rfl
theorem ct_Lw_inkLength_1 : iCatch M_Lw_inkLength 3 10 "java/lang/IllegalStateException" := ⟨[], (0, 7, 10, 15), [], rfl, fun z hz => absurd hz List.not_mem_nil, by decide, by decide, rfl, lw_k2 191 rfl rfl, by decide +kernel⟩
theorem CW_Lw_extent : Cond.codeWith M_Lw_extent.1 M_Lw_extent.2.1 M_Lw_extent.2.2.1 M_Lw_extent.2.2.2.1 M_Lw_extent.2.2.2.2 ∈ lw_good := lw_k5 203 rfl rfl
theorem ct_Lw_extent_1 : iCatch M_Lw_extent 4 11 "java/lang/IllegalArgumentException" := ⟨[], (0, 8, 11, 13), [(0, 8, 14, 15)], rfl, fun z hz => absurd hz List.not_mem_nil, by decide, by decide, rfl, lw_k2 190 rfl rfl, by decide +kernel⟩
theorem ct_Lw_extent_2 : iCatch M_Lw_extent 4 14 "java/lang/IllegalStateException" := ⟨[(0, 8, 11, 13)], (0, 8, 14, 15), [], rfl, List.forall_mem_cons.mpr ⟨⟨by decide, "java/lang/IllegalArgumentException", lw_k2 190 rfl rfl, by decide +kernel⟩, fun z hz => absurd hz List.not_mem_nil⟩, by decide, by decide, rfl, lw_k2 191 rfl rfl, by decide +kernel⟩
theorem CW_Lw_openDepth : Cond.codeWith M_Lw_openDepth.1 M_Lw_openDepth.2.1 M_Lw_openDepth.2.2.1 M_Lw_openDepth.2.2.2.1 M_Lw_openDepth.2.2.2.2 ∈ lw_good := lw_k5 219 rfl rfl
theorem ct_Lw_openDepth_1 : iCatch M_Lw_openDepth 3 11 "java/lang/IllegalStateException" := ⟨[], (0, 8, 11, 15), [], rfl, fun z hz => absurd hz List.not_mem_nil, by decide, by decide, rfl, lw_k2 191 rfl rfl, by decide +kernel⟩
theorem CW_Lw_keepPoints : Cond.codeWith M_Lw_keepPoints.1 M_Lw_keepPoints.2.1 M_Lw_keepPoints.2.2.1 M_Lw_keepPoints.2.2.2.1 M_Lw_keepPoints.2.2.2.2 ∈ lw_good := lw_k5 226 rfl rfl
theorem ct_Lw_keepPoints_1 : iCatch M_Lw_keepPoints 5 13 "java/lang/IndexOutOfBoundsException" := ⟨[], (0, 10, 13, 21), [(0, 10, 17, 15)], rfl, fun z hz => absurd hz List.not_mem_nil, by decide, by decide, rfl, lw_k3 50 rfl rfl, by decide +kernel⟩
theorem ct_Lw_keepPoints_2 : iCatch M_Lw_keepPoints 5 17 "java/lang/IllegalStateException" := ⟨[(0, 10, 13, 21)], (0, 10, 17, 15), [], rfl, List.forall_mem_cons.mpr ⟨⟨by decide, "java/lang/IndexOutOfBoundsException", lw_k3 50 rfl rfl, by decide +kernel⟩, fun z hz => absurd hz List.not_mem_nil⟩, by decide, by decide, rfl, lw_k2 191 rfl rfl, by decide +kernel⟩
theorem CW_Lw_remainder : Cond.codeWith M_Lw_remainder.1 M_Lw_remainder.2.1 M_Lw_remainder.2.2.1 M_Lw_remainder.2.2.2.1 M_Lw_remainder.2.2.2.2 ∈ lw_good := lw_k5 237 rfl rfl
theorem ct_Lw_remainder_1 : iCatch M_Lw_remainder 7 14 "java/lang/IllegalArgumentException" := ⟨[], (0, 11, 14, 13), [(0, 11, 18, 15), (0, 11, 22, 21), (0, 11, 26, 60)], rfl, fun z hz => absurd hz List.not_mem_nil, by decide, by decide, rfl, lw_k2 190 rfl rfl, by decide +kernel⟩
theorem ct_Lw_remainder_2 : iCatch M_Lw_remainder 7 18 "java/lang/IllegalStateException" := ⟨[(0, 11, 14, 13)], (0, 11, 18, 15), [(0, 11, 22, 21), (0, 11, 26, 60)], rfl, List.forall_mem_cons.mpr ⟨⟨by decide, "java/lang/IllegalArgumentException", lw_k2 190 rfl rfl, by decide +kernel⟩, fun z hz => absurd hz List.not_mem_nil⟩, by decide, by decide, rfl, lw_k2 191 rfl rfl, by decide +kernel⟩
theorem ct_Lw_remainder_3 : iCatch M_Lw_remainder 7 22 "java/lang/IndexOutOfBoundsException" := ⟨[(0, 11, 14, 13), (0, 11, 18, 15)], (0, 11, 22, 21), [(0, 11, 26, 60)], rfl, List.forall_mem_cons.mpr ⟨⟨by decide, "java/lang/IllegalArgumentException", lw_k2 190 rfl rfl, by decide +kernel⟩, List.forall_mem_cons.mpr ⟨⟨by decide, "java/lang/IllegalStateException", lw_k2 191 rfl rfl, by decide +kernel⟩, fun z hz => absurd hz List.not_mem_nil⟩⟩, by decide, by decide, rfl, lw_k3 50 rfl rfl, by decide +kernel⟩
theorem ct_Lw_remainder_4 : iCatch M_Lw_remainder 7 26 "java/lang/ArithmeticException" := ⟨[(0, 11, 14, 13), (0, 11, 18, 15), (0, 11, 22, 21)], (0, 11, 26, 60), [], rfl, List.forall_mem_cons.mpr ⟨⟨by decide, "java/lang/IllegalArgumentException", lw_k2 190 rfl rfl, by decide +kernel⟩, List.forall_mem_cons.mpr ⟨⟨by decide, "java/lang/IllegalStateException", lw_k2 191 rfl rfl, by decide +kernel⟩, List.forall_mem_cons.mpr ⟨⟨by decide, "java/lang/IndexOutOfBoundsException", lw_k3 50 rfl rfl, by decide +kernel⟩, fun z hz => absurd hz List.not_mem_nil⟩⟩⟩, by decide, by decide, rfl, lw_k4 22 rfl rfl, by decide +kernel⟩
theorem CW_Lw_restore : Cond.codeWith M_Lw_restore.1 M_Lw_restore.2.1 M_Lw_restore.2.2.1 M_Lw_restore.2.2.2.1 M_Lw_restore.2.2.2.2 ∈ lw_good := lw_k6 14 rfl rfl
theorem ct_Lw_restore_1 : iCatch M_Lw_restore 1 7 "java/lang/IllegalStateException" := ⟨[], (0, 4, 7, 15), [], rfl, fun z hz => absurd hz List.not_mem_nil, by decide, by decide, rfl, lw_k2 191 rfl rfl, by decide +kernel⟩
theorem i_Lw_law_0 : iNew M_Lw_law 0 13 [.null, .null, .null, .null, .null, .null, .null, .null, .null, .null, .null, .null, .null, .int 0] := ⟨8, (by decide +kernel : decode code 0 = .ok (.new 8, 3)), RX11, TX11, 14, tyX11, rfl, uw_Pr, tyX11_ok, lw_k1 32 rfl rfl, lw_k1 33 rfl rfl, lw_k1 1 rfl rfl, by decide +kernel, rfl⟩
theorem i_Lw_law_3 : iIns M_Lw_law 3 .dup 1 := (by decide +kernel : decode code 3 = .ok (.dup, 1))
theorem i_Lw_law_4 : iCallI M_Lw_law 4 M_Pr_init 0 := ⟨⟨128, (by decide +kernel : decode code 4 = .ok (.invokespecial 128, 3)), lw_k1 34 rfl rfl⟩, im_Pr_init, me_Pr_init, pn_Pr_init⟩
theorem i_Lw_law_7 : iIns M_Lw_law 7 (.astore_n 1) 1 := (by decide +kernel : decode code 7 = .ok (.astore_n 1, 1))
theorem i_Lw_law_8 : iNew M_Lw_law 8 14 [.int 0, .null, .null, .null, .null, .null, .int 0, .null, .int 0, .int 0, .null, .null, .null, .null, .int 0, .null, .null, .null, .null, .null, .null, .null, .null, .null, .null, .null, .null, .null, .null, .int 0, .null, .int 0, .null, .null, .null] := ⟨129, (by decide +kernel : decode code 8 = .ok (.new 129, 3)), RX12, TX12, 35, tyX12, rfl, uw_Md, tyX12_ok, lw_k6 20 rfl rfl, lw_k6 21 rfl rfl, lw_k1 14 rfl rfl, by decide +kernel, rfl⟩
theorem i_Lw_law_11 : iIns M_Lw_law 11 .dup 1 := (by decide +kernel : decode code 11 = .ok (.dup, 1))
theorem i_Lw_law_12 : iCallI M_Lw_law 12 M_Md_init 0 := ⟨⟨131, (by decide +kernel : decode code 12 = .ok (.invokespecial 131, 3)), lw_k6 22 rfl rfl⟩, im_Md_init, me_Md_init, pn_Md_init⟩
theorem i_Lw_law_15 : iIns M_Lw_law 15 (.astore_n 2) 1 := (by decide +kernel : decode code 15 = .ok (.astore_n 2, 1))
theorem i_Lw_law_16 : iIns M_Lw_law 16 (.iconst 1) 1 := (by decide +kernel : decode code 16 = .ok (.iconst 1, 1))
theorem i_Lw_law_17 : iNewA M_Lw_law 17 .long := ⟨(by decide +kernel : decode code 17 = .ok (.newarray .long, 2)), lw_k1 189 rfl rfl⟩
theorem i_Lw_law_19 : iIns M_Lw_law 19 (.astore_n 3) 1 := (by decide +kernel : decode code 19 = .ok (.astore_n 3, 1))
theorem i_Lw_law_20 : iIns M_Lw_law 20 (.iconst 1) 1 := (by decide +kernel : decode code 20 = .ok (.iconst 1, 1))
theorem i_Lw_law_21 : iNewA M_Lw_law 21 .double := ⟨(by decide +kernel : decode code 21 = .ok (.newarray .double, 2)), lw_k2 88 rfl rfl⟩
theorem i_Lw_law_23 : iIns M_Lw_law 23 (.astore 4) 2 := (by decide +kernel : decode code 23 = .ok (.astore 4, 2))
theorem i_Lw_law_25 : iIns M_Lw_law 25 (.iconst 0) 1 := (by decide +kernel : decode code 25 = .ok (.iconst 0, 1))
theorem i_Lw_law_26 : iIns M_Lw_law 26 (.istore 5) 2 := (by decide +kernel : decode code 26 = .ok (.istore 5, 2))
theorem i_Lw_law_28 : iIns M_Lw_law 28 (.iload 5) 2 := (by decide +kernel : decode code 28 = .ok (.iload 5, 2))
theorem i_Lw_law_30 : iIns M_Lw_law 30 (.aload_n 0) 1 := (by decide +kernel : decode code 30 = .ok (.aload_n 0, 1))
theorem i_Lw_law_31 : iIns M_Lw_law 31 .arraylength 1 := (by decide +kernel : decode code 31 = .ok (.arraylength, 1))
theorem i_Lw_law_32 : iIns M_Lw_law 32 (.iconst 4) 1 := (by decide +kernel : decode code 32 = .ok (.iconst 4, 1))
theorem i_Lw_law_33 : iIns M_Lw_law 33 .isub 1 := (by decide +kernel : decode code 33 = .ok (.isub, 1))
theorem i_Lw_law_34 : iIcmp M_Lw_law 34 .gt 2272 := ⟨2238, (by decide +kernel : decode code 34 = .ok (.if_icmp .gt (2238), 3)), by decide⟩
theorem i_Lw_law_37 : iIns M_Lw_law 37 (.aload_n 0) 1 := (by decide +kernel : decode code 37 = .ok (.aload_n 0, 1))
theorem i_Lw_law_38 : iIns M_Lw_law 38 (.iload 5) 2 := (by decide +kernel : decode code 38 = .ok (.iload 5, 2))
theorem i_Lw_law_40 : iIns M_Lw_law 40 .iaload 1 := (by decide +kernel : decode code 40 = .ok (.iaload, 1))
theorem i_Lw_law_41 : iIns M_Lw_law 41 (.bipush 63) 2 := (by decide +kernel : decode code 41 = .ok (.bipush 63, 2))
theorem i_Lw_law_43 : iIns M_Lw_law 43 .iand 1 := (by decide +kernel : decode code 43 = .ok (.iand, 1))
theorem i_Lw_law_44 : decode code 44 = .ok (.tableswitch (2222) (0) (36) #[164, 220, 233, 301, 369, 437, 524, 611, 674, 737, 781, 825, 838, 894, 907, 975, 988, 1055, 1134, 1190, 1246, 1302, 1370, 1433, 1501, 1569, 1624, 1680, 1736, 1772, 1816, 1881, 1958, 2002, 2086, 2187, 2198], 164) := by decide +kernel
theorem i_Lw_law_208 : iIns M_Lw_law 208 (.aload_n 1) 1 := (by decide +kernel : decode code 208 = .ok (.aload_n 1, 1))
theorem i_Lw_law_209 : iIns M_Lw_law 209 (.aload_n 0) 1 := (by decide +kernel : decode code 209 = .ok (.aload_n 0, 1))
theorem i_Lw_law_210 : iIns M_Lw_law 210 (.iload 5) 2 := (by decide +kernel : decode code 210 = .ok (.iload 5, 2))
theorem i_Lw_law_212 : iIns M_Lw_law 212 (.iconst 1) 1 := (by decide +kernel : decode code 212 = .ok (.iconst 1, 1))
theorem i_Lw_law_213 : iIns M_Lw_law 213 .iadd 1 := (by decide +kernel : decode code 213 = .ok (.iadd, 1))
theorem i_Lw_law_214 : iIns M_Lw_law 214 .iaload 1 := (by decide +kernel : decode code 214 = .ok (.iaload, 1))
theorem i_Lw_law_215 : iIns M_Lw_law 215 (.aload_n 3) 1 := (by decide +kernel : decode code 215 = .ok (.aload_n 3, 1))
theorem i_Lw_law_216 : iCallSH M_Lw_law 216 M_Lw_appendCharacter 3 := ⟨⟨132, (by decide +kernel : decode code 216 = .ok (.invokestatic 132, 3)), lw_k2 187 rfl rfl⟩, sm_Lw_appendCharacter, me_Lw_appendCharacter, by decide, CW_Lw_appendCharacter⟩
theorem i_Lw_law_219 : iIns M_Lw_law 219 (.istore 6) 2 := (by decide +kernel : decode code 219 = .ok (.istore 6, 2))
theorem i_Lw_law_221 : iIns M_Lw_law 221 (.aload_n 2) 1 := (by decide +kernel : decode code 221 = .ok (.aload_n 2, 1))
theorem i_Lw_law_222 : iIns M_Lw_law 222 (.aload_n 0) 1 := (by decide +kernel : decode code 222 = .ok (.aload_n 0, 1))
theorem i_Lw_law_223 : iIns M_Lw_law 223 (.iload 5) 2 := (by decide +kernel : decode code 223 = .ok (.iload 5, 2))
theorem i_Lw_law_225 : iIns M_Lw_law 225 (.iconst 1) 1 := (by decide +kernel : decode code 225 = .ok (.iconst 1, 1))
theorem i_Lw_law_226 : iIns M_Lw_law 226 .iadd 1 := (by decide +kernel : decode code 226 = .ok (.iadd, 1))
theorem i_Lw_law_227 : iIns M_Lw_law 227 .iaload 1 := (by decide +kernel : decode code 227 = .ok (.iaload, 1))
theorem i_Lw_law_228 : iCallV M_Lw_law 228 M_Md_appendCharacter 1 14 := ⟨⟨137, (by decide +kernel : decode code 228 = .ok (.invokevirtual 137, 3)), lw_k6 137 rfl rfl⟩, vm_Md_appendCharacter, me_Md_appendCharacter, pn_Md_appendCharacter⟩
theorem i_Lw_law_231 : iIns M_Lw_law 231 (.istore 7) 2 := (by decide +kernel : decode code 231 = .ok (.istore 7, 2))
theorem i_Lw_law_233 : iIns M_Lw_law 233 (.aload_n 2) 1 := (by decide +kernel : decode code 233 = .ok (.aload_n 2, 1))
theorem i_Lw_law_234 : iCallV M_Lw_law 234 M_Md_thrown 0 14 := ⟨⟨138, (by decide +kernel : decode code 234 = .ok (.invokevirtual 138, 3)), lw_k6 133 rfl rfl⟩, vm_Md_thrown, me_Md_thrown, pn_Md_thrown⟩
theorem i_Lw_law_237 : iIns M_Lw_law 237 (.iload 6) 2 := (by decide +kernel : decode code 237 = .ok (.iload 6, 2))
theorem i_Lw_law_239 : iIcmp M_Lw_law 239 .eq 244 := ⟨5, (by decide +kernel : decode code 239 = .ok (.if_icmp .eq (5), 3)), by decide⟩
theorem i_Lw_law_242 : iIns M_Lw_law 242 (.iconst 0) 1 := (by decide +kernel : decode code 242 = .ok (.iconst 0, 1))
theorem i_Lw_law_243 : iIns M_Lw_law 243 .ireturn 1 := (by decide +kernel : decode code 243 = .ok (.ireturn, 1))
theorem i_Lw_law_244 : iIns M_Lw_law 244 (.iload 6) 2 := (by decide +kernel : decode code 244 = .ok (.iload 6, 2))
theorem i_Lw_law_246 : iIf M_Lw_law 246 .ne 261 := ⟨15, (by decide +kernel : decode code 246 = .ok (.ifCond .ne (15), 3)), by decide⟩
theorem i_Lw_law_249 : iIns M_Lw_law 249 (.aload_n 3) 1 := (by decide +kernel : decode code 249 = .ok (.aload_n 3, 1))
theorem i_Lw_law_250 : iIns M_Lw_law 250 (.iconst 0) 1 := (by decide +kernel : decode code 250 = .ok (.iconst 0, 1))
theorem i_Lw_law_251 : iIns M_Lw_law 251 .laload 1 := (by decide +kernel : decode code 251 = .ok (.laload, 1))
theorem i_Lw_law_252 : iIns M_Lw_law 252 (.iload 7) 2 := (by decide +kernel : decode code 252 = .ok (.iload 7, 2))
theorem i_Lw_law_254 : iIns M_Lw_law 254 .i2l 1 := (by decide +kernel : decode code 254 = .ok (.i2l, 1))
theorem i_Lw_law_255 : iIns M_Lw_law 255 .lcmp 1 := (by decide +kernel : decode code 255 = .ok (.lcmp, 1))
theorem i_Lw_law_256 : iIf M_Lw_law 256 .eq 261 := ⟨5, (by decide +kernel : decode code 256 = .ok (.ifCond .eq (5), 3)), by decide⟩
theorem i_Lw_law_259 : iIns M_Lw_law 259 (.iconst 0) 1 := (by decide +kernel : decode code 259 = .ok (.iconst 0, 1))
theorem i_Lw_law_260 : iIns M_Lw_law 260 .ireturn 1 := (by decide +kernel : decode code 260 = .ok (.ireturn, 1))
theorem i_Lw_law_261 : iGoto M_Lw_law 261 2266 := ⟨2005, (by decide +kernel : decode code 261 = .ok (.goto (2005), 3)), by decide⟩
theorem i_Lw_law_264 : iIns M_Lw_law 264 (.aload_n 1) 1 := (by decide +kernel : decode code 264 = .ok (.aload_n 1, 1))
theorem i_Lw_law_265 : iCallV M_Lw_law 265 M_Pr_clearText 0 13 := ⟨⟨141, (by decide +kernel : decode code 265 = .ok (.invokevirtual 141, 3)), lw_k2 134 rfl rfl⟩, vm_Pr_clearText, me_Pr_clearText, pn_Pr_clearText⟩
theorem i_Lw_law_268 : iIns M_Lw_law 268 (.aload_n 2) 1 := (by decide +kernel : decode code 268 = .ok (.aload_n 2, 1))
theorem i_Lw_law_269 : iCallV M_Lw_law 269 M_Md_clearText 0 14 := ⟨⟨144, (by decide +kernel : decode code 269 = .ok (.invokevirtual 144, 3)), lw_k6 148 rfl rfl⟩, vm_Md_clearText, me_Md_clearText, pn_Md_clearText⟩
theorem i_Lw_law_272 : iIcmp M_Lw_law 272 .eq 2266 := ⟨1994, (by decide +kernel : decode code 272 = .ok (.if_icmp .eq (1994), 3)), by decide⟩
theorem i_Lw_law_275 : iIns M_Lw_law 275 (.iconst 0) 1 := (by decide +kernel : decode code 275 = .ok (.iconst 0, 1))
theorem i_Lw_law_276 : iIns M_Lw_law 276 .ireturn 1 := (by decide +kernel : decode code 276 = .ok (.ireturn, 1))
theorem i_Lw_law_277 : iIns M_Lw_law 277 (.aload_n 1) 1 := (by decide +kernel : decode code 277 = .ok (.aload_n 1, 1))
theorem i_Lw_law_278 : iIns M_Lw_law 278 (.aload_n 0) 1 := (by decide +kernel : decode code 278 = .ok (.aload_n 0, 1))
theorem i_Lw_law_279 : iIns M_Lw_law 279 (.iload 5) 2 := (by decide +kernel : decode code 279 = .ok (.iload 5, 2))
theorem i_Lw_law_281 : iIns M_Lw_law 281 (.iconst 1) 1 := (by decide +kernel : decode code 281 = .ok (.iconst 1, 1))
theorem i_Lw_law_282 : iIns M_Lw_law 282 .iadd 1 := (by decide +kernel : decode code 282 = .ok (.iadd, 1))
theorem i_Lw_law_283 : iIns M_Lw_law 283 .iaload 1 := (by decide +kernel : decode code 283 = .ok (.iaload, 1))
theorem i_Lw_law_284 : iIns M_Lw_law 284 (.aload_n 0) 1 := (by decide +kernel : decode code 284 = .ok (.aload_n 0, 1))
theorem i_Lw_law_285 : iIns M_Lw_law 285 (.iload 5) 2 := (by decide +kernel : decode code 285 = .ok (.iload 5, 2))
theorem i_Lw_law_287 : iIns M_Lw_law 287 (.iconst 2) 1 := (by decide +kernel : decode code 287 = .ok (.iconst 2, 1))
theorem i_Lw_law_288 : iIns M_Lw_law 288 .iadd 1 := (by decide +kernel : decode code 288 = .ok (.iadd, 1))
theorem i_Lw_law_289 : iIns M_Lw_law 289 .iaload 1 := (by decide +kernel : decode code 289 = .ok (.iaload, 1))
theorem i_Lw_law_290 : iIns M_Lw_law 290 (.aload_n 3) 1 := (by decide +kernel : decode code 290 = .ok (.aload_n 3, 1))
theorem i_Lw_law_291 : iCallSH M_Lw_law 291 M_Lw_setProduction 4 := ⟨⟨145, (by decide +kernel : decode code 291 = .ok (.invokestatic 145, 3)), lw_k3 47 rfl rfl⟩, sm_Lw_setProduction, me_Lw_setProduction, by decide, CW_Lw_setProduction⟩
theorem i_Lw_law_294 : iIns M_Lw_law 294 (.istore 6) 2 := (by decide +kernel : decode code 294 = .ok (.istore 6, 2))
theorem i_Lw_law_296 : iIns M_Lw_law 296 (.aload_n 2) 1 := (by decide +kernel : decode code 296 = .ok (.aload_n 2, 1))
theorem i_Lw_law_297 : iIns M_Lw_law 297 (.aload_n 0) 1 := (by decide +kernel : decode code 297 = .ok (.aload_n 0, 1))
theorem i_Lw_law_298 : iIns M_Lw_law 298 (.iload 5) 2 := (by decide +kernel : decode code 298 = .ok (.iload 5, 2))
theorem i_Lw_law_300 : iIns M_Lw_law 300 (.iconst 1) 1 := (by decide +kernel : decode code 300 = .ok (.iconst 1, 1))
theorem i_Lw_law_301 : iIns M_Lw_law 301 .iadd 1 := (by decide +kernel : decode code 301 = .ok (.iadd, 1))
theorem i_Lw_law_302 : iIns M_Lw_law 302 .iaload 1 := (by decide +kernel : decode code 302 = .ok (.iaload, 1))
theorem i_Lw_law_303 : iIns M_Lw_law 303 (.aload_n 0) 1 := (by decide +kernel : decode code 303 = .ok (.aload_n 0, 1))
theorem i_Lw_law_304 : iIns M_Lw_law 304 (.iload 5) 2 := (by decide +kernel : decode code 304 = .ok (.iload 5, 2))
theorem i_Lw_law_306 : iIns M_Lw_law 306 (.iconst 2) 1 := (by decide +kernel : decode code 306 = .ok (.iconst 2, 1))
theorem i_Lw_law_307 : iIns M_Lw_law 307 .iadd 1 := (by decide +kernel : decode code 307 = .ok (.iadd, 1))
theorem i_Lw_law_308 : iIns M_Lw_law 308 .iaload 1 := (by decide +kernel : decode code 308 = .ok (.iaload, 1))
theorem i_Lw_law_309 : iCallV M_Lw_law 309 M_Md_setProduction 2 14 := ⟨⟨148, (by decide +kernel : decode code 309 = .ok (.invokevirtual 148, 3)), lw_k6 152 rfl rfl⟩, vm_Md_setProduction, me_Md_setProduction, pn_Md_setProduction⟩
theorem i_Lw_law_312 : iIns M_Lw_law 312 (.istore 7) 2 := (by decide +kernel : decode code 312 = .ok (.istore 7, 2))
theorem i_Lw_law_314 : iIns M_Lw_law 314 (.aload_n 2) 1 := (by decide +kernel : decode code 314 = .ok (.aload_n 2, 1))
theorem i_Lw_law_315 : iCallV M_Lw_law 315 M_Md_thrown 0 14 := ⟨⟨138, (by decide +kernel : decode code 315 = .ok (.invokevirtual 138, 3)), lw_k6 133 rfl rfl⟩, vm_Md_thrown, me_Md_thrown, pn_Md_thrown⟩
theorem i_Lw_law_318 : iIns M_Lw_law 318 (.iload 6) 2 := (by decide +kernel : decode code 318 = .ok (.iload 6, 2))
theorem i_Lw_law_320 : iIcmp M_Lw_law 320 .eq 325 := ⟨5, (by decide +kernel : decode code 320 = .ok (.if_icmp .eq (5), 3)), by decide⟩
theorem i_Lw_law_323 : iIns M_Lw_law 323 (.iconst 0) 1 := (by decide +kernel : decode code 323 = .ok (.iconst 0, 1))
theorem i_Lw_law_324 : iIns M_Lw_law 324 .ireturn 1 := (by decide +kernel : decode code 324 = .ok (.ireturn, 1))
theorem i_Lw_law_325 : iIns M_Lw_law 325 (.iload 6) 2 := (by decide +kernel : decode code 325 = .ok (.iload 6, 2))
theorem i_Lw_law_327 : iIf M_Lw_law 327 .ne 342 := ⟨15, (by decide +kernel : decode code 327 = .ok (.ifCond .ne (15), 3)), by decide⟩
theorem i_Lw_law_330 : iIns M_Lw_law 330 (.aload_n 3) 1 := (by decide +kernel : decode code 330 = .ok (.aload_n 3, 1))
theorem i_Lw_law_331 : iIns M_Lw_law 331 (.iconst 0) 1 := (by decide +kernel : decode code 331 = .ok (.iconst 0, 1))
theorem i_Lw_law_332 : iIns M_Lw_law 332 .laload 1 := (by decide +kernel : decode code 332 = .ok (.laload, 1))
theorem i_Lw_law_333 : iIns M_Lw_law 333 (.iload 7) 2 := (by decide +kernel : decode code 333 = .ok (.iload 7, 2))
theorem i_Lw_law_335 : iIns M_Lw_law 335 .i2l 1 := (by decide +kernel : decode code 335 = .ok (.i2l, 1))
theorem i_Lw_law_336 : iIns M_Lw_law 336 .lcmp 1 := (by decide +kernel : decode code 336 = .ok (.lcmp, 1))
theorem i_Lw_law_337 : iIf M_Lw_law 337 .eq 342 := ⟨5, (by decide +kernel : decode code 337 = .ok (.ifCond .eq (5), 3)), by decide⟩
theorem i_Lw_law_340 : iIns M_Lw_law 340 (.iconst 0) 1 := (by decide +kernel : decode code 340 = .ok (.iconst 0, 1))
theorem i_Lw_law_341 : iIns M_Lw_law 341 .ireturn 1 := (by decide +kernel : decode code 341 = .ok (.ireturn, 1))
theorem i_Lw_law_342 : iGoto M_Lw_law 342 2266 := ⟨1924, (by decide +kernel : decode code 342 = .ok (.goto (1924), 3)), by decide⟩
theorem i_Lw_law_345 : iIns M_Lw_law 345 (.aload_n 1) 1 := (by decide +kernel : decode code 345 = .ok (.aload_n 1, 1))
theorem i_Lw_law_346 : iIns M_Lw_law 346 (.aload_n 0) 1 := (by decide +kernel : decode code 346 = .ok (.aload_n 0, 1))
theorem i_Lw_law_347 : iIns M_Lw_law 347 (.iload 5) 2 := (by decide +kernel : decode code 347 = .ok (.iload 5, 2))
theorem i_Lw_law_349 : iIns M_Lw_law 349 (.iconst 1) 1 := (by decide +kernel : decode code 349 = .ok (.iconst 1, 1))
theorem i_Lw_law_350 : iIns M_Lw_law 350 .iadd 1 := (by decide +kernel : decode code 350 = .ok (.iadd, 1))
theorem i_Lw_law_351 : iIns M_Lw_law 351 .iaload 1 := (by decide +kernel : decode code 351 = .ok (.iaload, 1))
theorem i_Lw_law_352 : iIns M_Lw_law 352 (.aload_n 0) 1 := (by decide +kernel : decode code 352 = .ok (.aload_n 0, 1))
theorem i_Lw_law_353 : iIns M_Lw_law 353 (.iload 5) 2 := (by decide +kernel : decode code 353 = .ok (.iload 5, 2))
theorem i_Lw_law_355 : iIns M_Lw_law 355 (.iconst 2) 1 := (by decide +kernel : decode code 355 = .ok (.iconst 2, 1))
theorem i_Lw_law_356 : iIns M_Lw_law 356 .iadd 1 := (by decide +kernel : decode code 356 = .ok (.iadd, 1))
theorem i_Lw_law_357 : iIns M_Lw_law 357 .iaload 1 := (by decide +kernel : decode code 357 = .ok (.iaload, 1))
theorem i_Lw_law_358 : iIns M_Lw_law 358 (.aload_n 3) 1 := (by decide +kernel : decode code 358 = .ok (.aload_n 3, 1))
theorem i_Lw_law_359 : iCallSH M_Lw_law 359 M_Lw_addProduction 4 := ⟨⟨149, (by decide +kernel : decode code 359 = .ok (.invokestatic 149, 3)), lw_k3 121 rfl rfl⟩, sm_Lw_addProduction, me_Lw_addProduction, by decide, CW_Lw_addProduction⟩
theorem i_Lw_law_362 : iIns M_Lw_law 362 (.istore 6) 2 := (by decide +kernel : decode code 362 = .ok (.istore 6, 2))
theorem i_Lw_law_364 : iIns M_Lw_law 364 (.aload_n 2) 1 := (by decide +kernel : decode code 364 = .ok (.aload_n 2, 1))
theorem i_Lw_law_365 : iIns M_Lw_law 365 (.aload_n 0) 1 := (by decide +kernel : decode code 365 = .ok (.aload_n 0, 1))
theorem i_Lw_law_366 : iIns M_Lw_law 366 (.iload 5) 2 := (by decide +kernel : decode code 366 = .ok (.iload 5, 2))
theorem i_Lw_law_368 : iIns M_Lw_law 368 (.iconst 1) 1 := (by decide +kernel : decode code 368 = .ok (.iconst 1, 1))
theorem i_Lw_law_369 : iIns M_Lw_law 369 .iadd 1 := (by decide +kernel : decode code 369 = .ok (.iadd, 1))
theorem i_Lw_law_370 : iIns M_Lw_law 370 .iaload 1 := (by decide +kernel : decode code 370 = .ok (.iaload, 1))
theorem i_Lw_law_371 : iIns M_Lw_law 371 (.aload_n 0) 1 := (by decide +kernel : decode code 371 = .ok (.aload_n 0, 1))
theorem i_Lw_law_372 : iIns M_Lw_law 372 (.iload 5) 2 := (by decide +kernel : decode code 372 = .ok (.iload 5, 2))
theorem i_Lw_law_374 : iIns M_Lw_law 374 (.iconst 2) 1 := (by decide +kernel : decode code 374 = .ok (.iconst 2, 1))
theorem i_Lw_law_375 : iIns M_Lw_law 375 .iadd 1 := (by decide +kernel : decode code 375 = .ok (.iadd, 1))
theorem i_Lw_law_376 : iIns M_Lw_law 376 .iaload 1 := (by decide +kernel : decode code 376 = .ok (.iaload, 1))
theorem i_Lw_law_377 : iCallV M_Lw_law 377 M_Md_addProduction 2 14 := ⟨⟨151, (by decide +kernel : decode code 377 = .ok (.invokevirtual 151, 3)), lw_k6 176 rfl rfl⟩, vm_Md_addProduction, me_Md_addProduction, pn_Md_addProduction⟩
theorem i_Lw_law_380 : iIns M_Lw_law 380 (.istore 7) 2 := (by decide +kernel : decode code 380 = .ok (.istore 7, 2))
theorem i_Lw_law_382 : iIns M_Lw_law 382 (.aload_n 2) 1 := (by decide +kernel : decode code 382 = .ok (.aload_n 2, 1))
theorem i_Lw_law_383 : iCallV M_Lw_law 383 M_Md_thrown 0 14 := ⟨⟨138, (by decide +kernel : decode code 383 = .ok (.invokevirtual 138, 3)), lw_k6 133 rfl rfl⟩, vm_Md_thrown, me_Md_thrown, pn_Md_thrown⟩
theorem i_Lw_law_386 : iIns M_Lw_law 386 (.iload 6) 2 := (by decide +kernel : decode code 386 = .ok (.iload 6, 2))
theorem i_Lw_law_388 : iIcmp M_Lw_law 388 .eq 393 := ⟨5, (by decide +kernel : decode code 388 = .ok (.if_icmp .eq (5), 3)), by decide⟩
theorem i_Lw_law_391 : iIns M_Lw_law 391 (.iconst 0) 1 := (by decide +kernel : decode code 391 = .ok (.iconst 0, 1))
theorem i_Lw_law_392 : iIns M_Lw_law 392 .ireturn 1 := (by decide +kernel : decode code 392 = .ok (.ireturn, 1))
theorem i_Lw_law_393 : iIns M_Lw_law 393 (.iload 6) 2 := (by decide +kernel : decode code 393 = .ok (.iload 6, 2))
theorem i_Lw_law_395 : iIf M_Lw_law 395 .ne 410 := ⟨15, (by decide +kernel : decode code 395 = .ok (.ifCond .ne (15), 3)), by decide⟩
theorem i_Lw_law_398 : iIns M_Lw_law 398 (.aload_n 3) 1 := (by decide +kernel : decode code 398 = .ok (.aload_n 3, 1))
theorem i_Lw_law_399 : iIns M_Lw_law 399 (.iconst 0) 1 := (by decide +kernel : decode code 399 = .ok (.iconst 0, 1))
theorem i_Lw_law_400 : iIns M_Lw_law 400 .laload 1 := (by decide +kernel : decode code 400 = .ok (.laload, 1))
theorem i_Lw_law_401 : iIns M_Lw_law 401 (.iload 7) 2 := (by decide +kernel : decode code 401 = .ok (.iload 7, 2))
theorem i_Lw_law_403 : iIns M_Lw_law 403 .i2l 1 := (by decide +kernel : decode code 403 = .ok (.i2l, 1))
theorem i_Lw_law_404 : iIns M_Lw_law 404 .lcmp 1 := (by decide +kernel : decode code 404 = .ok (.lcmp, 1))
theorem i_Lw_law_405 : iIf M_Lw_law 405 .eq 410 := ⟨5, (by decide +kernel : decode code 405 = .ok (.ifCond .eq (5), 3)), by decide⟩
theorem i_Lw_law_408 : iIns M_Lw_law 408 (.iconst 0) 1 := (by decide +kernel : decode code 408 = .ok (.iconst 0, 1))
theorem i_Lw_law_409 : iIns M_Lw_law 409 .ireturn 1 := (by decide +kernel : decode code 409 = .ok (.ireturn, 1))
theorem i_Lw_law_410 : iGoto M_Lw_law 410 2266 := ⟨1856, (by decide +kernel : decode code 410 = .ok (.goto (1856), 3)), by decide⟩
theorem i_Lw_law_413 : iIns M_Lw_law 413 (.aload_n 1) 1 := (by decide +kernel : decode code 413 = .ok (.aload_n 1, 1))
theorem i_Lw_law_414 : iIns M_Lw_law 414 (.aload_n 0) 1 := (by decide +kernel : decode code 414 = .ok (.aload_n 0, 1))
theorem i_Lw_law_415 : iIns M_Lw_law 415 (.iload 5) 2 := (by decide +kernel : decode code 415 = .ok (.iload 5, 2))
theorem i_Lw_law_417 : iIns M_Lw_law 417 (.iconst 1) 1 := (by decide +kernel : decode code 417 = .ok (.iconst 1, 1))
theorem i_Lw_law_418 : iIns M_Lw_law 418 .iadd 1 := (by decide +kernel : decode code 418 = .ok (.iadd, 1))
theorem i_Lw_law_419 : iIns M_Lw_law 419 .iaload 1 := (by decide +kernel : decode code 419 = .ok (.iaload, 1))
theorem i_Lw_law_420 : iIns M_Lw_law 420 (.aload_n 0) 1 := (by decide +kernel : decode code 420 = .ok (.aload_n 0, 1))
theorem i_Lw_law_421 : iIns M_Lw_law 421 (.iload 5) 2 := (by decide +kernel : decode code 421 = .ok (.iload 5, 2))
theorem i_Lw_law_423 : iIns M_Lw_law 423 (.iconst 2) 1 := (by decide +kernel : decode code 423 = .ok (.iconst 2, 1))
theorem i_Lw_law_424 : iIns M_Lw_law 424 .iadd 1 := (by decide +kernel : decode code 424 = .ok (.iadd, 1))
theorem i_Lw_law_425 : iIns M_Lw_law 425 .iaload 1 := (by decide +kernel : decode code 425 = .ok (.iaload, 1))
theorem i_Lw_law_426 : iIns M_Lw_law 426 (.aload_n 3) 1 := (by decide +kernel : decode code 426 = .ok (.aload_n 3, 1))
theorem i_Lw_law_427 : iCallSH M_Lw_law 427 M_Lw_productionCount 4 := ⟨⟨152, (by decide +kernel : decode code 427 = .ok (.invokestatic 152, 3)), lw_k3 133 rfl rfl⟩, sm_Lw_productionCount, me_Lw_productionCount, by decide, CW_Lw_productionCount⟩
theorem i_Lw_law_430 : iIns M_Lw_law 430 (.istore 6) 2 := (by decide +kernel : decode code 430 = .ok (.istore 6, 2))
theorem i_Lw_law_432 : iIns M_Lw_law 432 (.aload_n 2) 1 := (by decide +kernel : decode code 432 = .ok (.aload_n 2, 1))
theorem i_Lw_law_433 : iIns M_Lw_law 433 (.aload_n 0) 1 := (by decide +kernel : decode code 433 = .ok (.aload_n 0, 1))
theorem i_Lw_law_434 : iIns M_Lw_law 434 (.iload 5) 2 := (by decide +kernel : decode code 434 = .ok (.iload 5, 2))
theorem i_Lw_law_436 : iIns M_Lw_law 436 (.iconst 1) 1 := (by decide +kernel : decode code 436 = .ok (.iconst 1, 1))
theorem i_Lw_law_437 : iIns M_Lw_law 437 .iadd 1 := (by decide +kernel : decode code 437 = .ok (.iadd, 1))
theorem i_Lw_law_438 : iIns M_Lw_law 438 .iaload 1 := (by decide +kernel : decode code 438 = .ok (.iaload, 1))
theorem i_Lw_law_439 : iIns M_Lw_law 439 (.aload_n 0) 1 := (by decide +kernel : decode code 439 = .ok (.aload_n 0, 1))
theorem i_Lw_law_440 : iIns M_Lw_law 440 (.iload 5) 2 := (by decide +kernel : decode code 440 = .ok (.iload 5, 2))
theorem i_Lw_law_442 : iIns M_Lw_law 442 (.iconst 2) 1 := (by decide +kernel : decode code 442 = .ok (.iconst 2, 1))
theorem i_Lw_law_443 : iIns M_Lw_law 443 .iadd 1 := (by decide +kernel : decode code 443 = .ok (.iadd, 1))
theorem i_Lw_law_444 : iIns M_Lw_law 444 .iaload 1 := (by decide +kernel : decode code 444 = .ok (.iaload, 1))
theorem i_Lw_law_445 : iCallV M_Lw_law 445 M_Md_productionCount 2 14 := ⟨⟨154, (by decide +kernel : decode code 445 = .ok (.invokevirtual 154, 3)), lw_k6 180 rfl rfl⟩, vm_Md_productionCount, me_Md_productionCount, pn_Md_productionCount⟩
theorem i_Lw_law_448 : iIns M_Lw_law 448 (.istore 7) 2 := (by decide +kernel : decode code 448 = .ok (.istore 7, 2))
theorem i_Lw_law_450 : iIns M_Lw_law 450 (.aload_n 2) 1 := (by decide +kernel : decode code 450 = .ok (.aload_n 2, 1))
theorem i_Lw_law_451 : iCallV M_Lw_law 451 M_Md_thrown 0 14 := ⟨⟨138, (by decide +kernel : decode code 451 = .ok (.invokevirtual 138, 3)), lw_k6 133 rfl rfl⟩, vm_Md_thrown, me_Md_thrown, pn_Md_thrown⟩
theorem i_Lw_law_454 : iIns M_Lw_law 454 (.iload 6) 2 := (by decide +kernel : decode code 454 = .ok (.iload 6, 2))
theorem i_Lw_law_456 : iIcmp M_Lw_law 456 .eq 461 := ⟨5, (by decide +kernel : decode code 456 = .ok (.if_icmp .eq (5), 3)), by decide⟩
theorem i_Lw_law_459 : iIns M_Lw_law 459 (.iconst 0) 1 := (by decide +kernel : decode code 459 = .ok (.iconst 0, 1))
theorem i_Lw_law_460 : iIns M_Lw_law 460 .ireturn 1 := (by decide +kernel : decode code 460 = .ok (.ireturn, 1))
theorem i_Lw_law_461 : iIns M_Lw_law 461 (.iload 6) 2 := (by decide +kernel : decode code 461 = .ok (.iload 6, 2))
theorem i_Lw_law_463 : iIf M_Lw_law 463 .ne 478 := ⟨15, (by decide +kernel : decode code 463 = .ok (.ifCond .ne (15), 3)), by decide⟩
theorem i_Lw_law_466 : iIns M_Lw_law 466 (.aload_n 3) 1 := (by decide +kernel : decode code 466 = .ok (.aload_n 3, 1))
theorem i_Lw_law_467 : iIns M_Lw_law 467 (.iconst 0) 1 := (by decide +kernel : decode code 467 = .ok (.iconst 0, 1))
theorem i_Lw_law_468 : iIns M_Lw_law 468 .laload 1 := (by decide +kernel : decode code 468 = .ok (.laload, 1))
theorem i_Lw_law_469 : iIns M_Lw_law 469 (.iload 7) 2 := (by decide +kernel : decode code 469 = .ok (.iload 7, 2))
theorem i_Lw_law_471 : iIns M_Lw_law 471 .i2l 1 := (by decide +kernel : decode code 471 = .ok (.i2l, 1))
theorem i_Lw_law_472 : iIns M_Lw_law 472 .lcmp 1 := (by decide +kernel : decode code 472 = .ok (.lcmp, 1))
theorem i_Lw_law_473 : iIf M_Lw_law 473 .eq 478 := ⟨5, (by decide +kernel : decode code 473 = .ok (.ifCond .eq (5), 3)), by decide⟩
theorem i_Lw_law_476 : iIns M_Lw_law 476 (.iconst 0) 1 := (by decide +kernel : decode code 476 = .ok (.iconst 0, 1))
theorem i_Lw_law_477 : iIns M_Lw_law 477 .ireturn 1 := (by decide +kernel : decode code 477 = .ok (.ireturn, 1))
theorem i_Lw_law_478 : iGoto M_Lw_law 478 2266 := ⟨1788, (by decide +kernel : decode code 478 = .ok (.goto (1788), 3)), by decide⟩
theorem i_Lw_law_481 : iIns M_Lw_law 481 (.aload_n 1) 1 := (by decide +kernel : decode code 481 = .ok (.aload_n 1, 1))
theorem i_Lw_law_482 : iIns M_Lw_law 482 (.aload_n 0) 1 := (by decide +kernel : decode code 482 = .ok (.aload_n 0, 1))
theorem i_Lw_law_483 : iIns M_Lw_law 483 (.iload 5) 2 := (by decide +kernel : decode code 483 = .ok (.iload 5, 2))
theorem i_Lw_law_485 : iIns M_Lw_law 485 (.iconst 1) 1 := (by decide +kernel : decode code 485 = .ok (.iconst 1, 1))
theorem i_Lw_law_486 : iIns M_Lw_law 486 .iadd 1 := (by decide +kernel : decode code 486 = .ok (.iadd, 1))
theorem i_Lw_law_487 : iIns M_Lw_law 487 .iaload 1 := (by decide +kernel : decode code 487 = .ok (.iaload, 1))
theorem i_Lw_law_488 : iIns M_Lw_law 488 (.aload_n 0) 1 := (by decide +kernel : decode code 488 = .ok (.aload_n 0, 1))
theorem i_Lw_law_489 : iIns M_Lw_law 489 (.iload 5) 2 := (by decide +kernel : decode code 489 = .ok (.iload 5, 2))
theorem i_Lw_law_491 : iIns M_Lw_law 491 (.iconst 2) 1 := (by decide +kernel : decode code 491 = .ok (.iconst 2, 1))
theorem i_Lw_law_492 : iIns M_Lw_law 492 .iadd 1 := (by decide +kernel : decode code 492 = .ok (.iadd, 1))
theorem i_Lw_law_493 : iIns M_Lw_law 493 .iaload 1 := (by decide +kernel : decode code 493 = .ok (.iaload, 1))
theorem i_Lw_law_494 : iIns M_Lw_law 494 (.aload_n 0) 1 := (by decide +kernel : decode code 494 = .ok (.aload_n 0, 1))
theorem i_Lw_law_495 : iIns M_Lw_law 495 (.iload 5) 2 := (by decide +kernel : decode code 495 = .ok (.iload 5, 2))
theorem i_Lw_law_497 : iIns M_Lw_law 497 (.iconst 3) 1 := (by decide +kernel : decode code 497 = .ok (.iconst 3, 1))
theorem i_Lw_law_498 : iIns M_Lw_law 498 .iadd 1 := (by decide +kernel : decode code 498 = .ok (.iadd, 1))
theorem i_Lw_law_499 : iIns M_Lw_law 499 .iaload 1 := (by decide +kernel : decode code 499 = .ok (.iaload, 1))
theorem i_Lw_law_500 : iIns M_Lw_law 500 (.aload_n 3) 1 := (by decide +kernel : decode code 500 = .ok (.aload_n 3, 1))
theorem i_Lw_law_501 : iCallSH M_Lw_law 501 M_Lw_setContextRule 5 := ⟨⟨155, (by decide +kernel : decode code 501 = .ok (.invokestatic 155, 3)), lw_k3 140 rfl rfl⟩, sm_Lw_setContextRule, me_Lw_setContextRule, by decide, CW_Lw_setContextRule⟩
theorem i_Lw_law_504 : iIns M_Lw_law 504 (.istore 6) 2 := (by decide +kernel : decode code 504 = .ok (.istore 6, 2))
theorem i_Lw_law_506 : iIns M_Lw_law 506 (.aload_n 2) 1 := (by decide +kernel : decode code 506 = .ok (.aload_n 2, 1))
theorem i_Lw_law_507 : iIns M_Lw_law 507 (.aload_n 0) 1 := (by decide +kernel : decode code 507 = .ok (.aload_n 0, 1))
theorem i_Lw_law_508 : iIns M_Lw_law 508 (.iload 5) 2 := (by decide +kernel : decode code 508 = .ok (.iload 5, 2))
theorem i_Lw_law_510 : iIns M_Lw_law 510 (.iconst 1) 1 := (by decide +kernel : decode code 510 = .ok (.iconst 1, 1))
theorem i_Lw_law_511 : iIns M_Lw_law 511 .iadd 1 := (by decide +kernel : decode code 511 = .ok (.iadd, 1))
theorem i_Lw_law_512 : iIns M_Lw_law 512 .iaload 1 := (by decide +kernel : decode code 512 = .ok (.iaload, 1))
theorem i_Lw_law_513 : iIns M_Lw_law 513 (.aload_n 0) 1 := (by decide +kernel : decode code 513 = .ok (.aload_n 0, 1))
theorem i_Lw_law_514 : iIns M_Lw_law 514 (.iload 5) 2 := (by decide +kernel : decode code 514 = .ok (.iload 5, 2))
theorem i_Lw_law_516 : iIns M_Lw_law 516 (.iconst 2) 1 := (by decide +kernel : decode code 516 = .ok (.iconst 2, 1))
theorem i_Lw_law_517 : iIns M_Lw_law 517 .iadd 1 := (by decide +kernel : decode code 517 = .ok (.iadd, 1))
theorem i_Lw_law_518 : iIns M_Lw_law 518 .iaload 1 := (by decide +kernel : decode code 518 = .ok (.iaload, 1))
theorem i_Lw_law_519 : iIns M_Lw_law 519 (.aload_n 0) 1 := (by decide +kernel : decode code 519 = .ok (.aload_n 0, 1))
theorem i_Lw_law_520 : iIns M_Lw_law 520 (.iload 5) 2 := (by decide +kernel : decode code 520 = .ok (.iload 5, 2))
theorem i_Lw_law_522 : iIns M_Lw_law 522 (.iconst 3) 1 := (by decide +kernel : decode code 522 = .ok (.iconst 3, 1))
theorem i_Lw_law_523 : iIns M_Lw_law 523 .iadd 1 := (by decide +kernel : decode code 523 = .ok (.iadd, 1))
theorem i_Lw_law_524 : iIns M_Lw_law 524 .iaload 1 := (by decide +kernel : decode code 524 = .ok (.iaload, 1))
theorem i_Lw_law_525 : iCallV M_Lw_law 525 M_Md_setContextRule 3 14 := ⟨⟨158, (by decide +kernel : decode code 525 = .ok (.invokevirtual 158, 3)), lw_k6 184 rfl rfl⟩, vm_Md_setContextRule, me_Md_setContextRule, pn_Md_setContextRule⟩
theorem i_Lw_law_528 : iIns M_Lw_law 528 (.istore 7) 2 := (by decide +kernel : decode code 528 = .ok (.istore 7, 2))
theorem i_Lw_law_530 : iIns M_Lw_law 530 (.aload_n 2) 1 := (by decide +kernel : decode code 530 = .ok (.aload_n 2, 1))
theorem i_Lw_law_531 : iCallV M_Lw_law 531 M_Md_thrown 0 14 := ⟨⟨138, (by decide +kernel : decode code 531 = .ok (.invokevirtual 138, 3)), lw_k6 133 rfl rfl⟩, vm_Md_thrown, me_Md_thrown, pn_Md_thrown⟩
theorem i_Lw_law_534 : iIns M_Lw_law 534 (.iload 6) 2 := (by decide +kernel : decode code 534 = .ok (.iload 6, 2))
theorem i_Lw_law_536 : iIcmp M_Lw_law 536 .eq 541 := ⟨5, (by decide +kernel : decode code 536 = .ok (.if_icmp .eq (5), 3)), by decide⟩
theorem i_Lw_law_539 : iIns M_Lw_law 539 (.iconst 0) 1 := (by decide +kernel : decode code 539 = .ok (.iconst 0, 1))
theorem i_Lw_law_540 : iIns M_Lw_law 540 .ireturn 1 := (by decide +kernel : decode code 540 = .ok (.ireturn, 1))
theorem i_Lw_law_541 : iIns M_Lw_law 541 (.iload 6) 2 := (by decide +kernel : decode code 541 = .ok (.iload 6, 2))
theorem i_Lw_law_543 : iIf M_Lw_law 543 .ne 565 := ⟨22, (by decide +kernel : decode code 543 = .ok (.ifCond .ne (22), 3)), by decide⟩
theorem i_Lw_law_546 : iIns M_Lw_law 546 (.aload_n 3) 1 := (by decide +kernel : decode code 546 = .ok (.aload_n 3, 1))
theorem i_Lw_law_547 : iIns M_Lw_law 547 (.iconst 0) 1 := (by decide +kernel : decode code 547 = .ok (.iconst 0, 1))
theorem i_Lw_law_548 : iIns M_Lw_law 548 .laload 1 := (by decide +kernel : decode code 548 = .ok (.laload, 1))
theorem i_Lw_law_549 : iIns M_Lw_law 549 (.iload 7) 2 := (by decide +kernel : decode code 549 = .ok (.iload 7, 2))
theorem i_Lw_law_551 : iIf M_Lw_law 551 .eq 558 := ⟨7, (by decide +kernel : decode code 551 = .ok (.ifCond .eq (7), 3)), by decide⟩
theorem i_Lw_law_554 : iIns M_Lw_law 554 (.lconst 1) 1 := (by decide +kernel : decode code 554 = .ok (.lconst 1, 1))
theorem i_Lw_law_555 : iGoto M_Lw_law 555 559 := ⟨4, (by decide +kernel : decode code 555 = .ok (.goto (4), 3)), by decide⟩
theorem i_Lw_law_558 : iIns M_Lw_law 558 (.lconst 0) 1 := (by decide +kernel : decode code 558 = .ok (.lconst 0, 1))
theorem i_Lw_law_559 : iIns M_Lw_law 559 .lcmp 1 := (by decide +kernel : decode code 559 = .ok (.lcmp, 1))
theorem i_Lw_law_560 : iIf M_Lw_law 560 .eq 565 := ⟨5, (by decide +kernel : decode code 560 = .ok (.ifCond .eq (5), 3)), by decide⟩
theorem i_Lw_law_563 : iIns M_Lw_law 563 (.iconst 0) 1 := (by decide +kernel : decode code 563 = .ok (.iconst 0, 1))
theorem i_Lw_law_564 : iIns M_Lw_law 564 .ireturn 1 := (by decide +kernel : decode code 564 = .ok (.ireturn, 1))
theorem i_Lw_law_565 : iGoto M_Lw_law 565 2266 := ⟨1701, (by decide +kernel : decode code 565 = .ok (.goto (1701), 3)), by decide⟩
theorem i_Lw_law_568 : iIns M_Lw_law 568 (.aload_n 1) 1 := (by decide +kernel : decode code 568 = .ok (.aload_n 1, 1))
theorem i_Lw_law_569 : iIns M_Lw_law 569 (.aload_n 0) 1 := (by decide +kernel : decode code 569 = .ok (.aload_n 0, 1))
theorem i_Lw_law_570 : iIns M_Lw_law 570 (.iload 5) 2 := (by decide +kernel : decode code 570 = .ok (.iload 5, 2))
theorem i_Lw_law_572 : iIns M_Lw_law 572 (.iconst 1) 1 := (by decide +kernel : decode code 572 = .ok (.iconst 1, 1))
theorem i_Lw_law_573 : iIns M_Lw_law 573 .iadd 1 := (by decide +kernel : decode code 573 = .ok (.iadd, 1))
theorem i_Lw_law_574 : iIns M_Lw_law 574 .iaload 1 := (by decide +kernel : decode code 574 = .ok (.iaload, 1))
theorem i_Lw_law_575 : iIns M_Lw_law 575 (.aload_n 0) 1 := (by decide +kernel : decode code 575 = .ok (.aload_n 0, 1))
theorem i_Lw_law_576 : iIns M_Lw_law 576 (.iload 5) 2 := (by decide +kernel : decode code 576 = .ok (.iload 5, 2))
theorem i_Lw_law_578 : iIns M_Lw_law 578 (.iconst 2) 1 := (by decide +kernel : decode code 578 = .ok (.iconst 2, 1))
theorem i_Lw_law_579 : iIns M_Lw_law 579 .iadd 1 := (by decide +kernel : decode code 579 = .ok (.iadd, 1))
theorem i_Lw_law_580 : iIns M_Lw_law 580 .iaload 1 := (by decide +kernel : decode code 580 = .ok (.iaload, 1))
theorem i_Lw_law_581 : iIns M_Lw_law 581 (.aload_n 0) 1 := (by decide +kernel : decode code 581 = .ok (.aload_n 0, 1))
theorem i_Lw_law_582 : iIns M_Lw_law 582 (.iload 5) 2 := (by decide +kernel : decode code 582 = .ok (.iload 5, 2))
theorem i_Lw_law_584 : iIns M_Lw_law 584 (.iconst 3) 1 := (by decide +kernel : decode code 584 = .ok (.iconst 3, 1))
theorem i_Lw_law_585 : iIns M_Lw_law 585 .iadd 1 := (by decide +kernel : decode code 585 = .ok (.iadd, 1))
theorem i_Lw_law_586 : iIns M_Lw_law 586 .iaload 1 := (by decide +kernel : decode code 586 = .ok (.iaload, 1))
theorem i_Lw_law_587 : iIns M_Lw_law 587 (.aload_n 3) 1 := (by decide +kernel : decode code 587 = .ok (.aload_n 3, 1))
theorem i_Lw_law_588 : iCallSH M_Lw_law 588 M_Lw_removeContextRule 5 := ⟨⟨159, (by decide +kernel : decode code 588 = .ok (.invokestatic 159, 3)), lw_k3 160 rfl rfl⟩, sm_Lw_removeContextRule, me_Lw_removeContextRule, by decide, CW_Lw_removeContextRule⟩
theorem i_Lw_law_591 : iIns M_Lw_law 591 (.istore 6) 2 := (by decide +kernel : decode code 591 = .ok (.istore 6, 2))
theorem i_Lw_law_593 : iIns M_Lw_law 593 (.aload_n 2) 1 := (by decide +kernel : decode code 593 = .ok (.aload_n 2, 1))
theorem i_Lw_law_594 : iIns M_Lw_law 594 (.aload_n 0) 1 := (by decide +kernel : decode code 594 = .ok (.aload_n 0, 1))
theorem i_Lw_law_595 : iIns M_Lw_law 595 (.iload 5) 2 := (by decide +kernel : decode code 595 = .ok (.iload 5, 2))
theorem i_Lw_law_597 : iIns M_Lw_law 597 (.iconst 1) 1 := (by decide +kernel : decode code 597 = .ok (.iconst 1, 1))
theorem i_Lw_law_598 : iIns M_Lw_law 598 .iadd 1 := (by decide +kernel : decode code 598 = .ok (.iadd, 1))
theorem i_Lw_law_599 : iIns M_Lw_law 599 .iaload 1 := (by decide +kernel : decode code 599 = .ok (.iaload, 1))
theorem i_Lw_law_600 : iIns M_Lw_law 600 (.aload_n 0) 1 := (by decide +kernel : decode code 600 = .ok (.aload_n 0, 1))
theorem i_Lw_law_601 : iIns M_Lw_law 601 (.iload 5) 2 := (by decide +kernel : decode code 601 = .ok (.iload 5, 2))
theorem i_Lw_law_603 : iIns M_Lw_law 603 (.iconst 2) 1 := (by decide +kernel : decode code 603 = .ok (.iconst 2, 1))
theorem i_Lw_law_604 : iIns M_Lw_law 604 .iadd 1 := (by decide +kernel : decode code 604 = .ok (.iadd, 1))
theorem i_Lw_law_605 : iIns M_Lw_law 605 .iaload 1 := (by decide +kernel : decode code 605 = .ok (.iaload, 1))
theorem i_Lw_law_606 : iIns M_Lw_law 606 (.aload_n 0) 1 := (by decide +kernel : decode code 606 = .ok (.aload_n 0, 1))
theorem i_Lw_law_607 : iIns M_Lw_law 607 (.iload 5) 2 := (by decide +kernel : decode code 607 = .ok (.iload 5, 2))
theorem i_Lw_law_609 : iIns M_Lw_law 609 (.iconst 3) 1 := (by decide +kernel : decode code 609 = .ok (.iconst 3, 1))
theorem i_Lw_law_610 : iIns M_Lw_law 610 .iadd 1 := (by decide +kernel : decode code 610 = .ok (.iadd, 1))
theorem i_Lw_law_611 : iIns M_Lw_law 611 .iaload 1 := (by decide +kernel : decode code 611 = .ok (.iaload, 1))
theorem i_Lw_law_612 : iCallV M_Lw_law 612 M_Md_removeContextRule 3 14 := ⟨⟨161, (by decide +kernel : decode code 612 = .ok (.invokevirtual 161, 3)), lw_k6 201 rfl rfl⟩, vm_Md_removeContextRule, me_Md_removeContextRule, pn_Md_removeContextRule⟩
theorem i_Lw_law_615 : iIns M_Lw_law 615 (.istore 7) 2 := (by decide +kernel : decode code 615 = .ok (.istore 7, 2))
theorem i_Lw_law_617 : iIns M_Lw_law 617 (.aload_n 2) 1 := (by decide +kernel : decode code 617 = .ok (.aload_n 2, 1))
theorem i_Lw_law_618 : iCallV M_Lw_law 618 M_Md_thrown 0 14 := ⟨⟨138, (by decide +kernel : decode code 618 = .ok (.invokevirtual 138, 3)), lw_k6 133 rfl rfl⟩, vm_Md_thrown, me_Md_thrown, pn_Md_thrown⟩
theorem i_Lw_law_621 : iIns M_Lw_law 621 (.iload 6) 2 := (by decide +kernel : decode code 621 = .ok (.iload 6, 2))
theorem i_Lw_law_623 : iIcmp M_Lw_law 623 .eq 628 := ⟨5, (by decide +kernel : decode code 623 = .ok (.if_icmp .eq (5), 3)), by decide⟩
theorem i_Lw_law_626 : iIns M_Lw_law 626 (.iconst 0) 1 := (by decide +kernel : decode code 626 = .ok (.iconst 0, 1))
theorem i_Lw_law_627 : iIns M_Lw_law 627 .ireturn 1 := (by decide +kernel : decode code 627 = .ok (.ireturn, 1))
theorem i_Lw_law_628 : iIns M_Lw_law 628 (.iload 6) 2 := (by decide +kernel : decode code 628 = .ok (.iload 6, 2))
theorem i_Lw_law_630 : iIf M_Lw_law 630 .ne 652 := ⟨22, (by decide +kernel : decode code 630 = .ok (.ifCond .ne (22), 3)), by decide⟩
theorem i_Lw_law_633 : iIns M_Lw_law 633 (.aload_n 3) 1 := (by decide +kernel : decode code 633 = .ok (.aload_n 3, 1))
theorem i_Lw_law_634 : iIns M_Lw_law 634 (.iconst 0) 1 := (by decide +kernel : decode code 634 = .ok (.iconst 0, 1))
theorem i_Lw_law_635 : iIns M_Lw_law 635 .laload 1 := (by decide +kernel : decode code 635 = .ok (.laload, 1))
theorem i_Lw_law_636 : iIns M_Lw_law 636 (.iload 7) 2 := (by decide +kernel : decode code 636 = .ok (.iload 7, 2))
theorem i_Lw_law_638 : iIf M_Lw_law 638 .eq 645 := ⟨7, (by decide +kernel : decode code 638 = .ok (.ifCond .eq (7), 3)), by decide⟩
theorem i_Lw_law_641 : iIns M_Lw_law 641 (.lconst 1) 1 := (by decide +kernel : decode code 641 = .ok (.lconst 1, 1))
theorem i_Lw_law_642 : iGoto M_Lw_law 642 646 := ⟨4, (by decide +kernel : decode code 642 = .ok (.goto (4), 3)), by decide⟩
theorem i_Lw_law_645 : iIns M_Lw_law 645 (.lconst 0) 1 := (by decide +kernel : decode code 645 = .ok (.lconst 0, 1))
theorem i_Lw_law_646 : iIns M_Lw_law 646 .lcmp 1 := (by decide +kernel : decode code 646 = .ok (.lcmp, 1))
theorem i_Lw_law_647 : iIf M_Lw_law 647 .eq 652 := ⟨5, (by decide +kernel : decode code 647 = .ok (.ifCond .eq (5), 3)), by decide⟩
theorem i_Lw_law_650 : iIns M_Lw_law 650 (.iconst 0) 1 := (by decide +kernel : decode code 650 = .ok (.iconst 0, 1))
theorem i_Lw_law_651 : iIns M_Lw_law 651 .ireturn 1 := (by decide +kernel : decode code 651 = .ok (.ireturn, 1))
theorem i_Lw_law_652 : iGoto M_Lw_law 652 2266 := ⟨1614, (by decide +kernel : decode code 652 = .ok (.goto (1614), 3)), by decide⟩
theorem i_Lw_law_655 : iIns M_Lw_law 655 (.aload_n 1) 1 := (by decide +kernel : decode code 655 = .ok (.aload_n 1, 1))
theorem i_Lw_law_656 : iIns M_Lw_law 656 (.aload_n 0) 1 := (by decide +kernel : decode code 656 = .ok (.aload_n 0, 1))
theorem i_Lw_law_657 : iIns M_Lw_law 657 (.iload 5) 2 := (by decide +kernel : decode code 657 = .ok (.iload 5, 2))
theorem i_Lw_law_659 : iIns M_Lw_law 659 (.iconst 1) 1 := (by decide +kernel : decode code 659 = .ok (.iconst 1, 1))
theorem i_Lw_law_660 : iIns M_Lw_law 660 .iadd 1 := (by decide +kernel : decode code 660 = .ok (.iadd, 1))
theorem i_Lw_law_661 : iIns M_Lw_law 661 .iaload 1 := (by decide +kernel : decode code 661 = .ok (.iaload, 1))
theorem i_Lw_law_662 : iIns M_Lw_law 662 (.aload_n 3) 1 := (by decide +kernel : decode code 662 = .ok (.aload_n 3, 1))
theorem i_Lw_law_663 : iCallSH M_Lw_law 663 M_Lw_isDeterministic 3 := ⟨⟨162, (by decide +kernel : decode code 663 = .ok (.invokestatic 162, 3)), lw_k3 171 rfl rfl⟩, sm_Lw_isDeterministic, me_Lw_isDeterministic, by decide, CW_Lw_isDeterministic⟩
theorem i_Lw_law_666 : iIns M_Lw_law 666 (.istore 6) 2 := (by decide +kernel : decode code 666 = .ok (.istore 6, 2))
theorem i_Lw_law_668 : iIns M_Lw_law 668 (.aload_n 2) 1 := (by decide +kernel : decode code 668 = .ok (.aload_n 2, 1))
theorem i_Lw_law_669 : iIns M_Lw_law 669 (.aload_n 0) 1 := (by decide +kernel : decode code 669 = .ok (.aload_n 0, 1))
theorem i_Lw_law_670 : iIns M_Lw_law 670 (.iload 5) 2 := (by decide +kernel : decode code 670 = .ok (.iload 5, 2))
theorem i_Lw_law_672 : iIns M_Lw_law 672 (.iconst 1) 1 := (by decide +kernel : decode code 672 = .ok (.iconst 1, 1))
theorem i_Lw_law_673 : iIns M_Lw_law 673 .iadd 1 := (by decide +kernel : decode code 673 = .ok (.iadd, 1))
theorem i_Lw_law_674 : iIns M_Lw_law 674 .iaload 1 := (by decide +kernel : decode code 674 = .ok (.iaload, 1))
theorem i_Lw_law_675 : iCallV M_Lw_law 675 M_Md_isDeterministic 1 14 := ⟨⟨164, (by decide +kernel : decode code 675 = .ok (.invokevirtual 164, 3)), lw_k6 206 rfl rfl⟩, vm_Md_isDeterministic, me_Md_isDeterministic, pn_Md_isDeterministic⟩
theorem i_Lw_law_678 : iIns M_Lw_law 678 (.istore 7) 2 := (by decide +kernel : decode code 678 = .ok (.istore 7, 2))
theorem i_Lw_law_680 : iIns M_Lw_law 680 (.aload_n 2) 1 := (by decide +kernel : decode code 680 = .ok (.aload_n 2, 1))
theorem i_Lw_law_681 : iCallV M_Lw_law 681 M_Md_thrown 0 14 := ⟨⟨138, (by decide +kernel : decode code 681 = .ok (.invokevirtual 138, 3)), lw_k6 133 rfl rfl⟩, vm_Md_thrown, me_Md_thrown, pn_Md_thrown⟩
theorem i_Lw_law_684 : iIns M_Lw_law 684 (.iload 6) 2 := (by decide +kernel : decode code 684 = .ok (.iload 6, 2))
theorem i_Lw_law_686 : iIcmp M_Lw_law 686 .eq 691 := ⟨5, (by decide +kernel : decode code 686 = .ok (.if_icmp .eq (5), 3)), by decide⟩
theorem i_Lw_law_689 : iIns M_Lw_law 689 (.iconst 0) 1 := (by decide +kernel : decode code 689 = .ok (.iconst 0, 1))
theorem i_Lw_law_690 : iIns M_Lw_law 690 .ireturn 1 := (by decide +kernel : decode code 690 = .ok (.ireturn, 1))
theorem i_Lw_law_691 : iIns M_Lw_law 691 (.iload 6) 2 := (by decide +kernel : decode code 691 = .ok (.iload 6, 2))
theorem i_Lw_law_693 : iIf M_Lw_law 693 .ne 715 := ⟨22, (by decide +kernel : decode code 693 = .ok (.ifCond .ne (22), 3)), by decide⟩
theorem i_Lw_law_696 : iIns M_Lw_law 696 (.aload_n 3) 1 := (by decide +kernel : decode code 696 = .ok (.aload_n 3, 1))
theorem i_Lw_law_697 : iIns M_Lw_law 697 (.iconst 0) 1 := (by decide +kernel : decode code 697 = .ok (.iconst 0, 1))
theorem i_Lw_law_698 : iIns M_Lw_law 698 .laload 1 := (by decide +kernel : decode code 698 = .ok (.laload, 1))
theorem i_Lw_law_699 : iIns M_Lw_law 699 (.iload 7) 2 := (by decide +kernel : decode code 699 = .ok (.iload 7, 2))
theorem i_Lw_law_701 : iIf M_Lw_law 701 .eq 708 := ⟨7, (by decide +kernel : decode code 701 = .ok (.ifCond .eq (7), 3)), by decide⟩
theorem i_Lw_law_704 : iIns M_Lw_law 704 (.lconst 1) 1 := (by decide +kernel : decode code 704 = .ok (.lconst 1, 1))
theorem i_Lw_law_705 : iGoto M_Lw_law 705 709 := ⟨4, (by decide +kernel : decode code 705 = .ok (.goto (4), 3)), by decide⟩
theorem i_Lw_law_708 : iIns M_Lw_law 708 (.lconst 0) 1 := (by decide +kernel : decode code 708 = .ok (.lconst 0, 1))
theorem i_Lw_law_709 : iIns M_Lw_law 709 .lcmp 1 := (by decide +kernel : decode code 709 = .ok (.lcmp, 1))
theorem i_Lw_law_710 : iIf M_Lw_law 710 .eq 715 := ⟨5, (by decide +kernel : decode code 710 = .ok (.ifCond .eq (5), 3)), by decide⟩
theorem i_Lw_law_713 : iIns M_Lw_law 713 (.iconst 0) 1 := (by decide +kernel : decode code 713 = .ok (.iconst 0, 1))
theorem i_Lw_law_714 : iIns M_Lw_law 714 .ireturn 1 := (by decide +kernel : decode code 714 = .ok (.ireturn, 1))
theorem i_Lw_law_715 : iGoto M_Lw_law 715 2266 := ⟨1551, (by decide +kernel : decode code 715 = .ok (.goto (1551), 3)), by decide⟩
theorem i_Lw_law_718 : iIns M_Lw_law 718 (.aload_n 1) 1 := (by decide +kernel : decode code 718 = .ok (.aload_n 1, 1))
theorem i_Lw_law_719 : iIns M_Lw_law 719 (.aload_n 0) 1 := (by decide +kernel : decode code 719 = .ok (.aload_n 0, 1))
theorem i_Lw_law_720 : iIns M_Lw_law 720 (.iload 5) 2 := (by decide +kernel : decode code 720 = .ok (.iload 5, 2))
theorem i_Lw_law_722 : iIns M_Lw_law 722 (.iconst 1) 1 := (by decide +kernel : decode code 722 = .ok (.iconst 1, 1))
theorem i_Lw_law_723 : iIns M_Lw_law 723 .iadd 1 := (by decide +kernel : decode code 723 = .ok (.iadd, 1))
theorem i_Lw_law_724 : iIns M_Lw_law 724 .iaload 1 := (by decide +kernel : decode code 724 = .ok (.iaload, 1))
theorem i_Lw_law_725 : iIns M_Lw_law 725 (.aload_n 3) 1 := (by decide +kernel : decode code 725 = .ok (.aload_n 3, 1))
theorem i_Lw_law_726 : iCallSH M_Lw_law 726 M_Lw_isPlain 3 := ⟨⟨165, (by decide +kernel : decode code 726 = .ok (.invokestatic 165, 3)), lw_k3 182 rfl rfl⟩, sm_Lw_isPlain, me_Lw_isPlain, by decide, CW_Lw_isPlain⟩
theorem i_Lw_law_729 : iIns M_Lw_law 729 (.istore 6) 2 := (by decide +kernel : decode code 729 = .ok (.istore 6, 2))
theorem i_Lw_law_731 : iIns M_Lw_law 731 (.aload_n 2) 1 := (by decide +kernel : decode code 731 = .ok (.aload_n 2, 1))
theorem i_Lw_law_732 : iIns M_Lw_law 732 (.aload_n 0) 1 := (by decide +kernel : decode code 732 = .ok (.aload_n 0, 1))
theorem i_Lw_law_733 : iIns M_Lw_law 733 (.iload 5) 2 := (by decide +kernel : decode code 733 = .ok (.iload 5, 2))
theorem i_Lw_law_735 : iIns M_Lw_law 735 (.iconst 1) 1 := (by decide +kernel : decode code 735 = .ok (.iconst 1, 1))
theorem i_Lw_law_736 : iIns M_Lw_law 736 .iadd 1 := (by decide +kernel : decode code 736 = .ok (.iadd, 1))
theorem i_Lw_law_737 : iIns M_Lw_law 737 .iaload 1 := (by decide +kernel : decode code 737 = .ok (.iaload, 1))
theorem i_Lw_law_738 : iCallV M_Lw_law 738 M_Md_isPlain 1 14 := ⟨⟨167, (by decide +kernel : decode code 738 = .ok (.invokevirtual 167, 3)), lw_k6 214 rfl rfl⟩, vm_Md_isPlain, me_Md_isPlain, pn_Md_isPlain⟩
theorem i_Lw_law_741 : iIns M_Lw_law 741 (.istore 7) 2 := (by decide +kernel : decode code 741 = .ok (.istore 7, 2))
theorem i_Lw_law_743 : iIns M_Lw_law 743 (.aload_n 2) 1 := (by decide +kernel : decode code 743 = .ok (.aload_n 2, 1))
theorem i_Lw_law_744 : iCallV M_Lw_law 744 M_Md_thrown 0 14 := ⟨⟨138, (by decide +kernel : decode code 744 = .ok (.invokevirtual 138, 3)), lw_k6 133 rfl rfl⟩, vm_Md_thrown, me_Md_thrown, pn_Md_thrown⟩
theorem i_Lw_law_747 : iIns M_Lw_law 747 (.iload 6) 2 := (by decide +kernel : decode code 747 = .ok (.iload 6, 2))
theorem i_Lw_law_749 : iIcmp M_Lw_law 749 .eq 754 := ⟨5, (by decide +kernel : decode code 749 = .ok (.if_icmp .eq (5), 3)), by decide⟩
theorem i_Lw_law_752 : iIns M_Lw_law 752 (.iconst 0) 1 := (by decide +kernel : decode code 752 = .ok (.iconst 0, 1))
theorem i_Lw_law_753 : iIns M_Lw_law 753 .ireturn 1 := (by decide +kernel : decode code 753 = .ok (.ireturn, 1))
theorem i_Lw_law_754 : iIns M_Lw_law 754 (.iload 6) 2 := (by decide +kernel : decode code 754 = .ok (.iload 6, 2))
theorem i_Lw_law_756 : iIf M_Lw_law 756 .ne 778 := ⟨22, (by decide +kernel : decode code 756 = .ok (.ifCond .ne (22), 3)), by decide⟩
theorem i_Lw_law_759 : iIns M_Lw_law 759 (.aload_n 3) 1 := (by decide +kernel : decode code 759 = .ok (.aload_n 3, 1))
theorem i_Lw_law_760 : iIns M_Lw_law 760 (.iconst 0) 1 := (by decide +kernel : decode code 760 = .ok (.iconst 0, 1))
theorem i_Lw_law_761 : iIns M_Lw_law 761 .laload 1 := (by decide +kernel : decode code 761 = .ok (.laload, 1))
theorem i_Lw_law_762 : iIns M_Lw_law 762 (.iload 7) 2 := (by decide +kernel : decode code 762 = .ok (.iload 7, 2))
theorem i_Lw_law_764 : iIf M_Lw_law 764 .eq 771 := ⟨7, (by decide +kernel : decode code 764 = .ok (.ifCond .eq (7), 3)), by decide⟩
theorem i_Lw_law_767 : iIns M_Lw_law 767 (.lconst 1) 1 := (by decide +kernel : decode code 767 = .ok (.lconst 1, 1))
theorem i_Lw_law_768 : iGoto M_Lw_law 768 772 := ⟨4, (by decide +kernel : decode code 768 = .ok (.goto (4), 3)), by decide⟩
theorem i_Lw_law_771 : iIns M_Lw_law 771 (.lconst 0) 1 := (by decide +kernel : decode code 771 = .ok (.lconst 0, 1))
theorem i_Lw_law_772 : iIns M_Lw_law 772 .lcmp 1 := (by decide +kernel : decode code 772 = .ok (.lcmp, 1))
theorem i_Lw_law_773 : iIf M_Lw_law 773 .eq 778 := ⟨5, (by decide +kernel : decode code 773 = .ok (.ifCond .eq (5), 3)), by decide⟩
theorem i_Lw_law_776 : iIns M_Lw_law 776 (.iconst 0) 1 := (by decide +kernel : decode code 776 = .ok (.iconst 0, 1))
theorem i_Lw_law_777 : iIns M_Lw_law 777 .ireturn 1 := (by decide +kernel : decode code 777 = .ok (.ireturn, 1))
theorem i_Lw_law_778 : iGoto M_Lw_law 778 2266 := ⟨1488, (by decide +kernel : decode code 778 = .ok (.goto (1488), 3)), by decide⟩
theorem i_Lw_law_781 : iIns M_Lw_law 781 (.aload_n 1) 1 := (by decide +kernel : decode code 781 = .ok (.aload_n 1, 1))
theorem i_Lw_law_782 : iIns M_Lw_law 782 (.aload_n 3) 1 := (by decide +kernel : decode code 782 = .ok (.aload_n 3, 1))
theorem i_Lw_law_783 : iCallSH M_Lw_law 783 M_Lw_setWord 2 := ⟨⟨168, (by decide +kernel : decode code 783 = .ok (.invokestatic 168, 3)), lw_k3 189 rfl rfl⟩, sm_Lw_setWord, me_Lw_setWord, by decide, CW_Lw_setWord⟩
theorem i_Lw_law_786 : iIns M_Lw_law 786 (.istore 6) 2 := (by decide +kernel : decode code 786 = .ok (.istore 6, 2))
theorem i_Lw_law_788 : iIns M_Lw_law 788 (.aload_n 2) 1 := (by decide +kernel : decode code 788 = .ok (.aload_n 2, 1))
theorem i_Lw_law_789 : iCallV M_Lw_law 789 M_Md_setWord 0 14 := ⟨⟨171, (by decide +kernel : decode code 789 = .ok (.invokevirtual 171, 3)), lw_k6 222 rfl rfl⟩, vm_Md_setWord, me_Md_setWord, pn_Md_setWord⟩
theorem i_Lw_law_792 : iIns M_Lw_law 792 (.istore 7) 2 := (by decide +kernel : decode code 792 = .ok (.istore 7, 2))
theorem i_Lw_law_794 : iIns M_Lw_law 794 (.aload_n 2) 1 := (by decide +kernel : decode code 794 = .ok (.aload_n 2, 1))
theorem i_Lw_law_795 : iCallV M_Lw_law 795 M_Md_thrown 0 14 := ⟨⟨138, (by decide +kernel : decode code 795 = .ok (.invokevirtual 138, 3)), lw_k6 133 rfl rfl⟩, vm_Md_thrown, me_Md_thrown, pn_Md_thrown⟩
theorem i_Lw_law_798 : iIns M_Lw_law 798 (.iload 6) 2 := (by decide +kernel : decode code 798 = .ok (.iload 6, 2))
theorem i_Lw_law_800 : iIcmp M_Lw_law 800 .eq 805 := ⟨5, (by decide +kernel : decode code 800 = .ok (.if_icmp .eq (5), 3)), by decide⟩
theorem i_Lw_law_803 : iIns M_Lw_law 803 (.iconst 0) 1 := (by decide +kernel : decode code 803 = .ok (.iconst 0, 1))
theorem i_Lw_law_804 : iIns M_Lw_law 804 .ireturn 1 := (by decide +kernel : decode code 804 = .ok (.ireturn, 1))
theorem i_Lw_law_805 : iIns M_Lw_law 805 (.iload 6) 2 := (by decide +kernel : decode code 805 = .ok (.iload 6, 2))
theorem i_Lw_law_807 : iIf M_Lw_law 807 .ne 822 := ⟨15, (by decide +kernel : decode code 807 = .ok (.ifCond .ne (15), 3)), by decide⟩
theorem i_Lw_law_810 : iIns M_Lw_law 810 (.aload_n 3) 1 := (by decide +kernel : decode code 810 = .ok (.aload_n 3, 1))
theorem i_Lw_law_811 : iIns M_Lw_law 811 (.iconst 0) 1 := (by decide +kernel : decode code 811 = .ok (.iconst 0, 1))
theorem i_Lw_law_812 : iIns M_Lw_law 812 .laload 1 := (by decide +kernel : decode code 812 = .ok (.laload, 1))
theorem i_Lw_law_813 : iIns M_Lw_law 813 (.iload 7) 2 := (by decide +kernel : decode code 813 = .ok (.iload 7, 2))
theorem i_Lw_law_815 : iIns M_Lw_law 815 .i2l 1 := (by decide +kernel : decode code 815 = .ok (.i2l, 1))
theorem i_Lw_law_816 : iIns M_Lw_law 816 .lcmp 1 := (by decide +kernel : decode code 816 = .ok (.lcmp, 1))
theorem i_Lw_law_817 : iIf M_Lw_law 817 .eq 822 := ⟨5, (by decide +kernel : decode code 817 = .ok (.ifCond .eq (5), 3)), by decide⟩
theorem i_Lw_law_820 : iIns M_Lw_law 820 (.iconst 0) 1 := (by decide +kernel : decode code 820 = .ok (.iconst 0, 1))
theorem i_Lw_law_821 : iIns M_Lw_law 821 .ireturn 1 := (by decide +kernel : decode code 821 = .ok (.ireturn, 1))
theorem i_Lw_law_822 : iGoto M_Lw_law 822 2266 := ⟨1444, (by decide +kernel : decode code 822 = .ok (.goto (1444), 3)), by decide⟩
theorem i_Lw_law_825 : iIns M_Lw_law 825 (.aload_n 1) 1 := (by decide +kernel : decode code 825 = .ok (.aload_n 1, 1))
theorem i_Lw_law_826 : iIns M_Lw_law 826 (.aload_n 3) 1 := (by decide +kernel : decode code 826 = .ok (.aload_n 3, 1))
theorem i_Lw_law_827 : iCallSH M_Lw_law 827 M_Lw_setTarget 2 := ⟨⟨172, (by decide +kernel : decode code 827 = .ok (.invokestatic 172, 3)), lw_k3 209 rfl rfl⟩, sm_Lw_setTarget, me_Lw_setTarget, by decide, CW_Lw_setTarget⟩
theorem i_Lw_law_830 : iIns M_Lw_law 830 (.istore 6) 2 := (by decide +kernel : decode code 830 = .ok (.istore 6, 2))
theorem i_Lw_law_832 : iIns M_Lw_law 832 (.aload_n 2) 1 := (by decide +kernel : decode code 832 = .ok (.aload_n 2, 1))
theorem i_Lw_law_833 : iCallV M_Lw_law 833 M_Md_setTarget 0 14 := ⟨⟨174, (by decide +kernel : decode code 833 = .ok (.invokevirtual 174, 3)), lw_k6 226 rfl rfl⟩, vm_Md_setTarget, me_Md_setTarget, pn_Md_setTarget⟩
theorem i_Lw_law_836 : iIns M_Lw_law 836 (.istore 7) 2 := (by decide +kernel : decode code 836 = .ok (.istore 7, 2))
theorem i_Lw_law_838 : iIns M_Lw_law 838 (.aload_n 2) 1 := (by decide +kernel : decode code 838 = .ok (.aload_n 2, 1))
theorem i_Lw_law_839 : iCallV M_Lw_law 839 M_Md_thrown 0 14 := ⟨⟨138, (by decide +kernel : decode code 839 = .ok (.invokevirtual 138, 3)), lw_k6 133 rfl rfl⟩, vm_Md_thrown, me_Md_thrown, pn_Md_thrown⟩
theorem i_Lw_law_842 : iIns M_Lw_law 842 (.iload 6) 2 := (by decide +kernel : decode code 842 = .ok (.iload 6, 2))
theorem i_Lw_law_844 : iIcmp M_Lw_law 844 .eq 849 := ⟨5, (by decide +kernel : decode code 844 = .ok (.if_icmp .eq (5), 3)), by decide⟩
theorem i_Lw_law_847 : iIns M_Lw_law 847 (.iconst 0) 1 := (by decide +kernel : decode code 847 = .ok (.iconst 0, 1))
theorem i_Lw_law_848 : iIns M_Lw_law 848 .ireturn 1 := (by decide +kernel : decode code 848 = .ok (.ireturn, 1))
theorem i_Lw_law_849 : iIns M_Lw_law 849 (.iload 6) 2 := (by decide +kernel : decode code 849 = .ok (.iload 6, 2))
theorem i_Lw_law_851 : iIf M_Lw_law 851 .ne 866 := ⟨15, (by decide +kernel : decode code 851 = .ok (.ifCond .ne (15), 3)), by decide⟩
theorem i_Lw_law_854 : iIns M_Lw_law 854 (.aload_n 3) 1 := (by decide +kernel : decode code 854 = .ok (.aload_n 3, 1))
theorem i_Lw_law_855 : iIns M_Lw_law 855 (.iconst 0) 1 := (by decide +kernel : decode code 855 = .ok (.iconst 0, 1))
theorem i_Lw_law_856 : iIns M_Lw_law 856 .laload 1 := (by decide +kernel : decode code 856 = .ok (.laload, 1))
theorem i_Lw_law_857 : iIns M_Lw_law 857 (.iload 7) 2 := (by decide +kernel : decode code 857 = .ok (.iload 7, 2))
theorem i_Lw_law_859 : iIns M_Lw_law 859 .i2l 1 := (by decide +kernel : decode code 859 = .ok (.i2l, 1))
theorem i_Lw_law_860 : iIns M_Lw_law 860 .lcmp 1 := (by decide +kernel : decode code 860 = .ok (.lcmp, 1))
theorem i_Lw_law_861 : iIf M_Lw_law 861 .eq 866 := ⟨5, (by decide +kernel : decode code 861 = .ok (.ifCond .eq (5), 3)), by decide⟩
theorem i_Lw_law_864 : iIns M_Lw_law 864 (.iconst 0) 1 := (by decide +kernel : decode code 864 = .ok (.iconst 0, 1))
theorem i_Lw_law_865 : iIns M_Lw_law 865 .ireturn 1 := (by decide +kernel : decode code 865 = .ok (.ireturn, 1))
theorem i_Lw_law_866 : iGoto M_Lw_law 866 2266 := ⟨1400, (by decide +kernel : decode code 866 = .ok (.goto (1400), 3)), by decide⟩
theorem i_Lw_law_869 : iIns M_Lw_law 869 (.aload_n 1) 1 := (by decide +kernel : decode code 869 = .ok (.aload_n 1, 1))
theorem i_Lw_law_870 : iCallV M_Lw_law 870 M_Pr_wordLength 0 13 := ⟨⟨175, (by decide +kernel : decode code 870 = .ok (.invokevirtual 175, 3)), lw_k2 138 rfl rfl⟩, vm_Pr_wordLength, me_Pr_wordLength, pn_Pr_wordLength⟩
theorem i_Lw_law_873 : iIns M_Lw_law 873 (.aload_n 2) 1 := (by decide +kernel : decode code 873 = .ok (.aload_n 2, 1))
theorem i_Lw_law_874 : iCallV M_Lw_law 874 M_Md_wordLength 0 14 := ⟨⟨178, (by decide +kernel : decode code 874 = .ok (.invokevirtual 178, 3)), lw_k6 230 rfl rfl⟩, vm_Md_wordLength, me_Md_wordLength, pn_Md_wordLength⟩
theorem i_Lw_law_877 : iIcmp M_Lw_law 877 .eq 2266 := ⟨1389, (by decide +kernel : decode code 877 = .ok (.if_icmp .eq (1389), 3)), by decide⟩
theorem i_Lw_law_880 : iIns M_Lw_law 880 (.iconst 0) 1 := (by decide +kernel : decode code 880 = .ok (.iconst 0, 1))
theorem i_Lw_law_881 : iIns M_Lw_law 881 .ireturn 1 := (by decide +kernel : decode code 881 = .ok (.ireturn, 1))
theorem i_Lw_law_882 : iIns M_Lw_law 882 (.aload_n 1) 1 := (by decide +kernel : decode code 882 = .ok (.aload_n 1, 1))
theorem i_Lw_law_883 : iIns M_Lw_law 883 (.aload_n 0) 1 := (by decide +kernel : decode code 883 = .ok (.aload_n 0, 1))
theorem i_Lw_law_884 : iIns M_Lw_law 884 (.iload 5) 2 := (by decide +kernel : decode code 884 = .ok (.iload 5, 2))
theorem i_Lw_law_886 : iIns M_Lw_law 886 (.iconst 1) 1 := (by decide +kernel : decode code 886 = .ok (.iconst 1, 1))
theorem i_Lw_law_887 : iIns M_Lw_law 887 .iadd 1 := (by decide +kernel : decode code 887 = .ok (.iadd, 1))
theorem i_Lw_law_888 : iIns M_Lw_law 888 .iaload 1 := (by decide +kernel : decode code 888 = .ok (.iaload, 1))
theorem i_Lw_law_889 : iIns M_Lw_law 889 (.aload_n 3) 1 := (by decide +kernel : decode code 889 = .ok (.aload_n 3, 1))
theorem i_Lw_law_890 : iCallSH M_Lw_law 890 M_Lw_wordLetter 3 := ⟨⟨179, (by decide +kernel : decode code 890 = .ok (.invokestatic 179, 3)), lw_k3 216 rfl rfl⟩, sm_Lw_wordLetter, me_Lw_wordLetter, by decide, CW_Lw_wordLetter⟩
theorem i_Lw_law_893 : iIns M_Lw_law 893 (.istore 6) 2 := (by decide +kernel : decode code 893 = .ok (.istore 6, 2))
theorem i_Lw_law_895 : iIns M_Lw_law 895 (.aload_n 2) 1 := (by decide +kernel : decode code 895 = .ok (.aload_n 2, 1))
theorem i_Lw_law_896 : iIns M_Lw_law 896 (.aload_n 0) 1 := (by decide +kernel : decode code 896 = .ok (.aload_n 0, 1))
theorem i_Lw_law_897 : iIns M_Lw_law 897 (.iload 5) 2 := (by decide +kernel : decode code 897 = .ok (.iload 5, 2))
theorem i_Lw_law_899 : iIns M_Lw_law 899 (.iconst 1) 1 := (by decide +kernel : decode code 899 = .ok (.iconst 1, 1))
theorem i_Lw_law_900 : iIns M_Lw_law 900 .iadd 1 := (by decide +kernel : decode code 900 = .ok (.iadd, 1))
theorem i_Lw_law_901 : iIns M_Lw_law 901 .iaload 1 := (by decide +kernel : decode code 901 = .ok (.iaload, 1))
theorem i_Lw_law_902 : iCallV M_Lw_law 902 M_Md_wordLetter 1 14 := ⟨⟨181, (by decide +kernel : decode code 902 = .ok (.invokevirtual 181, 3)), lw_k6 234 rfl rfl⟩, vm_Md_wordLetter, me_Md_wordLetter, pn_Md_wordLetter⟩
theorem i_Lw_law_905 : iIns M_Lw_law 905 (.istore 7) 2 := (by decide +kernel : decode code 905 = .ok (.istore 7, 2))
theorem i_Lw_law_907 : iIns M_Lw_law 907 (.aload_n 2) 1 := (by decide +kernel : decode code 907 = .ok (.aload_n 2, 1))
theorem i_Lw_law_908 : iCallV M_Lw_law 908 M_Md_thrown 0 14 := ⟨⟨138, (by decide +kernel : decode code 908 = .ok (.invokevirtual 138, 3)), lw_k6 133 rfl rfl⟩, vm_Md_thrown, me_Md_thrown, pn_Md_thrown⟩
theorem i_Lw_law_911 : iIns M_Lw_law 911 (.iload 6) 2 := (by decide +kernel : decode code 911 = .ok (.iload 6, 2))
theorem i_Lw_law_913 : iIcmp M_Lw_law 913 .eq 918 := ⟨5, (by decide +kernel : decode code 913 = .ok (.if_icmp .eq (5), 3)), by decide⟩
theorem i_Lw_law_916 : iIns M_Lw_law 916 (.iconst 0) 1 := (by decide +kernel : decode code 916 = .ok (.iconst 0, 1))
theorem i_Lw_law_917 : iIns M_Lw_law 917 .ireturn 1 := (by decide +kernel : decode code 917 = .ok (.ireturn, 1))
theorem i_Lw_law_918 : iIns M_Lw_law 918 (.iload 6) 2 := (by decide +kernel : decode code 918 = .ok (.iload 6, 2))
theorem i_Lw_law_920 : iIf M_Lw_law 920 .ne 935 := ⟨15, (by decide +kernel : decode code 920 = .ok (.ifCond .ne (15), 3)), by decide⟩
theorem i_Lw_law_923 : iIns M_Lw_law 923 (.aload_n 3) 1 := (by decide +kernel : decode code 923 = .ok (.aload_n 3, 1))
theorem i_Lw_law_924 : iIns M_Lw_law 924 (.iconst 0) 1 := (by decide +kernel : decode code 924 = .ok (.iconst 0, 1))
theorem i_Lw_law_925 : iIns M_Lw_law 925 .laload 1 := (by decide +kernel : decode code 925 = .ok (.laload, 1))
theorem i_Lw_law_926 : iIns M_Lw_law 926 (.iload 7) 2 := (by decide +kernel : decode code 926 = .ok (.iload 7, 2))
theorem i_Lw_law_928 : iIns M_Lw_law 928 .i2l 1 := (by decide +kernel : decode code 928 = .ok (.i2l, 1))
theorem i_Lw_law_929 : iIns M_Lw_law 929 .lcmp 1 := (by decide +kernel : decode code 929 = .ok (.lcmp, 1))
theorem i_Lw_law_930 : iIf M_Lw_law 930 .eq 935 := ⟨5, (by decide +kernel : decode code 930 = .ok (.ifCond .eq (5), 3)), by decide⟩
theorem i_Lw_law_933 : iIns M_Lw_law 933 (.iconst 0) 1 := (by decide +kernel : decode code 933 = .ok (.iconst 0, 1))
theorem i_Lw_law_934 : iIns M_Lw_law 934 .ireturn 1 := (by decide +kernel : decode code 934 = .ok (.ireturn, 1))
theorem i_Lw_law_935 : iGoto M_Lw_law 935 2266 := ⟨1331, (by decide +kernel : decode code 935 = .ok (.goto (1331), 3)), by decide⟩
theorem i_Lw_law_938 : iIns M_Lw_law 938 (.aload_n 1) 1 := (by decide +kernel : decode code 938 = .ok (.aload_n 1, 1))
theorem i_Lw_law_939 : iCallV M_Lw_law 939 M_Pr_isTarget 0 13 := ⟨⟨182, (by decide +kernel : decode code 939 = .ok (.invokevirtual 182, 3)), lw_k2 142 rfl rfl⟩, vm_Pr_isTarget, me_Pr_isTarget, pn_Pr_isTarget⟩
theorem i_Lw_law_942 : iIns M_Lw_law 942 (.aload_n 2) 1 := (by decide +kernel : decode code 942 = .ok (.aload_n 2, 1))
theorem i_Lw_law_943 : iCallV M_Lw_law 943 M_Md_isTarget 0 14 := ⟨⟨186, (by decide +kernel : decode code 943 = .ok (.invokevirtual 186, 3)), lw_k6 238 rfl rfl⟩, vm_Md_isTarget, me_Md_isTarget, pn_Md_isTarget⟩
theorem i_Lw_law_946 : iIcmp M_Lw_law 946 .eq 2266 := ⟨1320, (by decide +kernel : decode code 946 = .ok (.if_icmp .eq (1320), 3)), by decide⟩
theorem i_Lw_law_949 : iIns M_Lw_law 949 (.iconst 0) 1 := (by decide +kernel : decode code 949 = .ok (.iconst 0, 1))
theorem i_Lw_law_950 : iIns M_Lw_law 950 .ireturn 1 := (by decide +kernel : decode code 950 = .ok (.ireturn, 1))
theorem i_Lw_law_951 : iIns M_Lw_law 951 (.aload_n 1) 1 := (by decide +kernel : decode code 951 = .ok (.aload_n 1, 1))
theorem i_Lw_law_952 : iIns M_Lw_law 952 (.aload_n 0) 1 := (by decide +kernel : decode code 952 = .ok (.aload_n 0, 1))
theorem i_Lw_law_953 : iIns M_Lw_law 953 (.iload 5) 2 := (by decide +kernel : decode code 953 = .ok (.iload 5, 2))
theorem i_Lw_law_955 : iIns M_Lw_law 955 (.iconst 1) 1 := (by decide +kernel : decode code 955 = .ok (.iconst 1, 1))
theorem i_Lw_law_956 : iIns M_Lw_law 956 .iadd 1 := (by decide +kernel : decode code 956 = .ok (.iadd, 1))
theorem i_Lw_law_957 : iIns M_Lw_law 957 .iaload 1 := (by decide +kernel : decode code 957 = .ok (.iaload, 1))
theorem i_Lw_law_958 : iIns M_Lw_law 958 (.aload_n 0) 1 := (by decide +kernel : decode code 958 = .ok (.aload_n 0, 1))
theorem i_Lw_law_959 : iIns M_Lw_law 959 (.iload 5) 2 := (by decide +kernel : decode code 959 = .ok (.iload 5, 2))
theorem i_Lw_law_961 : iIns M_Lw_law 961 (.iconst 2) 1 := (by decide +kernel : decode code 961 = .ok (.iconst 2, 1))
theorem i_Lw_law_962 : iIns M_Lw_law 962 .iadd 1 := (by decide +kernel : decode code 962 = .ok (.iadd, 1))
theorem i_Lw_law_963 : iIns M_Lw_law 963 .iaload 1 := (by decide +kernel : decode code 963 = .ok (.iaload, 1))
theorem i_Lw_law_964 : iIns M_Lw_law 964 (.aload_n 3) 1 := (by decide +kernel : decode code 964 = .ok (.aload_n 3, 1))
theorem i_Lw_law_965 : iCallSH M_Lw_law 965 M_Lw_step 4 := ⟨⟨187, (by decide +kernel : decode code 965 = .ok (.invokestatic 187, 3)), lw_k3 224 rfl rfl⟩, sm_Lw_step, me_Lw_step, by decide, CW_Lw_step⟩
theorem i_Lw_law_968 : iIns M_Lw_law 968 (.istore 6) 2 := (by decide +kernel : decode code 968 = .ok (.istore 6, 2))
theorem i_Lw_law_970 : iIns M_Lw_law 970 (.aload_n 2) 1 := (by decide +kernel : decode code 970 = .ok (.aload_n 2, 1))
theorem i_Lw_law_971 : iIns M_Lw_law 971 (.aload_n 0) 1 := (by decide +kernel : decode code 971 = .ok (.aload_n 0, 1))
theorem i_Lw_law_972 : iIns M_Lw_law 972 (.iload 5) 2 := (by decide +kernel : decode code 972 = .ok (.iload 5, 2))
theorem i_Lw_law_974 : iIns M_Lw_law 974 (.iconst 1) 1 := (by decide +kernel : decode code 974 = .ok (.iconst 1, 1))
theorem i_Lw_law_975 : iIns M_Lw_law 975 .iadd 1 := (by decide +kernel : decode code 975 = .ok (.iadd, 1))
theorem i_Lw_law_976 : iIns M_Lw_law 976 .iaload 1 := (by decide +kernel : decode code 976 = .ok (.iaload, 1))
theorem i_Lw_law_977 : iIns M_Lw_law 977 (.aload_n 0) 1 := (by decide +kernel : decode code 977 = .ok (.aload_n 0, 1))
theorem i_Lw_law_978 : iIns M_Lw_law 978 (.iload 5) 2 := (by decide +kernel : decode code 978 = .ok (.iload 5, 2))
theorem i_Lw_law_980 : iIns M_Lw_law 980 (.iconst 2) 1 := (by decide +kernel : decode code 980 = .ok (.iconst 2, 1))
theorem i_Lw_law_981 : iIns M_Lw_law 981 .iadd 1 := (by decide +kernel : decode code 981 = .ok (.iadd, 1))
theorem i_Lw_law_982 : iIns M_Lw_law 982 .iaload 1 := (by decide +kernel : decode code 982 = .ok (.iaload, 1))
theorem i_Lw_law_983 : iCallV M_Lw_law 983 M_Md_step 2 14 := ⟨⟨189, (by decide +kernel : decode code 983 = .ok (.invokevirtual 189, 3)), lw_k7 5 rfl rfl⟩, vm_Md_step, me_Md_step, pn_Md_step⟩
theorem i_Lw_law_986 : iIns M_Lw_law 986 (.istore 7) 2 := (by decide +kernel : decode code 986 = .ok (.istore 7, 2))
theorem i_Lw_law_988 : iIns M_Lw_law 988 (.aload_n 2) 1 := (by decide +kernel : decode code 988 = .ok (.aload_n 2, 1))
theorem i_Lw_law_989 : iCallV M_Lw_law 989 M_Md_thrown 0 14 := ⟨⟨138, (by decide +kernel : decode code 989 = .ok (.invokevirtual 138, 3)), lw_k6 133 rfl rfl⟩, vm_Md_thrown, me_Md_thrown, pn_Md_thrown⟩
theorem i_Lw_law_992 : iIns M_Lw_law 992 (.iload 6) 2 := (by decide +kernel : decode code 992 = .ok (.iload 6, 2))
theorem i_Lw_law_994 : iIcmp M_Lw_law 994 .eq 999 := ⟨5, (by decide +kernel : decode code 994 = .ok (.if_icmp .eq (5), 3)), by decide⟩
theorem i_Lw_law_997 : iIns M_Lw_law 997 (.iconst 0) 1 := (by decide +kernel : decode code 997 = .ok (.iconst 0, 1))
theorem i_Lw_law_998 : iIns M_Lw_law 998 .ireturn 1 := (by decide +kernel : decode code 998 = .ok (.ireturn, 1))
theorem i_Lw_law_999 : iIns M_Lw_law 999 (.iload 6) 2 := (by decide +kernel : decode code 999 = .ok (.iload 6, 2))
theorem i_Lw_law_1001 : iIf M_Lw_law 1001 .ne 1016 := ⟨15, (by decide +kernel : decode code 1001 = .ok (.ifCond .ne (15), 3)), by decide⟩
theorem i_Lw_law_1004 : iIns M_Lw_law 1004 (.aload_n 3) 1 := (by decide +kernel : decode code 1004 = .ok (.aload_n 3, 1))
theorem i_Lw_law_1005 : iIns M_Lw_law 1005 (.iconst 0) 1 := (by decide +kernel : decode code 1005 = .ok (.iconst 0, 1))
theorem i_Lw_law_1006 : iIns M_Lw_law 1006 .laload 1 := (by decide +kernel : decode code 1006 = .ok (.laload, 1))
theorem i_Lw_law_1007 : iIns M_Lw_law 1007 (.iload 7) 2 := (by decide +kernel : decode code 1007 = .ok (.iload 7, 2))
theorem i_Lw_law_1009 : iIns M_Lw_law 1009 .i2l 1 := (by decide +kernel : decode code 1009 = .ok (.i2l, 1))
theorem i_Lw_law_1010 : iIns M_Lw_law 1010 .lcmp 1 := (by decide +kernel : decode code 1010 = .ok (.lcmp, 1))
theorem i_Lw_law_1011 : iIf M_Lw_law 1011 .eq 1016 := ⟨5, (by decide +kernel : decode code 1011 = .ok (.ifCond .eq (5), 3)), by decide⟩
theorem i_Lw_law_1014 : iIns M_Lw_law 1014 (.iconst 0) 1 := (by decide +kernel : decode code 1014 = .ok (.iconst 0, 1))
theorem i_Lw_law_1015 : iIns M_Lw_law 1015 .ireturn 1 := (by decide +kernel : decode code 1015 = .ok (.ireturn, 1))
theorem i_Lw_law_1016 : iGoto M_Lw_law 1016 2266 := ⟨1250, (by decide +kernel : decode code 1016 = .ok (.goto (1250), 3)), by decide⟩
theorem i_Lw_law_1019 : iIns M_Lw_law 1019 (.aload_n 1) 1 := (by decide +kernel : decode code 1019 = .ok (.aload_n 1, 1))
theorem i_Lw_law_1020 : iCallV M_Lw_law 1020 M_Pr_undo 0 13 := ⟨⟨190, (by decide +kernel : decode code 1020 = .ok (.invokevirtual 190, 3)), lw_k2 157 rfl rfl⟩, vm_Pr_undo, me_Pr_undo, pn_Pr_undo⟩
theorem i_Lw_law_1023 : iIns M_Lw_law 1023 (.aload_n 2) 1 := (by decide +kernel : decode code 1023 = .ok (.aload_n 2, 1))
theorem i_Lw_law_1024 : iCallV M_Lw_law 1024 M_Md_undo 0 14 := ⟨⟨193, (by decide +kernel : decode code 1024 = .ok (.invokevirtual 193, 3)), lw_k7 18 rfl rfl⟩, vm_Md_undo, me_Md_undo, pn_Md_undo⟩
theorem i_Lw_law_1027 : iIcmp M_Lw_law 1027 .eq 2266 := ⟨1239, (by decide +kernel : decode code 1027 = .ok (.if_icmp .eq (1239), 3)), by decide⟩
theorem i_Lw_law_1030 : iIns M_Lw_law 1030 (.iconst 0) 1 := (by decide +kernel : decode code 1030 = .ok (.iconst 0, 1))
theorem i_Lw_law_1031 : iIns M_Lw_law 1031 .ireturn 1 := (by decide +kernel : decode code 1031 = .ok (.ireturn, 1))
theorem i_Lw_law_1032 : iIns M_Lw_law 1032 (.aload_n 1) 1 := (by decide +kernel : decode code 1032 = .ok (.aload_n 1, 1))
theorem i_Lw_law_1033 : iIns M_Lw_law 1033 (.aload_n 0) 1 := (by decide +kernel : decode code 1033 = .ok (.aload_n 0, 1))
theorem i_Lw_law_1034 : iIns M_Lw_law 1034 (.iload 5) 2 := (by decide +kernel : decode code 1034 = .ok (.iload 5, 2))
theorem i_Lw_law_1036 : iIns M_Lw_law 1036 (.iconst 1) 1 := (by decide +kernel : decode code 1036 = .ok (.iconst 1, 1))
theorem i_Lw_law_1037 : iIns M_Lw_law 1037 .iadd 1 := (by decide +kernel : decode code 1037 = .ok (.iadd, 1))
theorem i_Lw_law_1038 : iIns M_Lw_law 1038 .iaload 1 := (by decide +kernel : decode code 1038 = .ok (.iaload, 1))
theorem i_Lw_law_1039 : iIns M_Lw_law 1039 (.aload_n 0) 1 := (by decide +kernel : decode code 1039 = .ok (.aload_n 0, 1))
theorem i_Lw_law_1040 : iIns M_Lw_law 1040 (.iload 5) 2 := (by decide +kernel : decode code 1040 = .ok (.iload 5, 2))
theorem i_Lw_law_1042 : iIns M_Lw_law 1042 (.iconst 2) 1 := (by decide +kernel : decode code 1042 = .ok (.iconst 2, 1))
theorem i_Lw_law_1043 : iIns M_Lw_law 1043 .iadd 1 := (by decide +kernel : decode code 1043 = .ok (.iadd, 1))
theorem i_Lw_law_1044 : iIns M_Lw_law 1044 .iaload 1 := (by decide +kernel : decode code 1044 = .ok (.iaload, 1))
theorem i_Lw_law_1045 : iIns M_Lw_law 1045 (.aload_n 3) 1 := (by decide +kernel : decode code 1045 = .ok (.aload_n 3, 1))
theorem i_Lw_law_1046 : iCallSH M_Lw_law 1046 M_Lw_lengthAfter 4 := ⟨⟨194, (by decide +kernel : decode code 1046 = .ok (.invokestatic 194, 3)), lw_k4 19 rfl rfl⟩, sm_Lw_lengthAfter, me_Lw_lengthAfter, by decide, CW_Lw_lengthAfter⟩
theorem i_Lw_law_1049 : iIns M_Lw_law 1049 (.istore 6) 2 := (by decide +kernel : decode code 1049 = .ok (.istore 6, 2))
theorem i_Lw_law_1051 : iIns M_Lw_law 1051 (.aload_n 2) 1 := (by decide +kernel : decode code 1051 = .ok (.aload_n 2, 1))
theorem i_Lw_law_1052 : iIns M_Lw_law 1052 (.aload_n 0) 1 := (by decide +kernel : decode code 1052 = .ok (.aload_n 0, 1))
theorem i_Lw_law_1053 : iIns M_Lw_law 1053 (.iload 5) 2 := (by decide +kernel : decode code 1053 = .ok (.iload 5, 2))
theorem i_Lw_law_1055 : iIns M_Lw_law 1055 (.iconst 1) 1 := (by decide +kernel : decode code 1055 = .ok (.iconst 1, 1))
theorem i_Lw_law_1056 : iIns M_Lw_law 1056 .iadd 1 := (by decide +kernel : decode code 1056 = .ok (.iadd, 1))
theorem i_Lw_law_1057 : iIns M_Lw_law 1057 .iaload 1 := (by decide +kernel : decode code 1057 = .ok (.iaload, 1))
theorem i_Lw_law_1058 : iIns M_Lw_law 1058 (.aload_n 0) 1 := (by decide +kernel : decode code 1058 = .ok (.aload_n 0, 1))
theorem i_Lw_law_1059 : iIns M_Lw_law 1059 (.iload 5) 2 := (by decide +kernel : decode code 1059 = .ok (.iload 5, 2))
theorem i_Lw_law_1061 : iIns M_Lw_law 1061 (.iconst 2) 1 := (by decide +kernel : decode code 1061 = .ok (.iconst 2, 1))
theorem i_Lw_law_1062 : iIns M_Lw_law 1062 .iadd 1 := (by decide +kernel : decode code 1062 = .ok (.iadd, 1))
theorem i_Lw_law_1063 : iIns M_Lw_law 1063 .iaload 1 := (by decide +kernel : decode code 1063 = .ok (.iaload, 1))
theorem i_Lw_law_1064 : iCallV M_Lw_law 1064 M_Md_lengthAfter 2 14 := ⟨⟨196, (by decide +kernel : decode code 1064 = .ok (.invokevirtual 196, 3)), lw_k7 22 rfl rfl⟩, vm_Md_lengthAfter, me_Md_lengthAfter, pn_Md_lengthAfter⟩
theorem i_Lw_law_1067 : iIns M_Lw_law 1067 (.lstore 7) 2 := (by decide +kernel : decode code 1067 = .ok (.lstore 7, 2))
theorem i_Lw_law_1069 : iIns M_Lw_law 1069 (.aload_n 2) 1 := (by decide +kernel : decode code 1069 = .ok (.aload_n 2, 1))
theorem i_Lw_law_1070 : iCallV M_Lw_law 1070 M_Md_thrown 0 14 := ⟨⟨138, (by decide +kernel : decode code 1070 = .ok (.invokevirtual 138, 3)), lw_k6 133 rfl rfl⟩, vm_Md_thrown, me_Md_thrown, pn_Md_thrown⟩
theorem i_Lw_law_1073 : iIns M_Lw_law 1073 (.iload 6) 2 := (by decide +kernel : decode code 1073 = .ok (.iload 6, 2))
theorem i_Lw_law_1075 : iIcmp M_Lw_law 1075 .eq 1080 := ⟨5, (by decide +kernel : decode code 1075 = .ok (.if_icmp .eq (5), 3)), by decide⟩
theorem i_Lw_law_1078 : iIns M_Lw_law 1078 (.iconst 0) 1 := (by decide +kernel : decode code 1078 = .ok (.iconst 0, 1))
theorem i_Lw_law_1079 : iIns M_Lw_law 1079 .ireturn 1 := (by decide +kernel : decode code 1079 = .ok (.ireturn, 1))
theorem i_Lw_law_1080 : iIns M_Lw_law 1080 (.iload 6) 2 := (by decide +kernel : decode code 1080 = .ok (.iload 6, 2))
theorem i_Lw_law_1082 : iIf M_Lw_law 1082 .ne 1096 := ⟨14, (by decide +kernel : decode code 1082 = .ok (.ifCond .ne (14), 3)), by decide⟩
theorem i_Lw_law_1085 : iIns M_Lw_law 1085 (.aload_n 3) 1 := (by decide +kernel : decode code 1085 = .ok (.aload_n 3, 1))
theorem i_Lw_law_1086 : iIns M_Lw_law 1086 (.iconst 0) 1 := (by decide +kernel : decode code 1086 = .ok (.iconst 0, 1))
theorem i_Lw_law_1087 : iIns M_Lw_law 1087 .laload 1 := (by decide +kernel : decode code 1087 = .ok (.laload, 1))
theorem i_Lw_law_1088 : iIns M_Lw_law 1088 (.lload 7) 2 := (by decide +kernel : decode code 1088 = .ok (.lload 7, 2))
theorem i_Lw_law_1090 : iIns M_Lw_law 1090 .lcmp 1 := (by decide +kernel : decode code 1090 = .ok (.lcmp, 1))
theorem i_Lw_law_1091 : iIf M_Lw_law 1091 .eq 1096 := ⟨5, (by decide +kernel : decode code 1091 = .ok (.ifCond .eq (5), 3)), by decide⟩
theorem i_Lw_law_1094 : iIns M_Lw_law 1094 (.iconst 0) 1 := (by decide +kernel : decode code 1094 = .ok (.iconst 0, 1))
theorem i_Lw_law_1095 : iIns M_Lw_law 1095 .ireturn 1 := (by decide +kernel : decode code 1095 = .ok (.ireturn, 1))
theorem i_Lw_law_1096 : iGoto M_Lw_law 1096 2266 := ⟨1170, (by decide +kernel : decode code 1096 = .ok (.goto (1170), 3)), by decide⟩
theorem i_Lw_law_1099 : iIns M_Lw_law 1099 (.aload_n 1) 1 := (by decide +kernel : decode code 1099 = .ok (.aload_n 1, 1))
theorem i_Lw_law_1100 : iIns M_Lw_law 1100 (.aload_n 0) 1 := (by decide +kernel : decode code 1100 = .ok (.aload_n 0, 1))
theorem i_Lw_law_1101 : iIns M_Lw_law 1101 (.iload 5) 2 := (by decide +kernel : decode code 1101 = .ok (.iload 5, 2))
theorem i_Lw_law_1103 : iIns M_Lw_law 1103 (.iconst 1) 1 := (by decide +kernel : decode code 1103 = .ok (.iconst 1, 1))
theorem i_Lw_law_1104 : iIns M_Lw_law 1104 .iadd 1 := (by decide +kernel : decode code 1104 = .ok (.iadd, 1))
theorem i_Lw_law_1105 : iIns M_Lw_law 1105 .iaload 1 := (by decide +kernel : decode code 1105 = .ok (.iaload, 1))
theorem i_Lw_law_1106 : iIns M_Lw_law 1106 (.aload_n 0) 1 := (by decide +kernel : decode code 1106 = .ok (.aload_n 0, 1))
theorem i_Lw_law_1107 : iIns M_Lw_law 1107 (.iload 5) 2 := (by decide +kernel : decode code 1107 = .ok (.iload 5, 2))
theorem i_Lw_law_1109 : iIns M_Lw_law 1109 (.iconst 2) 1 := (by decide +kernel : decode code 1109 = .ok (.iconst 2, 1))
theorem i_Lw_law_1110 : iIns M_Lw_law 1110 .iadd 1 := (by decide +kernel : decode code 1110 = .ok (.iadd, 1))
theorem i_Lw_law_1111 : iIns M_Lw_law 1111 .iaload 1 := (by decide +kernel : decode code 1111 = .ok (.iaload, 1))
theorem i_Lw_law_1112 : iIns M_Lw_law 1112 (.aload_n 0) 1 := (by decide +kernel : decode code 1112 = .ok (.aload_n 0, 1))
theorem i_Lw_law_1113 : iIns M_Lw_law 1113 (.iload 5) 2 := (by decide +kernel : decode code 1113 = .ok (.iload 5, 2))
theorem i_Lw_law_1115 : iIns M_Lw_law 1115 (.iconst 3) 1 := (by decide +kernel : decode code 1115 = .ok (.iconst 3, 1))
theorem i_Lw_law_1116 : iIns M_Lw_law 1116 .iadd 1 := (by decide +kernel : decode code 1116 = .ok (.iadd, 1))
theorem i_Lw_law_1117 : iIns M_Lw_law 1117 .iaload 1 := (by decide +kernel : decode code 1117 = .ok (.iaload, 1))
theorem i_Lw_law_1118 : iIns M_Lw_law 1118 (.aload_n 3) 1 := (by decide +kernel : decode code 1118 = .ok (.aload_n 3, 1))
theorem i_Lw_law_1119 : iCallSH M_Lw_law 1119 M_Lw_countAfter 5 := ⟨⟨197, (by decide +kernel : decode code 1119 = .ok (.invokestatic 197, 3)), lw_k4 66 rfl rfl⟩, sm_Lw_countAfter, me_Lw_countAfter, by decide, CW_Lw_countAfter⟩
theorem i_Lw_law_1122 : iIns M_Lw_law 1122 (.istore 6) 2 := (by decide +kernel : decode code 1122 = .ok (.istore 6, 2))
theorem i_Lw_law_1124 : iIns M_Lw_law 1124 (.aload_n 2) 1 := (by decide +kernel : decode code 1124 = .ok (.aload_n 2, 1))
theorem i_Lw_law_1125 : iIns M_Lw_law 1125 (.aload_n 0) 1 := (by decide +kernel : decode code 1125 = .ok (.aload_n 0, 1))
theorem i_Lw_law_1126 : iIns M_Lw_law 1126 (.iload 5) 2 := (by decide +kernel : decode code 1126 = .ok (.iload 5, 2))
theorem i_Lw_law_1128 : iIns M_Lw_law 1128 (.iconst 1) 1 := (by decide +kernel : decode code 1128 = .ok (.iconst 1, 1))
theorem i_Lw_law_1129 : iIns M_Lw_law 1129 .iadd 1 := (by decide +kernel : decode code 1129 = .ok (.iadd, 1))
theorem i_Lw_law_1130 : iIns M_Lw_law 1130 .iaload 1 := (by decide +kernel : decode code 1130 = .ok (.iaload, 1))
theorem i_Lw_law_1131 : iIns M_Lw_law 1131 (.aload_n 0) 1 := (by decide +kernel : decode code 1131 = .ok (.aload_n 0, 1))
theorem i_Lw_law_1132 : iIns M_Lw_law 1132 (.iload 5) 2 := (by decide +kernel : decode code 1132 = .ok (.iload 5, 2))
theorem i_Lw_law_1134 : iIns M_Lw_law 1134 (.iconst 2) 1 := (by decide +kernel : decode code 1134 = .ok (.iconst 2, 1))
theorem i_Lw_law_1135 : iIns M_Lw_law 1135 .iadd 1 := (by decide +kernel : decode code 1135 = .ok (.iadd, 1))
theorem i_Lw_law_1136 : iIns M_Lw_law 1136 .iaload 1 := (by decide +kernel : decode code 1136 = .ok (.iaload, 1))
theorem i_Lw_law_1137 : iIns M_Lw_law 1137 (.aload_n 0) 1 := (by decide +kernel : decode code 1137 = .ok (.aload_n 0, 1))
theorem i_Lw_law_1138 : iIns M_Lw_law 1138 (.iload 5) 2 := (by decide +kernel : decode code 1138 = .ok (.iload 5, 2))
theorem i_Lw_law_1140 : iIns M_Lw_law 1140 (.iconst 3) 1 := (by decide +kernel : decode code 1140 = .ok (.iconst 3, 1))
theorem i_Lw_law_1141 : iIns M_Lw_law 1141 .iadd 1 := (by decide +kernel : decode code 1141 = .ok (.iadd, 1))
theorem i_Lw_law_1142 : iIns M_Lw_law 1142 .iaload 1 := (by decide +kernel : decode code 1142 = .ok (.iaload, 1))
theorem i_Lw_law_1143 : iCallV M_Lw_law 1143 M_Md_countAfter 3 14 := ⟨⟨199, (by decide +kernel : decode code 1143 = .ok (.invokevirtual 199, 3)), lw_k7 46 rfl rfl⟩, vm_Md_countAfter, me_Md_countAfter, pn_Md_countAfter⟩
theorem i_Lw_law_1146 : iIns M_Lw_law 1146 (.lstore 7) 2 := (by decide +kernel : decode code 1146 = .ok (.lstore 7, 2))
theorem i_Lw_law_1148 : iIns M_Lw_law 1148 (.aload_n 2) 1 := (by decide +kernel : decode code 1148 = .ok (.aload_n 2, 1))
theorem i_Lw_law_1149 : iCallV M_Lw_law 1149 M_Md_thrown 0 14 := ⟨⟨138, (by decide +kernel : decode code 1149 = .ok (.invokevirtual 138, 3)), lw_k6 133 rfl rfl⟩, vm_Md_thrown, me_Md_thrown, pn_Md_thrown⟩
theorem i_Lw_law_1152 : iIns M_Lw_law 1152 (.iload 6) 2 := (by decide +kernel : decode code 1152 = .ok (.iload 6, 2))
theorem i_Lw_law_1154 : iIcmp M_Lw_law 1154 .eq 1159 := ⟨5, (by decide +kernel : decode code 1154 = .ok (.if_icmp .eq (5), 3)), by decide⟩
theorem i_Lw_law_1157 : iIns M_Lw_law 1157 (.iconst 0) 1 := (by decide +kernel : decode code 1157 = .ok (.iconst 0, 1))
theorem i_Lw_law_1158 : iIns M_Lw_law 1158 .ireturn 1 := (by decide +kernel : decode code 1158 = .ok (.ireturn, 1))
theorem i_Lw_law_1159 : iIns M_Lw_law 1159 (.iload 6) 2 := (by decide +kernel : decode code 1159 = .ok (.iload 6, 2))
theorem i_Lw_law_1161 : iIf M_Lw_law 1161 .ne 1175 := ⟨14, (by decide +kernel : decode code 1161 = .ok (.ifCond .ne (14), 3)), by decide⟩
theorem i_Lw_law_1164 : iIns M_Lw_law 1164 (.aload_n 3) 1 := (by decide +kernel : decode code 1164 = .ok (.aload_n 3, 1))
theorem i_Lw_law_1165 : iIns M_Lw_law 1165 (.iconst 0) 1 := (by decide +kernel : decode code 1165 = .ok (.iconst 0, 1))
theorem i_Lw_law_1166 : iIns M_Lw_law 1166 .laload 1 := (by decide +kernel : decode code 1166 = .ok (.laload, 1))
theorem i_Lw_law_1167 : iIns M_Lw_law 1167 (.lload 7) 2 := (by decide +kernel : decode code 1167 = .ok (.lload 7, 2))
theorem i_Lw_law_1169 : iIns M_Lw_law 1169 .lcmp 1 := (by decide +kernel : decode code 1169 = .ok (.lcmp, 1))
theorem i_Lw_law_1170 : iIf M_Lw_law 1170 .eq 1175 := ⟨5, (by decide +kernel : decode code 1170 = .ok (.ifCond .eq (5), 3)), by decide⟩
theorem i_Lw_law_1173 : iIns M_Lw_law 1173 (.iconst 0) 1 := (by decide +kernel : decode code 1173 = .ok (.iconst 0, 1))
theorem i_Lw_law_1174 : iIns M_Lw_law 1174 .ireturn 1 := (by decide +kernel : decode code 1174 = .ok (.ireturn, 1))
theorem i_Lw_law_1175 : iGoto M_Lw_law 1175 2266 := ⟨1091, (by decide +kernel : decode code 1175 = .ok (.goto (1091), 3)), by decide⟩
theorem i_Lw_law_1178 : iIns M_Lw_law 1178 (.aload_n 1) 1 := (by decide +kernel : decode code 1178 = .ok (.aload_n 1, 1))
theorem i_Lw_law_1179 : iIns M_Lw_law 1179 (.aload_n 0) 1 := (by decide +kernel : decode code 1179 = .ok (.aload_n 0, 1))
theorem i_Lw_law_1180 : iIns M_Lw_law 1180 (.iload 5) 2 := (by decide +kernel : decode code 1180 = .ok (.iload 5, 2))
theorem i_Lw_law_1182 : iIns M_Lw_law 1182 (.iconst 1) 1 := (by decide +kernel : decode code 1182 = .ok (.iconst 1, 1))
theorem i_Lw_law_1183 : iIns M_Lw_law 1183 .iadd 1 := (by decide +kernel : decode code 1183 = .ok (.iadd, 1))
theorem i_Lw_law_1184 : iIns M_Lw_law 1184 .iaload 1 := (by decide +kernel : decode code 1184 = .ok (.iaload, 1))
theorem i_Lw_law_1185 : iIns M_Lw_law 1185 (.aload_n 3) 1 := (by decide +kernel : decode code 1185 = .ok (.aload_n 3, 1))
theorem i_Lw_law_1186 : iCallSH M_Lw_law 1186 M_Lw_growthKind 3 := ⟨⟨200, (by decide +kernel : decode code 1186 = .ok (.invokestatic 200, 3)), lw_k4 73 rfl rfl⟩, sm_Lw_growthKind, me_Lw_growthKind, by decide, CW_Lw_growthKind⟩
theorem i_Lw_law_1189 : iIns M_Lw_law 1189 (.istore 6) 2 := (by decide +kernel : decode code 1189 = .ok (.istore 6, 2))
theorem i_Lw_law_1191 : iIns M_Lw_law 1191 (.aload_n 2) 1 := (by decide +kernel : decode code 1191 = .ok (.aload_n 2, 1))
theorem i_Lw_law_1192 : iIns M_Lw_law 1192 (.aload_n 0) 1 := (by decide +kernel : decode code 1192 = .ok (.aload_n 0, 1))
theorem i_Lw_law_1193 : iIns M_Lw_law 1193 (.iload 5) 2 := (by decide +kernel : decode code 1193 = .ok (.iload 5, 2))
theorem i_Lw_law_1195 : iIns M_Lw_law 1195 (.iconst 1) 1 := (by decide +kernel : decode code 1195 = .ok (.iconst 1, 1))
theorem i_Lw_law_1196 : iIns M_Lw_law 1196 .iadd 1 := (by decide +kernel : decode code 1196 = .ok (.iadd, 1))
theorem i_Lw_law_1197 : iIns M_Lw_law 1197 .iaload 1 := (by decide +kernel : decode code 1197 = .ok (.iaload, 1))
theorem i_Lw_law_1198 : iCallV M_Lw_law 1198 M_Md_growthKind 1 14 := ⟨⟨202, (by decide +kernel : decode code 1198 = .ok (.invokevirtual 202, 3)), lw_k7 50 rfl rfl⟩, vm_Md_growthKind, me_Md_growthKind, pn_Md_growthKind⟩
theorem i_Lw_law_1201 : iIns M_Lw_law 1201 (.istore 7) 2 := (by decide +kernel : decode code 1201 = .ok (.istore 7, 2))
theorem i_Lw_law_1203 : iIns M_Lw_law 1203 (.aload_n 2) 1 := (by decide +kernel : decode code 1203 = .ok (.aload_n 2, 1))
theorem i_Lw_law_1204 : iCallV M_Lw_law 1204 M_Md_thrown 0 14 := ⟨⟨138, (by decide +kernel : decode code 1204 = .ok (.invokevirtual 138, 3)), lw_k6 133 rfl rfl⟩, vm_Md_thrown, me_Md_thrown, pn_Md_thrown⟩
theorem i_Lw_law_1207 : iIns M_Lw_law 1207 (.iload 6) 2 := (by decide +kernel : decode code 1207 = .ok (.iload 6, 2))
theorem i_Lw_law_1209 : iIcmp M_Lw_law 1209 .eq 1214 := ⟨5, (by decide +kernel : decode code 1209 = .ok (.if_icmp .eq (5), 3)), by decide⟩
theorem i_Lw_law_1212 : iIns M_Lw_law 1212 (.iconst 0) 1 := (by decide +kernel : decode code 1212 = .ok (.iconst 0, 1))
theorem i_Lw_law_1213 : iIns M_Lw_law 1213 .ireturn 1 := (by decide +kernel : decode code 1213 = .ok (.ireturn, 1))
theorem i_Lw_law_1214 : iIns M_Lw_law 1214 (.iload 6) 2 := (by decide +kernel : decode code 1214 = .ok (.iload 6, 2))
theorem i_Lw_law_1216 : iIf M_Lw_law 1216 .ne 1231 := ⟨15, (by decide +kernel : decode code 1216 = .ok (.ifCond .ne (15), 3)), by decide⟩
theorem i_Lw_law_1219 : iIns M_Lw_law 1219 (.aload_n 3) 1 := (by decide +kernel : decode code 1219 = .ok (.aload_n 3, 1))
theorem i_Lw_law_1220 : iIns M_Lw_law 1220 (.iconst 0) 1 := (by decide +kernel : decode code 1220 = .ok (.iconst 0, 1))
theorem i_Lw_law_1221 : iIns M_Lw_law 1221 .laload 1 := (by decide +kernel : decode code 1221 = .ok (.laload, 1))
theorem i_Lw_law_1222 : iIns M_Lw_law 1222 (.iload 7) 2 := (by decide +kernel : decode code 1222 = .ok (.iload 7, 2))
theorem i_Lw_law_1224 : iIns M_Lw_law 1224 .i2l 1 := (by decide +kernel : decode code 1224 = .ok (.i2l, 1))
theorem i_Lw_law_1225 : iIns M_Lw_law 1225 .lcmp 1 := (by decide +kernel : decode code 1225 = .ok (.lcmp, 1))
theorem i_Lw_law_1226 : iIf M_Lw_law 1226 .eq 1231 := ⟨5, (by decide +kernel : decode code 1226 = .ok (.ifCond .eq (5), 3)), by decide⟩
theorem i_Lw_law_1229 : iIns M_Lw_law 1229 (.iconst 0) 1 := (by decide +kernel : decode code 1229 = .ok (.iconst 0, 1))
theorem i_Lw_law_1230 : iIns M_Lw_law 1230 .ireturn 1 := (by decide +kernel : decode code 1230 = .ok (.ireturn, 1))
theorem i_Lw_law_1231 : iGoto M_Lw_law 1231 2266 := ⟨1035, (by decide +kernel : decode code 1231 = .ok (.goto (1035), 3)), by decide⟩
theorem i_Lw_law_1234 : iIns M_Lw_law 1234 (.aload_n 1) 1 := (by decide +kernel : decode code 1234 = .ok (.aload_n 1, 1))
theorem i_Lw_law_1235 : iIns M_Lw_law 1235 (.aload_n 0) 1 := (by decide +kernel : decode code 1235 = .ok (.aload_n 0, 1))
theorem i_Lw_law_1236 : iIns M_Lw_law 1236 (.iload 5) 2 := (by decide +kernel : decode code 1236 = .ok (.iload 5, 2))
theorem i_Lw_law_1238 : iIns M_Lw_law 1238 (.iconst 1) 1 := (by decide +kernel : decode code 1238 = .ok (.iconst 1, 1))
theorem i_Lw_law_1239 : iIns M_Lw_law 1239 .iadd 1 := (by decide +kernel : decode code 1239 = .ok (.iadd, 1))
theorem i_Lw_law_1240 : iIns M_Lw_law 1240 .iaload 1 := (by decide +kernel : decode code 1240 = .ok (.iaload, 1))
theorem i_Lw_law_1241 : iIns M_Lw_law 1241 (.aload_n 3) 1 := (by decide +kernel : decode code 1241 = .ok (.aload_n 3, 1))
theorem i_Lw_law_1242 : iCallSH M_Lw_law 1242 M_Lw_growthDegree 3 := ⟨⟨203, (by decide +kernel : decode code 1242 = .ok (.invokestatic 203, 3)), lw_k4 111 rfl rfl⟩, sm_Lw_growthDegree, me_Lw_growthDegree, by decide, CW_Lw_growthDegree⟩
theorem i_Lw_law_1245 : iIns M_Lw_law 1245 (.istore 6) 2 := (by decide +kernel : decode code 1245 = .ok (.istore 6, 2))
theorem i_Lw_law_1247 : iIns M_Lw_law 1247 (.aload_n 2) 1 := (by decide +kernel : decode code 1247 = .ok (.aload_n 2, 1))
theorem i_Lw_law_1248 : iIns M_Lw_law 1248 (.aload_n 0) 1 := (by decide +kernel : decode code 1248 = .ok (.aload_n 0, 1))
theorem i_Lw_law_1249 : iIns M_Lw_law 1249 (.iload 5) 2 := (by decide +kernel : decode code 1249 = .ok (.iload 5, 2))
theorem i_Lw_law_1251 : iIns M_Lw_law 1251 (.iconst 1) 1 := (by decide +kernel : decode code 1251 = .ok (.iconst 1, 1))
theorem i_Lw_law_1252 : iIns M_Lw_law 1252 .iadd 1 := (by decide +kernel : decode code 1252 = .ok (.iadd, 1))
theorem i_Lw_law_1253 : iIns M_Lw_law 1253 .iaload 1 := (by decide +kernel : decode code 1253 = .ok (.iaload, 1))
theorem i_Lw_law_1254 : iCallV M_Lw_law 1254 M_Md_growthDegree 1 14 := ⟨⟨205, (by decide +kernel : decode code 1254 = .ok (.invokevirtual 205, 3)), lw_k7 75 rfl rfl⟩, vm_Md_growthDegree, me_Md_growthDegree, pn_Md_growthDegree⟩
theorem i_Lw_law_1257 : iIns M_Lw_law 1257 (.istore 7) 2 := (by decide +kernel : decode code 1257 = .ok (.istore 7, 2))
theorem i_Lw_law_1259 : iIns M_Lw_law 1259 (.aload_n 2) 1 := (by decide +kernel : decode code 1259 = .ok (.aload_n 2, 1))
theorem i_Lw_law_1260 : iCallV M_Lw_law 1260 M_Md_thrown 0 14 := ⟨⟨138, (by decide +kernel : decode code 1260 = .ok (.invokevirtual 138, 3)), lw_k6 133 rfl rfl⟩, vm_Md_thrown, me_Md_thrown, pn_Md_thrown⟩
theorem i_Lw_law_1263 : iIns M_Lw_law 1263 (.iload 6) 2 := (by decide +kernel : decode code 1263 = .ok (.iload 6, 2))
theorem i_Lw_law_1265 : iIcmp M_Lw_law 1265 .eq 1270 := ⟨5, (by decide +kernel : decode code 1265 = .ok (.if_icmp .eq (5), 3)), by decide⟩
theorem i_Lw_law_1268 : iIns M_Lw_law 1268 (.iconst 0) 1 := (by decide +kernel : decode code 1268 = .ok (.iconst 0, 1))
theorem i_Lw_law_1269 : iIns M_Lw_law 1269 .ireturn 1 := (by decide +kernel : decode code 1269 = .ok (.ireturn, 1))
theorem i_Lw_law_1270 : iIns M_Lw_law 1270 (.iload 6) 2 := (by decide +kernel : decode code 1270 = .ok (.iload 6, 2))
theorem i_Lw_law_1272 : iIf M_Lw_law 1272 .ne 1287 := ⟨15, (by decide +kernel : decode code 1272 = .ok (.ifCond .ne (15), 3)), by decide⟩
theorem i_Lw_law_1275 : iIns M_Lw_law 1275 (.aload_n 3) 1 := (by decide +kernel : decode code 1275 = .ok (.aload_n 3, 1))
theorem i_Lw_law_1276 : iIns M_Lw_law 1276 (.iconst 0) 1 := (by decide +kernel : decode code 1276 = .ok (.iconst 0, 1))
theorem i_Lw_law_1277 : iIns M_Lw_law 1277 .laload 1 := (by decide +kernel : decode code 1277 = .ok (.laload, 1))
theorem i_Lw_law_1278 : iIns M_Lw_law 1278 (.iload 7) 2 := (by decide +kernel : decode code 1278 = .ok (.iload 7, 2))
theorem i_Lw_law_1280 : iIns M_Lw_law 1280 .i2l 1 := (by decide +kernel : decode code 1280 = .ok (.i2l, 1))
theorem i_Lw_law_1281 : iIns M_Lw_law 1281 .lcmp 1 := (by decide +kernel : decode code 1281 = .ok (.lcmp, 1))
theorem i_Lw_law_1282 : iIf M_Lw_law 1282 .eq 1287 := ⟨5, (by decide +kernel : decode code 1282 = .ok (.ifCond .eq (5), 3)), by decide⟩
theorem i_Lw_law_1285 : iIns M_Lw_law 1285 (.iconst 0) 1 := (by decide +kernel : decode code 1285 = .ok (.iconst 0, 1))
theorem i_Lw_law_1286 : iIns M_Lw_law 1286 .ireturn 1 := (by decide +kernel : decode code 1286 = .ok (.ireturn, 1))
theorem i_Lw_law_1287 : iGoto M_Lw_law 1287 2266 := ⟨979, (by decide +kernel : decode code 1287 = .ok (.goto (979), 3)), by decide⟩
theorem i_Lw_law_1290 : iIns M_Lw_law 1290 (.aload_n 1) 1 := (by decide +kernel : decode code 1290 = .ok (.aload_n 1, 1))
theorem i_Lw_law_1291 : iIns M_Lw_law 1291 (.aload_n 0) 1 := (by decide +kernel : decode code 1291 = .ok (.aload_n 0, 1))
theorem i_Lw_law_1292 : iIns M_Lw_law 1292 (.iload 5) 2 := (by decide +kernel : decode code 1292 = .ok (.iload 5, 2))
theorem i_Lw_law_1294 : iIns M_Lw_law 1294 (.iconst 1) 1 := (by decide +kernel : decode code 1294 = .ok (.iconst 1, 1))
theorem i_Lw_law_1295 : iIns M_Lw_law 1295 .iadd 1 := (by decide +kernel : decode code 1295 = .ok (.iadd, 1))
theorem i_Lw_law_1296 : iIns M_Lw_law 1296 .iaload 1 := (by decide +kernel : decode code 1296 = .ok (.iaload, 1))
theorem i_Lw_law_1297 : iIns M_Lw_law 1297 (.aload_n 3) 1 := (by decide +kernel : decode code 1297 = .ok (.aload_n 3, 1))
theorem i_Lw_law_1298 : iCallSH M_Lw_law 1298 M_Lw_recurrenceOrder 3 := ⟨⟨206, (by decide +kernel : decode code 1298 = .ok (.invokestatic 206, 3)), lw_k4 120 rfl rfl⟩, sm_Lw_recurrenceOrder, me_Lw_recurrenceOrder, by decide, CW_Lw_recurrenceOrder⟩
theorem i_Lw_law_1301 : iIns M_Lw_law 1301 (.istore 6) 2 := (by decide +kernel : decode code 1301 = .ok (.istore 6, 2))
theorem i_Lw_law_1303 : iIns M_Lw_law 1303 (.aload_n 2) 1 := (by decide +kernel : decode code 1303 = .ok (.aload_n 2, 1))
theorem i_Lw_law_1304 : iIns M_Lw_law 1304 (.aload_n 0) 1 := (by decide +kernel : decode code 1304 = .ok (.aload_n 0, 1))
theorem i_Lw_law_1305 : iIns M_Lw_law 1305 (.iload 5) 2 := (by decide +kernel : decode code 1305 = .ok (.iload 5, 2))
theorem i_Lw_law_1307 : iIns M_Lw_law 1307 (.iconst 1) 1 := (by decide +kernel : decode code 1307 = .ok (.iconst 1, 1))
theorem i_Lw_law_1308 : iIns M_Lw_law 1308 .iadd 1 := (by decide +kernel : decode code 1308 = .ok (.iadd, 1))
theorem i_Lw_law_1309 : iIns M_Lw_law 1309 .iaload 1 := (by decide +kernel : decode code 1309 = .ok (.iaload, 1))
theorem i_Lw_law_1310 : iCallV M_Lw_law 1310 M_Md_recurrenceOrder 1 14 := ⟨⟨208, (by decide +kernel : decode code 1310 = .ok (.invokevirtual 208, 3)), lw_k7 79 rfl rfl⟩, vm_Md_recurrenceOrder, me_Md_recurrenceOrder, pn_Md_recurrenceOrder⟩
theorem i_Lw_law_1313 : iIns M_Lw_law 1313 (.istore 7) 2 := (by decide +kernel : decode code 1313 = .ok (.istore 7, 2))
theorem i_Lw_law_1315 : iIns M_Lw_law 1315 (.aload_n 2) 1 := (by decide +kernel : decode code 1315 = .ok (.aload_n 2, 1))
theorem i_Lw_law_1316 : iCallV M_Lw_law 1316 M_Md_thrown 0 14 := ⟨⟨138, (by decide +kernel : decode code 1316 = .ok (.invokevirtual 138, 3)), lw_k6 133 rfl rfl⟩, vm_Md_thrown, me_Md_thrown, pn_Md_thrown⟩
theorem i_Lw_law_1319 : iIns M_Lw_law 1319 (.iload 6) 2 := (by decide +kernel : decode code 1319 = .ok (.iload 6, 2))
theorem i_Lw_law_1321 : iIcmp M_Lw_law 1321 .eq 1326 := ⟨5, (by decide +kernel : decode code 1321 = .ok (.if_icmp .eq (5), 3)), by decide⟩
theorem i_Lw_law_1324 : iIns M_Lw_law 1324 (.iconst 0) 1 := (by decide +kernel : decode code 1324 = .ok (.iconst 0, 1))
theorem i_Lw_law_1325 : iIns M_Lw_law 1325 .ireturn 1 := (by decide +kernel : decode code 1325 = .ok (.ireturn, 1))
theorem i_Lw_law_1326 : iIns M_Lw_law 1326 (.iload 6) 2 := (by decide +kernel : decode code 1326 = .ok (.iload 6, 2))
theorem i_Lw_law_1328 : iIf M_Lw_law 1328 .ne 1343 := ⟨15, (by decide +kernel : decode code 1328 = .ok (.ifCond .ne (15), 3)), by decide⟩
theorem i_Lw_law_1331 : iIns M_Lw_law 1331 (.aload_n 3) 1 := (by decide +kernel : decode code 1331 = .ok (.aload_n 3, 1))
theorem i_Lw_law_1332 : iIns M_Lw_law 1332 (.iconst 0) 1 := (by decide +kernel : decode code 1332 = .ok (.iconst 0, 1))
theorem i_Lw_law_1333 : iIns M_Lw_law 1333 .laload 1 := (by decide +kernel : decode code 1333 = .ok (.laload, 1))
theorem i_Lw_law_1334 : iIns M_Lw_law 1334 (.iload 7) 2 := (by decide +kernel : decode code 1334 = .ok (.iload 7, 2))
theorem i_Lw_law_1336 : iIns M_Lw_law 1336 .i2l 1 := (by decide +kernel : decode code 1336 = .ok (.i2l, 1))
theorem i_Lw_law_1337 : iIns M_Lw_law 1337 .lcmp 1 := (by decide +kernel : decode code 1337 = .ok (.lcmp, 1))
theorem i_Lw_law_1338 : iIf M_Lw_law 1338 .eq 1343 := ⟨5, (by decide +kernel : decode code 1338 = .ok (.ifCond .eq (5), 3)), by decide⟩
theorem i_Lw_law_1341 : iIns M_Lw_law 1341 (.iconst 0) 1 := (by decide +kernel : decode code 1341 = .ok (.iconst 0, 1))
theorem i_Lw_law_1342 : iIns M_Lw_law 1342 .ireturn 1 := (by decide +kernel : decode code 1342 = .ok (.ireturn, 1))
theorem i_Lw_law_1343 : iGoto M_Lw_law 1343 2266 := ⟨923, (by decide +kernel : decode code 1343 = .ok (.goto (923), 3)), by decide⟩
theorem i_Lw_law_1346 : iIns M_Lw_law 1346 (.aload_n 1) 1 := (by decide +kernel : decode code 1346 = .ok (.aload_n 1, 1))
theorem i_Lw_law_1347 : iIns M_Lw_law 1347 (.aload_n 0) 1 := (by decide +kernel : decode code 1347 = .ok (.aload_n 0, 1))
theorem i_Lw_law_1348 : iIns M_Lw_law 1348 (.iload 5) 2 := (by decide +kernel : decode code 1348 = .ok (.iload 5, 2))
theorem i_Lw_law_1350 : iIns M_Lw_law 1350 (.iconst 1) 1 := (by decide +kernel : decode code 1350 = .ok (.iconst 1, 1))
theorem i_Lw_law_1351 : iIns M_Lw_law 1351 .iadd 1 := (by decide +kernel : decode code 1351 = .ok (.iadd, 1))
theorem i_Lw_law_1352 : iIns M_Lw_law 1352 .iaload 1 := (by decide +kernel : decode code 1352 = .ok (.iaload, 1))
theorem i_Lw_law_1353 : iIns M_Lw_law 1353 (.aload_n 0) 1 := (by decide +kernel : decode code 1353 = .ok (.aload_n 0, 1))
theorem i_Lw_law_1354 : iIns M_Lw_law 1354 (.iload 5) 2 := (by decide +kernel : decode code 1354 = .ok (.iload 5, 2))
theorem i_Lw_law_1356 : iIns M_Lw_law 1356 (.iconst 2) 1 := (by decide +kernel : decode code 1356 = .ok (.iconst 2, 1))
theorem i_Lw_law_1357 : iIns M_Lw_law 1357 .iadd 1 := (by decide +kernel : decode code 1357 = .ok (.iadd, 1))
theorem i_Lw_law_1358 : iIns M_Lw_law 1358 .iaload 1 := (by decide +kernel : decode code 1358 = .ok (.iaload, 1))
theorem i_Lw_law_1359 : iIns M_Lw_law 1359 (.aload_n 3) 1 := (by decide +kernel : decode code 1359 = .ok (.aload_n 3, 1))
theorem i_Lw_law_1360 : iCallSH M_Lw_law 1360 M_Lw_recurrenceCoefficient 4 := ⟨⟨209, (by decide +kernel : decode code 1360 = .ok (.invokestatic 209, 3)), lw_k4 154 rfl rfl⟩, sm_Lw_recurrenceCoefficient, me_Lw_recurrenceCoefficient, by decide, CW_Lw_recurrenceCoefficient⟩
theorem i_Lw_law_1363 : iIns M_Lw_law 1363 (.istore 6) 2 := (by decide +kernel : decode code 1363 = .ok (.istore 6, 2))
theorem i_Lw_law_1365 : iIns M_Lw_law 1365 (.aload_n 2) 1 := (by decide +kernel : decode code 1365 = .ok (.aload_n 2, 1))
theorem i_Lw_law_1366 : iIns M_Lw_law 1366 (.aload_n 0) 1 := (by decide +kernel : decode code 1366 = .ok (.aload_n 0, 1))
theorem i_Lw_law_1367 : iIns M_Lw_law 1367 (.iload 5) 2 := (by decide +kernel : decode code 1367 = .ok (.iload 5, 2))
theorem i_Lw_law_1369 : iIns M_Lw_law 1369 (.iconst 1) 1 := (by decide +kernel : decode code 1369 = .ok (.iconst 1, 1))
theorem i_Lw_law_1370 : iIns M_Lw_law 1370 .iadd 1 := (by decide +kernel : decode code 1370 = .ok (.iadd, 1))
theorem i_Lw_law_1371 : iIns M_Lw_law 1371 .iaload 1 := (by decide +kernel : decode code 1371 = .ok (.iaload, 1))
theorem i_Lw_law_1372 : iIns M_Lw_law 1372 (.aload_n 0) 1 := (by decide +kernel : decode code 1372 = .ok (.aload_n 0, 1))
theorem i_Lw_law_1373 : iIns M_Lw_law 1373 (.iload 5) 2 := (by decide +kernel : decode code 1373 = .ok (.iload 5, 2))
theorem i_Lw_law_1375 : iIns M_Lw_law 1375 (.iconst 2) 1 := (by decide +kernel : decode code 1375 = .ok (.iconst 2, 1))
theorem i_Lw_law_1376 : iIns M_Lw_law 1376 .iadd 1 := (by decide +kernel : decode code 1376 = .ok (.iadd, 1))
theorem i_Lw_law_1377 : iIns M_Lw_law 1377 .iaload 1 := (by decide +kernel : decode code 1377 = .ok (.iaload, 1))
theorem i_Lw_law_1378 : iCallV M_Lw_law 1378 M_Md_recurrenceCoefficient 2 14 := ⟨⟨211, (by decide +kernel : decode code 1378 = .ok (.invokevirtual 211, 3)), lw_k7 102 rfl rfl⟩, vm_Md_recurrenceCoefficient, me_Md_recurrenceCoefficient, pn_Md_recurrenceCoefficient⟩
theorem i_Lw_law_1381 : iIns M_Lw_law 1381 (.istore 7) 2 := (by decide +kernel : decode code 1381 = .ok (.istore 7, 2))
theorem i_Lw_law_1383 : iIns M_Lw_law 1383 (.aload_n 2) 1 := (by decide +kernel : decode code 1383 = .ok (.aload_n 2, 1))
theorem i_Lw_law_1384 : iCallV M_Lw_law 1384 M_Md_thrown 0 14 := ⟨⟨138, (by decide +kernel : decode code 1384 = .ok (.invokevirtual 138, 3)), lw_k6 133 rfl rfl⟩, vm_Md_thrown, me_Md_thrown, pn_Md_thrown⟩
theorem i_Lw_law_1387 : iIns M_Lw_law 1387 (.iload 6) 2 := (by decide +kernel : decode code 1387 = .ok (.iload 6, 2))
theorem i_Lw_law_1389 : iIcmp M_Lw_law 1389 .eq 1394 := ⟨5, (by decide +kernel : decode code 1389 = .ok (.if_icmp .eq (5), 3)), by decide⟩
theorem i_Lw_law_1392 : iIns M_Lw_law 1392 (.iconst 0) 1 := (by decide +kernel : decode code 1392 = .ok (.iconst 0, 1))
theorem i_Lw_law_1393 : iIns M_Lw_law 1393 .ireturn 1 := (by decide +kernel : decode code 1393 = .ok (.ireturn, 1))
theorem i_Lw_law_1394 : iIns M_Lw_law 1394 (.iload 6) 2 := (by decide +kernel : decode code 1394 = .ok (.iload 6, 2))
theorem i_Lw_law_1396 : iIf M_Lw_law 1396 .ne 1411 := ⟨15, (by decide +kernel : decode code 1396 = .ok (.ifCond .ne (15), 3)), by decide⟩
theorem i_Lw_law_1399 : iIns M_Lw_law 1399 (.aload_n 3) 1 := (by decide +kernel : decode code 1399 = .ok (.aload_n 3, 1))
theorem i_Lw_law_1400 : iIns M_Lw_law 1400 (.iconst 0) 1 := (by decide +kernel : decode code 1400 = .ok (.iconst 0, 1))
theorem i_Lw_law_1401 : iIns M_Lw_law 1401 .laload 1 := (by decide +kernel : decode code 1401 = .ok (.laload, 1))
theorem i_Lw_law_1402 : iIns M_Lw_law 1402 (.iload 7) 2 := (by decide +kernel : decode code 1402 = .ok (.iload 7, 2))
theorem i_Lw_law_1404 : iIns M_Lw_law 1404 .i2l 1 := (by decide +kernel : decode code 1404 = .ok (.i2l, 1))
theorem i_Lw_law_1405 : iIns M_Lw_law 1405 .lcmp 1 := (by decide +kernel : decode code 1405 = .ok (.lcmp, 1))
theorem i_Lw_law_1406 : iIf M_Lw_law 1406 .eq 1411 := ⟨5, (by decide +kernel : decode code 1406 = .ok (.ifCond .eq (5), 3)), by decide⟩
theorem i_Lw_law_1409 : iIns M_Lw_law 1409 (.iconst 0) 1 := (by decide +kernel : decode code 1409 = .ok (.iconst 0, 1))
theorem i_Lw_law_1410 : iIns M_Lw_law 1410 .ireturn 1 := (by decide +kernel : decode code 1410 = .ok (.ireturn, 1))
theorem i_Lw_law_1411 : iGoto M_Lw_law 1411 2266 := ⟨855, (by decide +kernel : decode code 1411 = .ok (.goto (855), 3)), by decide⟩
theorem i_Lw_law_1414 : iIns M_Lw_law 1414 (.aload_n 1) 1 := (by decide +kernel : decode code 1414 = .ok (.aload_n 1, 1))
theorem i_Lw_law_1415 : iIns M_Lw_law 1415 (.aload_n 0) 1 := (by decide +kernel : decode code 1415 = .ok (.aload_n 0, 1))
theorem i_Lw_law_1416 : iIns M_Lw_law 1416 (.iload 5) 2 := (by decide +kernel : decode code 1416 = .ok (.iload 5, 2))
theorem i_Lw_law_1418 : iIns M_Lw_law 1418 (.iconst 1) 1 := (by decide +kernel : decode code 1418 = .ok (.iconst 1, 1))
theorem i_Lw_law_1419 : iIns M_Lw_law 1419 .iadd 1 := (by decide +kernel : decode code 1419 = .ok (.iadd, 1))
theorem i_Lw_law_1420 : iIns M_Lw_law 1420 .iaload 1 := (by decide +kernel : decode code 1420 = .ok (.iaload, 1))
theorem i_Lw_law_1421 : iIns M_Lw_law 1421 (.aload_n 3) 1 := (by decide +kernel : decode code 1421 = .ok (.aload_n 3, 1))
theorem i_Lw_law_1422 : iCallSH M_Lw_law 1422 M_Lw_isAdult 3 := ⟨⟨212, (by decide +kernel : decode code 1422 = .ok (.invokestatic 212, 3)), lw_k4 182 rfl rfl⟩, sm_Lw_isAdult, me_Lw_isAdult, by decide, CW_Lw_isAdult⟩
theorem i_Lw_law_1425 : iIns M_Lw_law 1425 (.istore 6) 2 := (by decide +kernel : decode code 1425 = .ok (.istore 6, 2))
theorem i_Lw_law_1427 : iIns M_Lw_law 1427 (.aload_n 2) 1 := (by decide +kernel : decode code 1427 = .ok (.aload_n 2, 1))
theorem i_Lw_law_1428 : iIns M_Lw_law 1428 (.aload_n 0) 1 := (by decide +kernel : decode code 1428 = .ok (.aload_n 0, 1))
theorem i_Lw_law_1429 : iIns M_Lw_law 1429 (.iload 5) 2 := (by decide +kernel : decode code 1429 = .ok (.iload 5, 2))
theorem i_Lw_law_1431 : iIns M_Lw_law 1431 (.iconst 1) 1 := (by decide +kernel : decode code 1431 = .ok (.iconst 1, 1))
theorem i_Lw_law_1432 : iIns M_Lw_law 1432 .iadd 1 := (by decide +kernel : decode code 1432 = .ok (.iadd, 1))
theorem i_Lw_law_1433 : iIns M_Lw_law 1433 .iaload 1 := (by decide +kernel : decode code 1433 = .ok (.iaload, 1))
theorem i_Lw_law_1434 : iCallV M_Lw_law 1434 M_Md_isAdult 1 14 := ⟨⟨214, (by decide +kernel : decode code 1434 = .ok (.invokevirtual 214, 3)), lw_k7 106 rfl rfl⟩, vm_Md_isAdult, me_Md_isAdult, pn_Md_isAdult⟩
theorem i_Lw_law_1437 : iIns M_Lw_law 1437 (.istore 7) 2 := (by decide +kernel : decode code 1437 = .ok (.istore 7, 2))
theorem i_Lw_law_1439 : iIns M_Lw_law 1439 (.aload_n 2) 1 := (by decide +kernel : decode code 1439 = .ok (.aload_n 2, 1))
theorem i_Lw_law_1440 : iCallV M_Lw_law 1440 M_Md_thrown 0 14 := ⟨⟨138, (by decide +kernel : decode code 1440 = .ok (.invokevirtual 138, 3)), lw_k6 133 rfl rfl⟩, vm_Md_thrown, me_Md_thrown, pn_Md_thrown⟩
theorem i_Lw_law_1443 : iIns M_Lw_law 1443 (.iload 6) 2 := (by decide +kernel : decode code 1443 = .ok (.iload 6, 2))
theorem i_Lw_law_1445 : iIcmp M_Lw_law 1445 .eq 1450 := ⟨5, (by decide +kernel : decode code 1445 = .ok (.if_icmp .eq (5), 3)), by decide⟩
theorem i_Lw_law_1448 : iIns M_Lw_law 1448 (.iconst 0) 1 := (by decide +kernel : decode code 1448 = .ok (.iconst 0, 1))
theorem i_Lw_law_1449 : iIns M_Lw_law 1449 .ireturn 1 := (by decide +kernel : decode code 1449 = .ok (.ireturn, 1))
theorem i_Lw_law_1450 : iIns M_Lw_law 1450 (.iload 6) 2 := (by decide +kernel : decode code 1450 = .ok (.iload 6, 2))
theorem i_Lw_law_1452 : iIf M_Lw_law 1452 .ne 1474 := ⟨22, (by decide +kernel : decode code 1452 = .ok (.ifCond .ne (22), 3)), by decide⟩
theorem i_Lw_law_1455 : iIns M_Lw_law 1455 (.aload_n 3) 1 := (by decide +kernel : decode code 1455 = .ok (.aload_n 3, 1))
theorem i_Lw_law_1456 : iIns M_Lw_law 1456 (.iconst 0) 1 := (by decide +kernel : decode code 1456 = .ok (.iconst 0, 1))
theorem i_Lw_law_1457 : iIns M_Lw_law 1457 .laload 1 := (by decide +kernel : decode code 1457 = .ok (.laload, 1))
theorem i_Lw_law_1458 : iIns M_Lw_law 1458 (.iload 7) 2 := (by decide +kernel : decode code 1458 = .ok (.iload 7, 2))
theorem i_Lw_law_1460 : iIf M_Lw_law 1460 .eq 1467 := ⟨7, (by decide +kernel : decode code 1460 = .ok (.ifCond .eq (7), 3)), by decide⟩
theorem i_Lw_law_1463 : iIns M_Lw_law 1463 (.lconst 1) 1 := (by decide +kernel : decode code 1463 = .ok (.lconst 1, 1))
theorem i_Lw_law_1464 : iGoto M_Lw_law 1464 1468 := ⟨4, (by decide +kernel : decode code 1464 = .ok (.goto (4), 3)), by decide⟩
theorem i_Lw_law_1467 : iIns M_Lw_law 1467 (.lconst 0) 1 := (by decide +kernel : decode code 1467 = .ok (.lconst 0, 1))
theorem i_Lw_law_1468 : iIns M_Lw_law 1468 .lcmp 1 := (by decide +kernel : decode code 1468 = .ok (.lcmp, 1))
theorem i_Lw_law_1469 : iIf M_Lw_law 1469 .eq 1474 := ⟨5, (by decide +kernel : decode code 1469 = .ok (.ifCond .eq (5), 3)), by decide⟩
theorem i_Lw_law_1472 : iIns M_Lw_law 1472 (.iconst 0) 1 := (by decide +kernel : decode code 1472 = .ok (.iconst 0, 1))
theorem i_Lw_law_1473 : iIns M_Lw_law 1473 .ireturn 1 := (by decide +kernel : decode code 1473 = .ok (.ireturn, 1))
theorem i_Lw_law_1474 : iGoto M_Lw_law 1474 2266 := ⟨792, (by decide +kernel : decode code 1474 = .ok (.goto (792), 3)), by decide⟩
theorem i_Lw_law_1477 : iIns M_Lw_law 1477 (.aload_n 1) 1 := (by decide +kernel : decode code 1477 = .ok (.aload_n 1, 1))
theorem i_Lw_law_1478 : iIns M_Lw_law 1478 (.aload_n 0) 1 := (by decide +kernel : decode code 1478 = .ok (.aload_n 0, 1))
theorem i_Lw_law_1479 : iIns M_Lw_law 1479 (.iload 5) 2 := (by decide +kernel : decode code 1479 = .ok (.iload 5, 2))
theorem i_Lw_law_1481 : iIns M_Lw_law 1481 (.iconst 1) 1 := (by decide +kernel : decode code 1481 = .ok (.iconst 1, 1))
theorem i_Lw_law_1482 : iIns M_Lw_law 1482 .iadd 1 := (by decide +kernel : decode code 1482 = .ok (.iadd, 1))
theorem i_Lw_law_1483 : iIns M_Lw_law 1483 .iaload 1 := (by decide +kernel : decode code 1483 = .ok (.iaload, 1))
theorem i_Lw_law_1484 : iIns M_Lw_law 1484 (.aload_n 0) 1 := (by decide +kernel : decode code 1484 = .ok (.aload_n 0, 1))
theorem i_Lw_law_1485 : iIns M_Lw_law 1485 (.iload 5) 2 := (by decide +kernel : decode code 1485 = .ok (.iload 5, 2))
theorem i_Lw_law_1487 : iIns M_Lw_law 1487 (.iconst 2) 1 := (by decide +kernel : decode code 1487 = .ok (.iconst 2, 1))
theorem i_Lw_law_1488 : iIns M_Lw_law 1488 .iadd 1 := (by decide +kernel : decode code 1488 = .ok (.iadd, 1))
theorem i_Lw_law_1489 : iIns M_Lw_law 1489 .iaload 1 := (by decide +kernel : decode code 1489 = .ok (.iaload, 1))
theorem i_Lw_law_1490 : iIns M_Lw_law 1490 (.aload_n 3) 1 := (by decide +kernel : decode code 1490 = .ok (.aload_n 3, 1))
theorem i_Lw_law_1491 : iCallSH M_Lw_law 1491 M_Lw_stepsToAdult 4 := ⟨⟨215, (by decide +kernel : decode code 1491 = .ok (.invokestatic 215, 3)), lw_k4 207 rfl rfl⟩, sm_Lw_stepsToAdult, me_Lw_stepsToAdult, by decide, CW_Lw_stepsToAdult⟩
theorem i_Lw_law_1494 : iIns M_Lw_law 1494 (.istore 6) 2 := (by decide +kernel : decode code 1494 = .ok (.istore 6, 2))
theorem i_Lw_law_1496 : iIns M_Lw_law 1496 (.aload_n 2) 1 := (by decide +kernel : decode code 1496 = .ok (.aload_n 2, 1))
theorem i_Lw_law_1497 : iIns M_Lw_law 1497 (.aload_n 0) 1 := (by decide +kernel : decode code 1497 = .ok (.aload_n 0, 1))
theorem i_Lw_law_1498 : iIns M_Lw_law 1498 (.iload 5) 2 := (by decide +kernel : decode code 1498 = .ok (.iload 5, 2))
theorem i_Lw_law_1500 : iIns M_Lw_law 1500 (.iconst 1) 1 := (by decide +kernel : decode code 1500 = .ok (.iconst 1, 1))
theorem i_Lw_law_1501 : iIns M_Lw_law 1501 .iadd 1 := (by decide +kernel : decode code 1501 = .ok (.iadd, 1))
theorem i_Lw_law_1502 : iIns M_Lw_law 1502 .iaload 1 := (by decide +kernel : decode code 1502 = .ok (.iaload, 1))
theorem i_Lw_law_1503 : iIns M_Lw_law 1503 (.aload_n 0) 1 := (by decide +kernel : decode code 1503 = .ok (.aload_n 0, 1))
theorem i_Lw_law_1504 : iIns M_Lw_law 1504 (.iload 5) 2 := (by decide +kernel : decode code 1504 = .ok (.iload 5, 2))
theorem i_Lw_law_1506 : iIns M_Lw_law 1506 (.iconst 2) 1 := (by decide +kernel : decode code 1506 = .ok (.iconst 2, 1))
theorem i_Lw_law_1507 : iIns M_Lw_law 1507 .iadd 1 := (by decide +kernel : decode code 1507 = .ok (.iadd, 1))
theorem i_Lw_law_1508 : iIns M_Lw_law 1508 .iaload 1 := (by decide +kernel : decode code 1508 = .ok (.iaload, 1))
theorem i_Lw_law_1509 : iCallV M_Lw_law 1509 M_Md_stepsToAdult 2 14 := ⟨⟨217, (by decide +kernel : decode code 1509 = .ok (.invokevirtual 217, 3)), lw_k7 118 rfl rfl⟩, vm_Md_stepsToAdult, me_Md_stepsToAdult, pn_Md_stepsToAdult⟩
theorem i_Lw_law_1512 : iIns M_Lw_law 1512 (.istore 7) 2 := (by decide +kernel : decode code 1512 = .ok (.istore 7, 2))
theorem i_Lw_law_1514 : iIns M_Lw_law 1514 (.aload_n 2) 1 := (by decide +kernel : decode code 1514 = .ok (.aload_n 2, 1))
theorem i_Lw_law_1515 : iCallV M_Lw_law 1515 M_Md_thrown 0 14 := ⟨⟨138, (by decide +kernel : decode code 1515 = .ok (.invokevirtual 138, 3)), lw_k6 133 rfl rfl⟩, vm_Md_thrown, me_Md_thrown, pn_Md_thrown⟩
theorem i_Lw_law_1518 : iIns M_Lw_law 1518 (.iload 6) 2 := (by decide +kernel : decode code 1518 = .ok (.iload 6, 2))
theorem i_Lw_law_1520 : iIcmp M_Lw_law 1520 .eq 1525 := ⟨5, (by decide +kernel : decode code 1520 = .ok (.if_icmp .eq (5), 3)), by decide⟩
theorem i_Lw_law_1523 : iIns M_Lw_law 1523 (.iconst 0) 1 := (by decide +kernel : decode code 1523 = .ok (.iconst 0, 1))
theorem i_Lw_law_1524 : iIns M_Lw_law 1524 .ireturn 1 := (by decide +kernel : decode code 1524 = .ok (.ireturn, 1))
theorem i_Lw_law_1525 : iIns M_Lw_law 1525 (.iload 6) 2 := (by decide +kernel : decode code 1525 = .ok (.iload 6, 2))
theorem i_Lw_law_1527 : iIf M_Lw_law 1527 .ne 1542 := ⟨15, (by decide +kernel : decode code 1527 = .ok (.ifCond .ne (15), 3)), by decide⟩
theorem i_Lw_law_1530 : iIns M_Lw_law 1530 (.aload_n 3) 1 := (by decide +kernel : decode code 1530 = .ok (.aload_n 3, 1))
theorem i_Lw_law_1531 : iIns M_Lw_law 1531 (.iconst 0) 1 := (by decide +kernel : decode code 1531 = .ok (.iconst 0, 1))
theorem i_Lw_law_1532 : iIns M_Lw_law 1532 .laload 1 := (by decide +kernel : decode code 1532 = .ok (.laload, 1))
theorem i_Lw_law_1533 : iIns M_Lw_law 1533 (.iload 7) 2 := (by decide +kernel : decode code 1533 = .ok (.iload 7, 2))
theorem i_Lw_law_1535 : iIns M_Lw_law 1535 .i2l 1 := (by decide +kernel : decode code 1535 = .ok (.i2l, 1))
theorem i_Lw_law_1536 : iIns M_Lw_law 1536 .lcmp 1 := (by decide +kernel : decode code 1536 = .ok (.lcmp, 1))
theorem i_Lw_law_1537 : iIf M_Lw_law 1537 .eq 1542 := ⟨5, (by decide +kernel : decode code 1537 = .ok (.ifCond .eq (5), 3)), by decide⟩
theorem i_Lw_law_1540 : iIns M_Lw_law 1540 (.iconst 0) 1 := (by decide +kernel : decode code 1540 = .ok (.iconst 0, 1))
theorem i_Lw_law_1541 : iIns M_Lw_law 1541 .ireturn 1 := (by decide +kernel : decode code 1541 = .ok (.ireturn, 1))
theorem i_Lw_law_1542 : iGoto M_Lw_law 1542 2266 := ⟨724, (by decide +kernel : decode code 1542 = .ok (.goto (724), 3)), by decide⟩
theorem i_Lw_law_1545 : iIns M_Lw_law 1545 (.aload_n 1) 1 := (by decide +kernel : decode code 1545 = .ok (.aload_n 1, 1))
theorem i_Lw_law_1546 : iIns M_Lw_law 1546 (.aload_n 0) 1 := (by decide +kernel : decode code 1546 = .ok (.aload_n 0, 1))
theorem i_Lw_law_1547 : iIns M_Lw_law 1547 (.iload 5) 2 := (by decide +kernel : decode code 1547 = .ok (.iload 5, 2))
theorem i_Lw_law_1549 : iIns M_Lw_law 1549 (.iconst 1) 1 := (by decide +kernel : decode code 1549 = .ok (.iconst 1, 1))
theorem i_Lw_law_1550 : iIns M_Lw_law 1550 .iadd 1 := (by decide +kernel : decode code 1550 = .ok (.iadd, 1))
theorem i_Lw_law_1551 : iIns M_Lw_law 1551 .iaload 1 := (by decide +kernel : decode code 1551 = .ok (.iaload, 1))
theorem i_Lw_law_1552 : iIns M_Lw_law 1552 (.aload_n 0) 1 := (by decide +kernel : decode code 1552 = .ok (.aload_n 0, 1))
theorem i_Lw_law_1553 : iIns M_Lw_law 1553 (.iload 5) 2 := (by decide +kernel : decode code 1553 = .ok (.iload 5, 2))
theorem i_Lw_law_1555 : iIns M_Lw_law 1555 (.iconst 2) 1 := (by decide +kernel : decode code 1555 = .ok (.iconst 2, 1))
theorem i_Lw_law_1556 : iIns M_Lw_law 1556 .iadd 1 := (by decide +kernel : decode code 1556 = .ok (.iadd, 1))
theorem i_Lw_law_1557 : iIns M_Lw_law 1557 .iaload 1 := (by decide +kernel : decode code 1557 = .ok (.iaload, 1))
theorem i_Lw_law_1558 : iIns M_Lw_law 1558 (.aload_n 3) 1 := (by decide +kernel : decode code 1558 = .ok (.aload_n 3, 1))
theorem i_Lw_law_1559 : iCallSH M_Lw_law 1559 M_Lw_adultWords 4 := ⟨⟨218, (by decide +kernel : decode code 1559 = .ok (.invokestatic 218, 3)), lw_k4 222 rfl rfl⟩, sm_Lw_adultWords, me_Lw_adultWords, by decide, CW_Lw_adultWords⟩
theorem i_Lw_law_1562 : iIns M_Lw_law 1562 (.istore 6) 2 := (by decide +kernel : decode code 1562 = .ok (.istore 6, 2))
theorem i_Lw_law_1564 : iIns M_Lw_law 1564 (.aload_n 2) 1 := (by decide +kernel : decode code 1564 = .ok (.aload_n 2, 1))
theorem i_Lw_law_1565 : iIns M_Lw_law 1565 (.aload_n 0) 1 := (by decide +kernel : decode code 1565 = .ok (.aload_n 0, 1))
theorem i_Lw_law_1566 : iIns M_Lw_law 1566 (.iload 5) 2 := (by decide +kernel : decode code 1566 = .ok (.iload 5, 2))
theorem i_Lw_law_1568 : iIns M_Lw_law 1568 (.iconst 1) 1 := (by decide +kernel : decode code 1568 = .ok (.iconst 1, 1))
theorem i_Lw_law_1569 : iIns M_Lw_law 1569 .iadd 1 := (by decide +kernel : decode code 1569 = .ok (.iadd, 1))
theorem i_Lw_law_1570 : iIns M_Lw_law 1570 .iaload 1 := (by decide +kernel : decode code 1570 = .ok (.iaload, 1))
theorem i_Lw_law_1571 : iIns M_Lw_law 1571 (.aload_n 0) 1 := (by decide +kernel : decode code 1571 = .ok (.aload_n 0, 1))
theorem i_Lw_law_1572 : iIns M_Lw_law 1572 (.iload 5) 2 := (by decide +kernel : decode code 1572 = .ok (.iload 5, 2))
theorem i_Lw_law_1574 : iIns M_Lw_law 1574 (.iconst 2) 1 := (by decide +kernel : decode code 1574 = .ok (.iconst 2, 1))
theorem i_Lw_law_1575 : iIns M_Lw_law 1575 .iadd 1 := (by decide +kernel : decode code 1575 = .ok (.iadd, 1))
theorem i_Lw_law_1576 : iIns M_Lw_law 1576 .iaload 1 := (by decide +kernel : decode code 1576 = .ok (.iaload, 1))
theorem i_Lw_law_1577 : iCallV M_Lw_law 1577 M_Md_adultWords 2 14 := ⟨⟨220, (by decide +kernel : decode code 1577 = .ok (.invokevirtual 220, 3)), lw_k7 122 rfl rfl⟩, vm_Md_adultWords, me_Md_adultWords, pn_Md_adultWords⟩
theorem i_Lw_law_1580 : iIns M_Lw_law 1580 (.istore 7) 2 := (by decide +kernel : decode code 1580 = .ok (.istore 7, 2))
theorem i_Lw_law_1582 : iIns M_Lw_law 1582 (.aload_n 2) 1 := (by decide +kernel : decode code 1582 = .ok (.aload_n 2, 1))
theorem i_Lw_law_1583 : iCallV M_Lw_law 1583 M_Md_thrown 0 14 := ⟨⟨138, (by decide +kernel : decode code 1583 = .ok (.invokevirtual 138, 3)), lw_k6 133 rfl rfl⟩, vm_Md_thrown, me_Md_thrown, pn_Md_thrown⟩
theorem i_Lw_law_1586 : iIns M_Lw_law 1586 (.iload 6) 2 := (by decide +kernel : decode code 1586 = .ok (.iload 6, 2))
theorem i_Lw_law_1588 : iIcmp M_Lw_law 1588 .eq 1593 := ⟨5, (by decide +kernel : decode code 1588 = .ok (.if_icmp .eq (5), 3)), by decide⟩
theorem i_Lw_law_1591 : iIns M_Lw_law 1591 (.iconst 0) 1 := (by decide +kernel : decode code 1591 = .ok (.iconst 0, 1))
theorem i_Lw_law_1592 : iIns M_Lw_law 1592 .ireturn 1 := (by decide +kernel : decode code 1592 = .ok (.ireturn, 1))
theorem i_Lw_law_1593 : iIns M_Lw_law 1593 (.iload 6) 2 := (by decide +kernel : decode code 1593 = .ok (.iload 6, 2))
theorem i_Lw_law_1595 : iIf M_Lw_law 1595 .ne 1610 := ⟨15, (by decide +kernel : decode code 1595 = .ok (.ifCond .ne (15), 3)), by decide⟩
theorem i_Lw_law_1598 : iIns M_Lw_law 1598 (.aload_n 3) 1 := (by decide +kernel : decode code 1598 = .ok (.aload_n 3, 1))
theorem i_Lw_law_1599 : iIns M_Lw_law 1599 (.iconst 0) 1 := (by decide +kernel : decode code 1599 = .ok (.iconst 0, 1))
theorem i_Lw_law_1600 : iIns M_Lw_law 1600 .laload 1 := (by decide +kernel : decode code 1600 = .ok (.laload, 1))
theorem i_Lw_law_1601 : iIns M_Lw_law 1601 (.iload 7) 2 := (by decide +kernel : decode code 1601 = .ok (.iload 7, 2))
theorem i_Lw_law_1603 : iIns M_Lw_law 1603 .i2l 1 := (by decide +kernel : decode code 1603 = .ok (.i2l, 1))
theorem i_Lw_law_1604 : iIns M_Lw_law 1604 .lcmp 1 := (by decide +kernel : decode code 1604 = .ok (.lcmp, 1))
theorem i_Lw_law_1605 : iIf M_Lw_law 1605 .eq 1610 := ⟨5, (by decide +kernel : decode code 1605 = .ok (.ifCond .eq (5), 3)), by decide⟩
theorem i_Lw_law_1608 : iIns M_Lw_law 1608 (.iconst 0) 1 := (by decide +kernel : decode code 1608 = .ok (.iconst 0, 1))
theorem i_Lw_law_1609 : iIns M_Lw_law 1609 .ireturn 1 := (by decide +kernel : decode code 1609 = .ok (.ireturn, 1))
theorem i_Lw_law_1610 : iGoto M_Lw_law 1610 2266 := ⟨656, (by decide +kernel : decode code 1610 = .ok (.goto (656), 3)), by decide⟩
theorem i_Lw_law_1613 : iIns M_Lw_law 1613 (.aload_n 1) 1 := (by decide +kernel : decode code 1613 = .ok (.aload_n 1, 1))
theorem i_Lw_law_1614 : iIns M_Lw_law 1614 (.aload_n 0) 1 := (by decide +kernel : decode code 1614 = .ok (.aload_n 0, 1))
theorem i_Lw_law_1615 : iIns M_Lw_law 1615 (.iload 5) 2 := (by decide +kernel : decode code 1615 = .ok (.iload 5, 2))
theorem i_Lw_law_1617 : iIns M_Lw_law 1617 (.iconst 1) 1 := (by decide +kernel : decode code 1617 = .ok (.iconst 1, 1))
theorem i_Lw_law_1618 : iIns M_Lw_law 1618 .iadd 1 := (by decide +kernel : decode code 1618 = .ok (.iadd, 1))
theorem i_Lw_law_1619 : iIns M_Lw_law 1619 .iaload 1 := (by decide +kernel : decode code 1619 = .ok (.iaload, 1))
theorem i_Lw_law_1620 : iIns M_Lw_law 1620 (.aload_n 3) 1 := (by decide +kernel : decode code 1620 = .ok (.aload_n 3, 1))
theorem i_Lw_law_1621 : iCallSH M_Lw_law 1621 M_Lw_ways 3 := ⟨⟨221, (by decide +kernel : decode code 1621 = .ok (.invokestatic 221, 3)), lw_k5 0 rfl rfl⟩, sm_Lw_ways, me_Lw_ways, by decide, CW_Lw_ways⟩
theorem i_Lw_law_1624 : iIns M_Lw_law 1624 (.istore 6) 2 := (by decide +kernel : decode code 1624 = .ok (.istore 6, 2))
theorem i_Lw_law_1626 : iIns M_Lw_law 1626 (.aload_n 2) 1 := (by decide +kernel : decode code 1626 = .ok (.aload_n 2, 1))
theorem i_Lw_law_1627 : iIns M_Lw_law 1627 (.aload_n 0) 1 := (by decide +kernel : decode code 1627 = .ok (.aload_n 0, 1))
theorem i_Lw_law_1628 : iIns M_Lw_law 1628 (.iload 5) 2 := (by decide +kernel : decode code 1628 = .ok (.iload 5, 2))
theorem i_Lw_law_1630 : iIns M_Lw_law 1630 (.iconst 1) 1 := (by decide +kernel : decode code 1630 = .ok (.iconst 1, 1))
theorem i_Lw_law_1631 : iIns M_Lw_law 1631 .iadd 1 := (by decide +kernel : decode code 1631 = .ok (.iadd, 1))
theorem i_Lw_law_1632 : iIns M_Lw_law 1632 .iaload 1 := (by decide +kernel : decode code 1632 = .ok (.iaload, 1))
theorem i_Lw_law_1633 : iCallV M_Lw_law 1633 M_Md_ways 1 14 := ⟨⟨223, (by decide +kernel : decode code 1633 = .ok (.invokevirtual 223, 3)), lw_k7 126 rfl rfl⟩, vm_Md_ways, me_Md_ways, pn_Md_ways⟩
theorem i_Lw_law_1636 : iIns M_Lw_law 1636 (.lstore 7) 2 := (by decide +kernel : decode code 1636 = .ok (.lstore 7, 2))
theorem i_Lw_law_1638 : iIns M_Lw_law 1638 (.aload_n 2) 1 := (by decide +kernel : decode code 1638 = .ok (.aload_n 2, 1))
theorem i_Lw_law_1639 : iCallV M_Lw_law 1639 M_Md_thrown 0 14 := ⟨⟨138, (by decide +kernel : decode code 1639 = .ok (.invokevirtual 138, 3)), lw_k6 133 rfl rfl⟩, vm_Md_thrown, me_Md_thrown, pn_Md_thrown⟩
theorem i_Lw_law_1642 : iIns M_Lw_law 1642 (.iload 6) 2 := (by decide +kernel : decode code 1642 = .ok (.iload 6, 2))
theorem i_Lw_law_1644 : iIcmp M_Lw_law 1644 .eq 1649 := ⟨5, (by decide +kernel : decode code 1644 = .ok (.if_icmp .eq (5), 3)), by decide⟩
theorem i_Lw_law_1647 : iIns M_Lw_law 1647 (.iconst 0) 1 := (by decide +kernel : decode code 1647 = .ok (.iconst 0, 1))
theorem i_Lw_law_1648 : iIns M_Lw_law 1648 .ireturn 1 := (by decide +kernel : decode code 1648 = .ok (.ireturn, 1))
theorem i_Lw_law_1649 : iIns M_Lw_law 1649 (.iload 6) 2 := (by decide +kernel : decode code 1649 = .ok (.iload 6, 2))
theorem i_Lw_law_1651 : iIf M_Lw_law 1651 .ne 1665 := ⟨14, (by decide +kernel : decode code 1651 = .ok (.ifCond .ne (14), 3)), by decide⟩
theorem i_Lw_law_1654 : iIns M_Lw_law 1654 (.aload_n 3) 1 := (by decide +kernel : decode code 1654 = .ok (.aload_n 3, 1))
theorem i_Lw_law_1655 : iIns M_Lw_law 1655 (.iconst 0) 1 := (by decide +kernel : decode code 1655 = .ok (.iconst 0, 1))
theorem i_Lw_law_1656 : iIns M_Lw_law 1656 .laload 1 := (by decide +kernel : decode code 1656 = .ok (.laload, 1))
theorem i_Lw_law_1657 : iIns M_Lw_law 1657 (.lload 7) 2 := (by decide +kernel : decode code 1657 = .ok (.lload 7, 2))
theorem i_Lw_law_1659 : iIns M_Lw_law 1659 .lcmp 1 := (by decide +kernel : decode code 1659 = .ok (.lcmp, 1))
theorem i_Lw_law_1660 : iIf M_Lw_law 1660 .eq 1665 := ⟨5, (by decide +kernel : decode code 1660 = .ok (.ifCond .eq (5), 3)), by decide⟩
theorem i_Lw_law_1663 : iIns M_Lw_law 1663 (.iconst 0) 1 := (by decide +kernel : decode code 1663 = .ok (.iconst 0, 1))
theorem i_Lw_law_1664 : iIns M_Lw_law 1664 .ireturn 1 := (by decide +kernel : decode code 1664 = .ok (.ireturn, 1))
theorem i_Lw_law_1665 : iGoto M_Lw_law 1665 2266 := ⟨601, (by decide +kernel : decode code 1665 = .ok (.goto (601), 3)), by decide⟩
theorem i_Lw_law_1668 : iIns M_Lw_law 1668 (.aload_n 1) 1 := (by decide +kernel : decode code 1668 = .ok (.aload_n 1, 1))
theorem i_Lw_law_1669 : iIns M_Lw_law 1669 (.aload_n 0) 1 := (by decide +kernel : decode code 1669 = .ok (.aload_n 0, 1))
theorem i_Lw_law_1670 : iIns M_Lw_law 1670 (.iload 5) 2 := (by decide +kernel : decode code 1670 = .ok (.iload 5, 2))
theorem i_Lw_law_1672 : iIns M_Lw_law 1672 (.iconst 1) 1 := (by decide +kernel : decode code 1672 = .ok (.iconst 1, 1))
theorem i_Lw_law_1673 : iIns M_Lw_law 1673 .iadd 1 := (by decide +kernel : decode code 1673 = .ok (.iadd, 1))
theorem i_Lw_law_1674 : iIns M_Lw_law 1674 .iaload 1 := (by decide +kernel : decode code 1674 = .ok (.iaload, 1))
theorem i_Lw_law_1675 : iIns M_Lw_law 1675 (.aload_n 3) 1 := (by decide +kernel : decode code 1675 = .ok (.aload_n 3, 1))
theorem i_Lw_law_1676 : iCallSH M_Lw_law 1676 M_Lw_sequenceCount 3 := ⟨⟨224, (by decide +kernel : decode code 1676 = .ok (.invokestatic 224, 3)), lw_k5 33 rfl rfl⟩, sm_Lw_sequenceCount, me_Lw_sequenceCount, by decide, CW_Lw_sequenceCount⟩
theorem i_Lw_law_1679 : iIns M_Lw_law 1679 (.istore 6) 2 := (by decide +kernel : decode code 1679 = .ok (.istore 6, 2))
theorem i_Lw_law_1681 : iIns M_Lw_law 1681 (.aload_n 2) 1 := (by decide +kernel : decode code 1681 = .ok (.aload_n 2, 1))
theorem i_Lw_law_1682 : iIns M_Lw_law 1682 (.aload_n 0) 1 := (by decide +kernel : decode code 1682 = .ok (.aload_n 0, 1))
theorem i_Lw_law_1683 : iIns M_Lw_law 1683 (.iload 5) 2 := (by decide +kernel : decode code 1683 = .ok (.iload 5, 2))
theorem i_Lw_law_1685 : iIns M_Lw_law 1685 (.iconst 1) 1 := (by decide +kernel : decode code 1685 = .ok (.iconst 1, 1))
theorem i_Lw_law_1686 : iIns M_Lw_law 1686 .iadd 1 := (by decide +kernel : decode code 1686 = .ok (.iadd, 1))
theorem i_Lw_law_1687 : iIns M_Lw_law 1687 .iaload 1 := (by decide +kernel : decode code 1687 = .ok (.iaload, 1))
theorem i_Lw_law_1688 : iCallV M_Lw_law 1688 M_Md_sequenceCount 1 14 := ⟨⟨226, (by decide +kernel : decode code 1688 = .ok (.invokevirtual 226, 3)), lw_k7 134 rfl rfl⟩, vm_Md_sequenceCount, me_Md_sequenceCount, pn_Md_sequenceCount⟩
theorem i_Lw_law_1691 : iIns M_Lw_law 1691 (.istore 7) 2 := (by decide +kernel : decode code 1691 = .ok (.istore 7, 2))
theorem i_Lw_law_1693 : iIns M_Lw_law 1693 (.aload_n 2) 1 := (by decide +kernel : decode code 1693 = .ok (.aload_n 2, 1))
theorem i_Lw_law_1694 : iCallV M_Lw_law 1694 M_Md_thrown 0 14 := ⟨⟨138, (by decide +kernel : decode code 1694 = .ok (.invokevirtual 138, 3)), lw_k6 133 rfl rfl⟩, vm_Md_thrown, me_Md_thrown, pn_Md_thrown⟩
theorem i_Lw_law_1697 : iIns M_Lw_law 1697 (.iload 6) 2 := (by decide +kernel : decode code 1697 = .ok (.iload 6, 2))
theorem i_Lw_law_1699 : iIcmp M_Lw_law 1699 .eq 1704 := ⟨5, (by decide +kernel : decode code 1699 = .ok (.if_icmp .eq (5), 3)), by decide⟩
theorem i_Lw_law_1702 : iIns M_Lw_law 1702 (.iconst 0) 1 := (by decide +kernel : decode code 1702 = .ok (.iconst 0, 1))
theorem i_Lw_law_1703 : iIns M_Lw_law 1703 .ireturn 1 := (by decide +kernel : decode code 1703 = .ok (.ireturn, 1))
theorem i_Lw_law_1704 : iIns M_Lw_law 1704 (.iload 6) 2 := (by decide +kernel : decode code 1704 = .ok (.iload 6, 2))
theorem i_Lw_law_1706 : iIf M_Lw_law 1706 .ne 1721 := ⟨15, (by decide +kernel : decode code 1706 = .ok (.ifCond .ne (15), 3)), by decide⟩
theorem i_Lw_law_1709 : iIns M_Lw_law 1709 (.aload_n 3) 1 := (by decide +kernel : decode code 1709 = .ok (.aload_n 3, 1))
theorem i_Lw_law_1710 : iIns M_Lw_law 1710 (.iconst 0) 1 := (by decide +kernel : decode code 1710 = .ok (.iconst 0, 1))
theorem i_Lw_law_1711 : iIns M_Lw_law 1711 .laload 1 := (by decide +kernel : decode code 1711 = .ok (.laload, 1))
theorem i_Lw_law_1712 : iIns M_Lw_law 1712 (.iload 7) 2 := (by decide +kernel : decode code 1712 = .ok (.iload 7, 2))
theorem i_Lw_law_1714 : iIns M_Lw_law 1714 .i2l 1 := (by decide +kernel : decode code 1714 = .ok (.i2l, 1))
theorem i_Lw_law_1715 : iIns M_Lw_law 1715 .lcmp 1 := (by decide +kernel : decode code 1715 = .ok (.lcmp, 1))
theorem i_Lw_law_1716 : iIf M_Lw_law 1716 .eq 1721 := ⟨5, (by decide +kernel : decode code 1716 = .ok (.ifCond .eq (5), 3)), by decide⟩
theorem i_Lw_law_1719 : iIns M_Lw_law 1719 (.iconst 0) 1 := (by decide +kernel : decode code 1719 = .ok (.iconst 0, 1))
theorem i_Lw_law_1720 : iIns M_Lw_law 1720 .ireturn 1 := (by decide +kernel : decode code 1720 = .ok (.ireturn, 1))
theorem i_Lw_law_1721 : iGoto M_Lw_law 1721 2266 := ⟨545, (by decide +kernel : decode code 1721 = .ok (.goto (545), 3)), by decide⟩
theorem i_Lw_law_1724 : iIns M_Lw_law 1724 (.aload_n 1) 1 := (by decide +kernel : decode code 1724 = .ok (.aload_n 1, 1))
theorem i_Lw_law_1725 : iIns M_Lw_law 1725 (.aload_n 0) 1 := (by decide +kernel : decode code 1725 = .ok (.aload_n 0, 1))
theorem i_Lw_law_1726 : iIns M_Lw_law 1726 (.iload 5) 2 := (by decide +kernel : decode code 1726 = .ok (.iload 5, 2))
theorem i_Lw_law_1728 : iIns M_Lw_law 1728 (.iconst 1) 1 := (by decide +kernel : decode code 1728 = .ok (.iconst 1, 1))
theorem i_Lw_law_1729 : iIns M_Lw_law 1729 .iadd 1 := (by decide +kernel : decode code 1729 = .ok (.iadd, 1))
theorem i_Lw_law_1730 : iIns M_Lw_law 1730 .iaload 1 := (by decide +kernel : decode code 1730 = .ok (.iaload, 1))
theorem i_Lw_law_1731 : iIns M_Lw_law 1731 (.aload_n 3) 1 := (by decide +kernel : decode code 1731 = .ok (.aload_n 3, 1))
theorem i_Lw_law_1732 : iCallSH M_Lw_law 1732 M_Lw_firstSequence 3 := ⟨⟨227, (by decide +kernel : decode code 1732 = .ok (.invokestatic 227, 3)), lw_k5 58 rfl rfl⟩, sm_Lw_firstSequence, me_Lw_firstSequence, by decide, CW_Lw_firstSequence⟩
theorem i_Lw_law_1735 : iIns M_Lw_law 1735 (.istore 6) 2 := (by decide +kernel : decode code 1735 = .ok (.istore 6, 2))
theorem i_Lw_law_1737 : iIns M_Lw_law 1737 (.aload_n 2) 1 := (by decide +kernel : decode code 1737 = .ok (.aload_n 2, 1))
theorem i_Lw_law_1738 : iIns M_Lw_law 1738 (.aload_n 0) 1 := (by decide +kernel : decode code 1738 = .ok (.aload_n 0, 1))
theorem i_Lw_law_1739 : iIns M_Lw_law 1739 (.iload 5) 2 := (by decide +kernel : decode code 1739 = .ok (.iload 5, 2))
theorem i_Lw_law_1741 : iIns M_Lw_law 1741 (.iconst 1) 1 := (by decide +kernel : decode code 1741 = .ok (.iconst 1, 1))
theorem i_Lw_law_1742 : iIns M_Lw_law 1742 .iadd 1 := (by decide +kernel : decode code 1742 = .ok (.iadd, 1))
theorem i_Lw_law_1743 : iIns M_Lw_law 1743 .iaload 1 := (by decide +kernel : decode code 1743 = .ok (.iaload, 1))
theorem i_Lw_law_1744 : iCallV M_Lw_law 1744 M_Md_firstSequence 1 14 := ⟨⟨229, (by decide +kernel : decode code 1744 = .ok (.invokevirtual 229, 3)), lw_k7 149 rfl rfl⟩, vm_Md_firstSequence, me_Md_firstSequence, pn_Md_firstSequence⟩
theorem i_Lw_law_1747 : iIns M_Lw_law 1747 (.istore 7) 2 := (by decide +kernel : decode code 1747 = .ok (.istore 7, 2))
theorem i_Lw_law_1749 : iIns M_Lw_law 1749 (.aload_n 2) 1 := (by decide +kernel : decode code 1749 = .ok (.aload_n 2, 1))
theorem i_Lw_law_1750 : iCallV M_Lw_law 1750 M_Md_thrown 0 14 := ⟨⟨138, (by decide +kernel : decode code 1750 = .ok (.invokevirtual 138, 3)), lw_k6 133 rfl rfl⟩, vm_Md_thrown, me_Md_thrown, pn_Md_thrown⟩
theorem i_Lw_law_1753 : iIns M_Lw_law 1753 (.iload 6) 2 := (by decide +kernel : decode code 1753 = .ok (.iload 6, 2))
theorem i_Lw_law_1755 : iIcmp M_Lw_law 1755 .eq 1760 := ⟨5, (by decide +kernel : decode code 1755 = .ok (.if_icmp .eq (5), 3)), by decide⟩
theorem i_Lw_law_1758 : iIns M_Lw_law 1758 (.iconst 0) 1 := (by decide +kernel : decode code 1758 = .ok (.iconst 0, 1))
theorem i_Lw_law_1759 : iIns M_Lw_law 1759 .ireturn 1 := (by decide +kernel : decode code 1759 = .ok (.ireturn, 1))
theorem i_Lw_law_1760 : iIns M_Lw_law 1760 (.iload 6) 2 := (by decide +kernel : decode code 1760 = .ok (.iload 6, 2))
theorem i_Lw_law_1762 : iIf M_Lw_law 1762 .ne 1777 := ⟨15, (by decide +kernel : decode code 1762 = .ok (.ifCond .ne (15), 3)), by decide⟩
theorem i_Lw_law_1765 : iIns M_Lw_law 1765 (.aload_n 3) 1 := (by decide +kernel : decode code 1765 = .ok (.aload_n 3, 1))
theorem i_Lw_law_1766 : iIns M_Lw_law 1766 (.iconst 0) 1 := (by decide +kernel : decode code 1766 = .ok (.iconst 0, 1))
theorem i_Lw_law_1767 : iIns M_Lw_law 1767 .laload 1 := (by decide +kernel : decode code 1767 = .ok (.laload, 1))
theorem i_Lw_law_1768 : iIns M_Lw_law 1768 (.iload 7) 2 := (by decide +kernel : decode code 1768 = .ok (.iload 7, 2))
theorem i_Lw_law_1770 : iIns M_Lw_law 1770 .i2l 1 := (by decide +kernel : decode code 1770 = .ok (.i2l, 1))
theorem i_Lw_law_1771 : iIns M_Lw_law 1771 .lcmp 1 := (by decide +kernel : decode code 1771 = .ok (.lcmp, 1))
theorem i_Lw_law_1772 : iIf M_Lw_law 1772 .eq 1777 := ⟨5, (by decide +kernel : decode code 1772 = .ok (.ifCond .eq (5), 3)), by decide⟩
theorem i_Lw_law_1775 : iIns M_Lw_law 1775 (.iconst 0) 1 := (by decide +kernel : decode code 1775 = .ok (.iconst 0, 1))
theorem i_Lw_law_1776 : iIns M_Lw_law 1776 .ireturn 1 := (by decide +kernel : decode code 1776 = .ok (.ireturn, 1))
theorem i_Lw_law_1777 : iGoto M_Lw_law 1777 2266 := ⟨489, (by decide +kernel : decode code 1777 = .ok (.goto (489), 3)), by decide⟩
theorem i_Lw_law_1780 : iIns M_Lw_law 1780 (.aload_n 1) 1 := (by decide +kernel : decode code 1780 = .ok (.aload_n 1, 1))
theorem i_Lw_law_1781 : iIns M_Lw_law 1781 (.aload_n 0) 1 := (by decide +kernel : decode code 1781 = .ok (.aload_n 0, 1))
theorem i_Lw_law_1782 : iIns M_Lw_law 1782 (.iload 5) 2 := (by decide +kernel : decode code 1782 = .ok (.iload 5, 2))
theorem i_Lw_law_1784 : iIns M_Lw_law 1784 (.iconst 1) 1 := (by decide +kernel : decode code 1784 = .ok (.iconst 1, 1))
theorem i_Lw_law_1785 : iIns M_Lw_law 1785 .iadd 1 := (by decide +kernel : decode code 1785 = .ok (.iadd, 1))
theorem i_Lw_law_1786 : iIns M_Lw_law 1786 .iaload 1 := (by decide +kernel : decode code 1786 = .ok (.iaload, 1))
theorem i_Lw_law_1787 : iCallSH M_Lw_law 1787 M_Lw_setCommand 2 := ⟨⟨230, (by decide +kernel : decode code 1787 = .ok (.invokestatic 230, 3)), lw_k5 66 rfl rfl⟩, sm_Lw_setCommand, me_Lw_setCommand, by decide, CW_Lw_setCommand⟩
theorem i_Lw_law_1790 : iIns M_Lw_law 1790 (.istore 6) 2 := (by decide +kernel : decode code 1790 = .ok (.istore 6, 2))
theorem i_Lw_law_1792 : iIns M_Lw_law 1792 (.aload_n 2) 1 := (by decide +kernel : decode code 1792 = .ok (.aload_n 2, 1))
theorem i_Lw_law_1793 : iIns M_Lw_law 1793 (.aload_n 0) 1 := (by decide +kernel : decode code 1793 = .ok (.aload_n 0, 1))
theorem i_Lw_law_1794 : iIns M_Lw_law 1794 (.iload 5) 2 := (by decide +kernel : decode code 1794 = .ok (.iload 5, 2))
theorem i_Lw_law_1796 : iIns M_Lw_law 1796 (.iconst 1) 1 := (by decide +kernel : decode code 1796 = .ok (.iconst 1, 1))
theorem i_Lw_law_1797 : iIns M_Lw_law 1797 .iadd 1 := (by decide +kernel : decode code 1797 = .ok (.iadd, 1))
theorem i_Lw_law_1798 : iIns M_Lw_law 1798 .iaload 1 := (by decide +kernel : decode code 1798 = .ok (.iaload, 1))
theorem i_Lw_law_1799 : iCallV M_Lw_law 1799 M_Md_setCommand 1 14 := ⟨⟨233, (by decide +kernel : decode code 1799 = .ok (.invokevirtual 233, 3)), lw_k7 153 rfl rfl⟩, vm_Md_setCommand, me_Md_setCommand, pn_Md_setCommand⟩
theorem i_Lw_law_1802 : iIns M_Lw_law 1802 (.aload_n 2) 1 := (by decide +kernel : decode code 1802 = .ok (.aload_n 2, 1))
theorem i_Lw_law_1803 : iCallV M_Lw_law 1803 M_Md_thrown 0 14 := ⟨⟨138, (by decide +kernel : decode code 1803 = .ok (.invokevirtual 138, 3)), lw_k6 133 rfl rfl⟩, vm_Md_thrown, me_Md_thrown, pn_Md_thrown⟩
theorem i_Lw_law_1806 : iIns M_Lw_law 1806 (.iload 6) 2 := (by decide +kernel : decode code 1806 = .ok (.iload 6, 2))
theorem i_Lw_law_1808 : iIcmp M_Lw_law 1808 .eq 1813 := ⟨5, (by decide +kernel : decode code 1808 = .ok (.if_icmp .eq (5), 3)), by decide⟩
theorem i_Lw_law_1811 : iIns M_Lw_law 1811 (.iconst 0) 1 := (by decide +kernel : decode code 1811 = .ok (.iconst 0, 1))
theorem i_Lw_law_1812 : iIns M_Lw_law 1812 .ireturn 1 := (by decide +kernel : decode code 1812 = .ok (.ireturn, 1))
theorem i_Lw_law_1813 : iGoto M_Lw_law 1813 2266 := ⟨453, (by decide +kernel : decode code 1813 = .ok (.goto (453), 3)), by decide⟩
theorem i_Lw_law_1816 : iIns M_Lw_law 1816 (.aload_n 1) 1 := (by decide +kernel : decode code 1816 = .ok (.aload_n 1, 1))
theorem i_Lw_law_1817 : iIns M_Lw_law 1817 (.aload_n 3) 1 := (by decide +kernel : decode code 1817 = .ok (.aload_n 3, 1))
theorem i_Lw_law_1818 : iCallSH M_Lw_law 1818 M_Lw_segmentCount 2 := ⟨⟨234, (by decide +kernel : decode code 1818 = .ok (.invokestatic 234, 3)), lw_k5 140 rfl rfl⟩, sm_Lw_segmentCount, me_Lw_segmentCount, by decide, CW_Lw_segmentCount⟩
theorem i_Lw_law_1821 : iIns M_Lw_law 1821 (.istore 6) 2 := (by decide +kernel : decode code 1821 = .ok (.istore 6, 2))
theorem i_Lw_law_1823 : iIns M_Lw_law 1823 (.aload_n 2) 1 := (by decide +kernel : decode code 1823 = .ok (.aload_n 2, 1))
theorem i_Lw_law_1824 : iCallV M_Lw_law 1824 M_Md_segmentCount 0 14 := ⟨⟨236, (by decide +kernel : decode code 1824 = .ok (.invokevirtual 236, 3)), lw_k7 174 rfl rfl⟩, vm_Md_segmentCount, me_Md_segmentCount, pn_Md_segmentCount⟩
theorem i_Lw_law_1827 : iIns M_Lw_law 1827 (.istore 7) 2 := (by decide +kernel : decode code 1827 = .ok (.istore 7, 2))
theorem i_Lw_law_1829 : iIns M_Lw_law 1829 (.aload_n 2) 1 := (by decide +kernel : decode code 1829 = .ok (.aload_n 2, 1))
theorem i_Lw_law_1830 : iCallV M_Lw_law 1830 M_Md_thrown 0 14 := ⟨⟨138, (by decide +kernel : decode code 1830 = .ok (.invokevirtual 138, 3)), lw_k6 133 rfl rfl⟩, vm_Md_thrown, me_Md_thrown, pn_Md_thrown⟩
theorem i_Lw_law_1833 : iIns M_Lw_law 1833 (.iload 6) 2 := (by decide +kernel : decode code 1833 = .ok (.iload 6, 2))
theorem i_Lw_law_1835 : iIcmp M_Lw_law 1835 .eq 1840 := ⟨5, (by decide +kernel : decode code 1835 = .ok (.if_icmp .eq (5), 3)), by decide⟩
theorem i_Lw_law_1838 : iIns M_Lw_law 1838 (.iconst 0) 1 := (by decide +kernel : decode code 1838 = .ok (.iconst 0, 1))
theorem i_Lw_law_1839 : iIns M_Lw_law 1839 .ireturn 1 := (by decide +kernel : decode code 1839 = .ok (.ireturn, 1))
theorem i_Lw_law_1840 : iIns M_Lw_law 1840 (.iload 6) 2 := (by decide +kernel : decode code 1840 = .ok (.iload 6, 2))
theorem i_Lw_law_1842 : iIf M_Lw_law 1842 .ne 1857 := ⟨15, (by decide +kernel : decode code 1842 = .ok (.ifCond .ne (15), 3)), by decide⟩
theorem i_Lw_law_1845 : iIns M_Lw_law 1845 (.aload_n 3) 1 := (by decide +kernel : decode code 1845 = .ok (.aload_n 3, 1))
theorem i_Lw_law_1846 : iIns M_Lw_law 1846 (.iconst 0) 1 := (by decide +kernel : decode code 1846 = .ok (.iconst 0, 1))
theorem i_Lw_law_1847 : iIns M_Lw_law 1847 .laload 1 := (by decide +kernel : decode code 1847 = .ok (.laload, 1))
theorem i_Lw_law_1848 : iIns M_Lw_law 1848 (.iload 7) 2 := (by decide +kernel : decode code 1848 = .ok (.iload 7, 2))
theorem i_Lw_law_1850 : iIns M_Lw_law 1850 .i2l 1 := (by decide +kernel : decode code 1850 = .ok (.i2l, 1))
theorem i_Lw_law_1851 : iIns M_Lw_law 1851 .lcmp 1 := (by decide +kernel : decode code 1851 = .ok (.lcmp, 1))
theorem i_Lw_law_1852 : iIf M_Lw_law 1852 .eq 1857 := ⟨5, (by decide +kernel : decode code 1852 = .ok (.ifCond .eq (5), 3)), by decide⟩
theorem i_Lw_law_1855 : iIns M_Lw_law 1855 (.iconst 0) 1 := (by decide +kernel : decode code 1855 = .ok (.iconst 0, 1))
theorem i_Lw_law_1856 : iIns M_Lw_law 1856 .ireturn 1 := (by decide +kernel : decode code 1856 = .ok (.ireturn, 1))
theorem i_Lw_law_1857 : iGoto M_Lw_law 1857 2266 := ⟨409, (by decide +kernel : decode code 1857 = .ok (.goto (409), 3)), by decide⟩
theorem i_Lw_law_1860 : iIns M_Lw_law 1860 (.aload_n 1) 1 := (by decide +kernel : decode code 1860 = .ok (.aload_n 1, 1))
theorem i_Lw_law_1861 : iIns M_Lw_law 1861 (.aload 4) 2 := (by decide +kernel : decode code 1861 = .ok (.aload 4, 2))
theorem i_Lw_law_1863 : iCallSH M_Lw_law 1863 M_Lw_inkLength 2 := ⟨⟨237, (by decide +kernel : decode code 1863 = .ok (.invokestatic 237, 3)), lw_k5 194 rfl rfl⟩, sm_Lw_inkLength, me_Lw_inkLength, by decide, CW_Lw_inkLength⟩
theorem i_Lw_law_1866 : iIns M_Lw_law 1866 (.istore 6) 2 := (by decide +kernel : decode code 1866 = .ok (.istore 6, 2))
theorem i_Lw_law_1868 : iIns M_Lw_law 1868 (.aload_n 2) 1 := (by decide +kernel : decode code 1868 = .ok (.aload_n 2, 1))
theorem i_Lw_law_1869 : iCallV M_Lw_law 1869 M_Md_inkLength 0 14 := ⟨⟨240, (by decide +kernel : decode code 1869 = .ok (.invokevirtual 240, 3)), lw_k7 191 rfl rfl⟩, vm_Md_inkLength, me_Md_inkLength, pn_Md_inkLength⟩
theorem i_Lw_law_1872 : iIns M_Lw_law 1872 (.dstore 7) 2 := (by decide +kernel : decode code 1872 = .ok (.dstore 7, 2))
theorem i_Lw_law_1874 : iIns M_Lw_law 1874 (.aload_n 2) 1 := (by decide +kernel : decode code 1874 = .ok (.aload_n 2, 1))
theorem i_Lw_law_1875 : iCallV M_Lw_law 1875 M_Md_thrown 0 14 := ⟨⟨138, (by decide +kernel : decode code 1875 = .ok (.invokevirtual 138, 3)), lw_k6 133 rfl rfl⟩, vm_Md_thrown, me_Md_thrown, pn_Md_thrown⟩
theorem i_Lw_law_1878 : iIns M_Lw_law 1878 (.iload 6) 2 := (by decide +kernel : decode code 1878 = .ok (.iload 6, 2))
theorem i_Lw_law_1880 : iIcmp M_Lw_law 1880 .eq 1885 := ⟨5, (by decide +kernel : decode code 1880 = .ok (.if_icmp .eq (5), 3)), by decide⟩
theorem i_Lw_law_1883 : iIns M_Lw_law 1883 (.iconst 0) 1 := (by decide +kernel : decode code 1883 = .ok (.iconst 0, 1))
theorem i_Lw_law_1884 : iIns M_Lw_law 1884 .ireturn 1 := (by decide +kernel : decode code 1884 = .ok (.ireturn, 1))
theorem i_Lw_law_1885 : iIns M_Lw_law 1885 (.iload 6) 2 := (by decide +kernel : decode code 1885 = .ok (.iload 6, 2))
theorem i_Lw_law_1887 : iIf M_Lw_law 1887 .ne 1922 := ⟨35, (by decide +kernel : decode code 1887 = .ok (.ifCond .ne (35), 3)), by decide⟩
theorem i_Lw_law_1890 : iIns M_Lw_law 1890 (.aload 4) 2 := (by decide +kernel : decode code 1890 = .ok (.aload 4, 2))
theorem i_Lw_law_1892 : iIns M_Lw_law 1892 (.iconst 0) 1 := (by decide +kernel : decode code 1892 = .ok (.iconst 0, 1))
theorem i_Lw_law_1893 : iIns M_Lw_law 1893 .daload 1 := (by decide +kernel : decode code 1893 = .ok (.daload, 1))
theorem i_Lw_law_1894 : iIns M_Lw_law 1894 (.dload 7) 2 := (by decide +kernel : decode code 1894 = .ok (.dload 7, 2))
theorem i_Lw_law_1896 : iIns M_Lw_law 1896 (.dcmp .l) 1 := (by decide +kernel : decode code 1896 = .ok (.dcmp .l, 1))
theorem i_Lw_law_1897 : iIf M_Lw_law 1897 .eq 1922 := ⟨25, (by decide +kernel : decode code 1897 = .ok (.ifCond .eq (25), 3)), by decide⟩
theorem i_Lw_law_1900 : iIns M_Lw_law 1900 (.aload 4) 2 := (by decide +kernel : decode code 1900 = .ok (.aload 4, 2))
theorem i_Lw_law_1902 : iIns M_Lw_law 1902 (.iconst 0) 1 := (by decide +kernel : decode code 1902 = .ok (.iconst 0, 1))
theorem i_Lw_law_1903 : iIns M_Lw_law 1903 .daload 1 := (by decide +kernel : decode code 1903 = .ok (.daload, 1))
theorem i_Lw_law_1904 : iIns M_Lw_law 1904 (.aload 4) 2 := (by decide +kernel : decode code 1904 = .ok (.aload 4, 2))
theorem i_Lw_law_1906 : iIns M_Lw_law 1906 (.iconst 0) 1 := (by decide +kernel : decode code 1906 = .ok (.iconst 0, 1))
theorem i_Lw_law_1907 : iIns M_Lw_law 1907 .daload 1 := (by decide +kernel : decode code 1907 = .ok (.daload, 1))
theorem i_Lw_law_1908 : iIns M_Lw_law 1908 (.dcmp .l) 1 := (by decide +kernel : decode code 1908 = .ok (.dcmp .l, 1))
theorem i_Lw_law_1909 : iIf M_Lw_law 1909 .eq 1920 := ⟨11, (by decide +kernel : decode code 1909 = .ok (.ifCond .eq (11), 3)), by decide⟩
theorem i_Lw_law_1912 : iIns M_Lw_law 1912 (.dload 7) 2 := (by decide +kernel : decode code 1912 = .ok (.dload 7, 2))
theorem i_Lw_law_1914 : iIns M_Lw_law 1914 (.dload 7) 2 := (by decide +kernel : decode code 1914 = .ok (.dload 7, 2))
theorem i_Lw_law_1916 : iIns M_Lw_law 1916 (.dcmp .l) 1 := (by decide +kernel : decode code 1916 = .ok (.dcmp .l, 1))
theorem i_Lw_law_1917 : iIf M_Lw_law 1917 .ne 1922 := ⟨5, (by decide +kernel : decode code 1917 = .ok (.ifCond .ne (5), 3)), by decide⟩
theorem i_Lw_law_1920 : iIns M_Lw_law 1920 (.iconst 0) 1 := (by decide +kernel : decode code 1920 = .ok (.iconst 0, 1))
theorem i_Lw_law_1921 : iIns M_Lw_law 1921 .ireturn 1 := (by decide +kernel : decode code 1921 = .ok (.ireturn, 1))
theorem i_Lw_law_1922 : iGoto M_Lw_law 1922 2266 := ⟨344, (by decide +kernel : decode code 1922 = .ok (.goto (344), 3)), by decide⟩
theorem i_Lw_law_1925 : iIns M_Lw_law 1925 (.aload_n 1) 1 := (by decide +kernel : decode code 1925 = .ok (.aload_n 1, 1))
theorem i_Lw_law_1926 : iIns M_Lw_law 1926 (.aload_n 0) 1 := (by decide +kernel : decode code 1926 = .ok (.aload_n 0, 1))
theorem i_Lw_law_1927 : iIns M_Lw_law 1927 (.iload 5) 2 := (by decide +kernel : decode code 1927 = .ok (.iload 5, 2))
theorem i_Lw_law_1929 : iIns M_Lw_law 1929 (.iconst 1) 1 := (by decide +kernel : decode code 1929 = .ok (.iconst 1, 1))
theorem i_Lw_law_1930 : iIns M_Lw_law 1930 .iadd 1 := (by decide +kernel : decode code 1930 = .ok (.iadd, 1))
theorem i_Lw_law_1931 : iIns M_Lw_law 1931 .iaload 1 := (by decide +kernel : decode code 1931 = .ok (.iaload, 1))
theorem i_Lw_law_1932 : iIns M_Lw_law 1932 (.aload 4) 2 := (by decide +kernel : decode code 1932 = .ok (.aload 4, 2))
theorem i_Lw_law_1934 : iCallSH M_Lw_law 1934 M_Lw_extent 3 := ⟨⟨241, (by decide +kernel : decode code 1934 = .ok (.invokestatic 241, 3)), lw_k5 201 rfl rfl⟩, sm_Lw_extent, me_Lw_extent, by decide, CW_Lw_extent⟩
theorem i_Lw_law_1937 : iIns M_Lw_law 1937 (.istore 6) 2 := (by decide +kernel : decode code 1937 = .ok (.istore 6, 2))
theorem i_Lw_law_1939 : iIns M_Lw_law 1939 (.aload_n 2) 1 := (by decide +kernel : decode code 1939 = .ok (.aload_n 2, 1))
theorem i_Lw_law_1940 : iIns M_Lw_law 1940 (.aload_n 0) 1 := (by decide +kernel : decode code 1940 = .ok (.aload_n 0, 1))
theorem i_Lw_law_1941 : iIns M_Lw_law 1941 (.iload 5) 2 := (by decide +kernel : decode code 1941 = .ok (.iload 5, 2))
theorem i_Lw_law_1943 : iIns M_Lw_law 1943 (.iconst 1) 1 := (by decide +kernel : decode code 1943 = .ok (.iconst 1, 1))
theorem i_Lw_law_1944 : iIns M_Lw_law 1944 .iadd 1 := (by decide +kernel : decode code 1944 = .ok (.iadd, 1))
theorem i_Lw_law_1945 : iIns M_Lw_law 1945 .iaload 1 := (by decide +kernel : decode code 1945 = .ok (.iaload, 1))
theorem i_Lw_law_1946 : iCallV M_Lw_law 1946 M_Md_extent 1 14 := ⟨⟨244, (by decide +kernel : decode code 1946 = .ok (.invokevirtual 244, 3)), lw_k7 205 rfl rfl⟩, vm_Md_extent, me_Md_extent, pn_Md_extent⟩
theorem i_Lw_law_1949 : iIns M_Lw_law 1949 (.dstore 7) 2 := (by decide +kernel : decode code 1949 = .ok (.dstore 7, 2))
theorem i_Lw_law_1951 : iIns M_Lw_law 1951 (.aload_n 2) 1 := (by decide +kernel : decode code 1951 = .ok (.aload_n 2, 1))
theorem i_Lw_law_1952 : iCallV M_Lw_law 1952 M_Md_thrown 0 14 := ⟨⟨138, (by decide +kernel : decode code 1952 = .ok (.invokevirtual 138, 3)), lw_k6 133 rfl rfl⟩, vm_Md_thrown, me_Md_thrown, pn_Md_thrown⟩
theorem i_Lw_law_1955 : iIns M_Lw_law 1955 (.iload 6) 2 := (by decide +kernel : decode code 1955 = .ok (.iload 6, 2))
theorem i_Lw_law_1957 : iIcmp M_Lw_law 1957 .eq 1962 := ⟨5, (by decide +kernel : decode code 1957 = .ok (.if_icmp .eq (5), 3)), by decide⟩
theorem i_Lw_law_1960 : iIns M_Lw_law 1960 (.iconst 0) 1 := (by decide +kernel : decode code 1960 = .ok (.iconst 0, 1))
theorem i_Lw_law_1961 : iIns M_Lw_law 1961 .ireturn 1 := (by decide +kernel : decode code 1961 = .ok (.ireturn, 1))
theorem i_Lw_law_1962 : iIns M_Lw_law 1962 (.iload 6) 2 := (by decide +kernel : decode code 1962 = .ok (.iload 6, 2))
theorem i_Lw_law_1964 : iIf M_Lw_law 1964 .ne 1999 := ⟨35, (by decide +kernel : decode code 1964 = .ok (.ifCond .ne (35), 3)), by decide⟩
theorem i_Lw_law_1967 : iIns M_Lw_law 1967 (.aload 4) 2 := (by decide +kernel : decode code 1967 = .ok (.aload 4, 2))
theorem i_Lw_law_1969 : iIns M_Lw_law 1969 (.iconst 0) 1 := (by decide +kernel : decode code 1969 = .ok (.iconst 0, 1))
theorem i_Lw_law_1970 : iIns M_Lw_law 1970 .daload 1 := (by decide +kernel : decode code 1970 = .ok (.daload, 1))
theorem i_Lw_law_1971 : iIns M_Lw_law 1971 (.dload 7) 2 := (by decide +kernel : decode code 1971 = .ok (.dload 7, 2))
theorem i_Lw_law_1973 : iIns M_Lw_law 1973 (.dcmp .l) 1 := (by decide +kernel : decode code 1973 = .ok (.dcmp .l, 1))
theorem i_Lw_law_1974 : iIf M_Lw_law 1974 .eq 1999 := ⟨25, (by decide +kernel : decode code 1974 = .ok (.ifCond .eq (25), 3)), by decide⟩
theorem i_Lw_law_1977 : iIns M_Lw_law 1977 (.aload 4) 2 := (by decide +kernel : decode code 1977 = .ok (.aload 4, 2))
theorem i_Lw_law_1979 : iIns M_Lw_law 1979 (.iconst 0) 1 := (by decide +kernel : decode code 1979 = .ok (.iconst 0, 1))
theorem i_Lw_law_1980 : iIns M_Lw_law 1980 .daload 1 := (by decide +kernel : decode code 1980 = .ok (.daload, 1))
theorem i_Lw_law_1981 : iIns M_Lw_law 1981 (.aload 4) 2 := (by decide +kernel : decode code 1981 = .ok (.aload 4, 2))
theorem i_Lw_law_1983 : iIns M_Lw_law 1983 (.iconst 0) 1 := (by decide +kernel : decode code 1983 = .ok (.iconst 0, 1))
theorem i_Lw_law_1984 : iIns M_Lw_law 1984 .daload 1 := (by decide +kernel : decode code 1984 = .ok (.daload, 1))
theorem i_Lw_law_1985 : iIns M_Lw_law 1985 (.dcmp .l) 1 := (by decide +kernel : decode code 1985 = .ok (.dcmp .l, 1))
theorem i_Lw_law_1986 : iIf M_Lw_law 1986 .eq 1997 := ⟨11, (by decide +kernel : decode code 1986 = .ok (.ifCond .eq (11), 3)), by decide⟩
theorem i_Lw_law_1989 : iIns M_Lw_law 1989 (.dload 7) 2 := (by decide +kernel : decode code 1989 = .ok (.dload 7, 2))
theorem i_Lw_law_1991 : iIns M_Lw_law 1991 (.dload 7) 2 := (by decide +kernel : decode code 1991 = .ok (.dload 7, 2))
theorem i_Lw_law_1993 : iIns M_Lw_law 1993 (.dcmp .l) 1 := (by decide +kernel : decode code 1993 = .ok (.dcmp .l, 1))
theorem i_Lw_law_1994 : iIf M_Lw_law 1994 .ne 1999 := ⟨5, (by decide +kernel : decode code 1994 = .ok (.ifCond .ne (5), 3)), by decide⟩
theorem i_Lw_law_1997 : iIns M_Lw_law 1997 (.iconst 0) 1 := (by decide +kernel : decode code 1997 = .ok (.iconst 0, 1))
theorem i_Lw_law_1998 : iIns M_Lw_law 1998 .ireturn 1 := (by decide +kernel : decode code 1998 = .ok (.ireturn, 1))
theorem i_Lw_law_1999 : iGoto M_Lw_law 1999 2266 := ⟨267, (by decide +kernel : decode code 1999 = .ok (.goto (267), 3)), by decide⟩
theorem i_Lw_law_2002 : iIns M_Lw_law 2002 (.aload_n 1) 1 := (by decide +kernel : decode code 2002 = .ok (.aload_n 1, 1))
theorem i_Lw_law_2003 : iIns M_Lw_law 2003 (.aload_n 3) 1 := (by decide +kernel : decode code 2003 = .ok (.aload_n 3, 1))
theorem i_Lw_law_2004 : iCallSH M_Lw_law 2004 M_Lw_openDepth 2 := ⟨⟨245, (by decide +kernel : decode code 2004 = .ok (.invokestatic 245, 3)), lw_k5 217 rfl rfl⟩, sm_Lw_openDepth, me_Lw_openDepth, by decide, CW_Lw_openDepth⟩
theorem i_Lw_law_2007 : iIns M_Lw_law 2007 (.istore 6) 2 := (by decide +kernel : decode code 2007 = .ok (.istore 6, 2))
theorem i_Lw_law_2009 : iIns M_Lw_law 2009 (.aload_n 2) 1 := (by decide +kernel : decode code 2009 = .ok (.aload_n 2, 1))
theorem i_Lw_law_2010 : iCallV M_Lw_law 2010 M_Md_openDepth 0 14 := ⟨⟨247, (by decide +kernel : decode code 2010 = .ok (.invokevirtual 247, 3)), lw_k7 217 rfl rfl⟩, vm_Md_openDepth, me_Md_openDepth, pn_Md_openDepth⟩
theorem i_Lw_law_2013 : iIns M_Lw_law 2013 (.istore 7) 2 := (by decide +kernel : decode code 2013 = .ok (.istore 7, 2))
theorem i_Lw_law_2015 : iIns M_Lw_law 2015 (.aload_n 2) 1 := (by decide +kernel : decode code 2015 = .ok (.aload_n 2, 1))
theorem i_Lw_law_2016 : iCallV M_Lw_law 2016 M_Md_thrown 0 14 := ⟨⟨138, (by decide +kernel : decode code 2016 = .ok (.invokevirtual 138, 3)), lw_k6 133 rfl rfl⟩, vm_Md_thrown, me_Md_thrown, pn_Md_thrown⟩
theorem i_Lw_law_2019 : iIns M_Lw_law 2019 (.iload 6) 2 := (by decide +kernel : decode code 2019 = .ok (.iload 6, 2))
theorem i_Lw_law_2021 : iIcmp M_Lw_law 2021 .eq 2026 := ⟨5, (by decide +kernel : decode code 2021 = .ok (.if_icmp .eq (5), 3)), by decide⟩
theorem i_Lw_law_2024 : iIns M_Lw_law 2024 (.iconst 0) 1 := (by decide +kernel : decode code 2024 = .ok (.iconst 0, 1))
theorem i_Lw_law_2025 : iIns M_Lw_law 2025 .ireturn 1 := (by decide +kernel : decode code 2025 = .ok (.ireturn, 1))
theorem i_Lw_law_2026 : iIns M_Lw_law 2026 (.iload 6) 2 := (by decide +kernel : decode code 2026 = .ok (.iload 6, 2))
theorem i_Lw_law_2028 : iIf M_Lw_law 2028 .ne 2043 := ⟨15, (by decide +kernel : decode code 2028 = .ok (.ifCond .ne (15), 3)), by decide⟩
theorem i_Lw_law_2031 : iIns M_Lw_law 2031 (.aload_n 3) 1 := (by decide +kernel : decode code 2031 = .ok (.aload_n 3, 1))
theorem i_Lw_law_2032 : iIns M_Lw_law 2032 (.iconst 0) 1 := (by decide +kernel : decode code 2032 = .ok (.iconst 0, 1))
theorem i_Lw_law_2033 : iIns M_Lw_law 2033 .laload 1 := (by decide +kernel : decode code 2033 = .ok (.laload, 1))
theorem i_Lw_law_2034 : iIns M_Lw_law 2034 (.iload 7) 2 := (by decide +kernel : decode code 2034 = .ok (.iload 7, 2))
theorem i_Lw_law_2036 : iIns M_Lw_law 2036 .i2l 1 := (by decide +kernel : decode code 2036 = .ok (.i2l, 1))
theorem i_Lw_law_2037 : iIns M_Lw_law 2037 .lcmp 1 := (by decide +kernel : decode code 2037 = .ok (.lcmp, 1))
theorem i_Lw_law_2038 : iIf M_Lw_law 2038 .eq 2043 := ⟨5, (by decide +kernel : decode code 2038 = .ok (.ifCond .eq (5), 3)), by decide⟩
theorem i_Lw_law_2041 : iIns M_Lw_law 2041 (.iconst 0) 1 := (by decide +kernel : decode code 2041 = .ok (.iconst 0, 1))
theorem i_Lw_law_2042 : iIns M_Lw_law 2042 .ireturn 1 := (by decide +kernel : decode code 2042 = .ok (.ireturn, 1))
theorem i_Lw_law_2043 : iGoto M_Lw_law 2043 2266 := ⟨223, (by decide +kernel : decode code 2043 = .ok (.goto (223), 3)), by decide⟩
theorem i_Lw_law_2046 : iIns M_Lw_law 2046 (.aload_n 1) 1 := (by decide +kernel : decode code 2046 = .ok (.aload_n 1, 1))
theorem i_Lw_law_2047 : iIns M_Lw_law 2047 (.aload_n 0) 1 := (by decide +kernel : decode code 2047 = .ok (.aload_n 0, 1))
theorem i_Lw_law_2048 : iIns M_Lw_law 2048 (.iload 5) 2 := (by decide +kernel : decode code 2048 = .ok (.iload 5, 2))
theorem i_Lw_law_2050 : iIns M_Lw_law 2050 (.iconst 1) 1 := (by decide +kernel : decode code 2050 = .ok (.iconst 1, 1))
theorem i_Lw_law_2051 : iIns M_Lw_law 2051 .iadd 1 := (by decide +kernel : decode code 2051 = .ok (.iadd, 1))
theorem i_Lw_law_2052 : iIns M_Lw_law 2052 .iaload 1 := (by decide +kernel : decode code 2052 = .ok (.iaload, 1))
theorem i_Lw_law_2053 : iIns M_Lw_law 2053 (.aload_n 0) 1 := (by decide +kernel : decode code 2053 = .ok (.aload_n 0, 1))
theorem i_Lw_law_2054 : iIns M_Lw_law 2054 (.iload 5) 2 := (by decide +kernel : decode code 2054 = .ok (.iload 5, 2))
theorem i_Lw_law_2056 : iIns M_Lw_law 2056 (.iconst 2) 1 := (by decide +kernel : decode code 2056 = .ok (.iconst 2, 1))
theorem i_Lw_law_2057 : iIns M_Lw_law 2057 .iadd 1 := (by decide +kernel : decode code 2057 = .ok (.iadd, 1))
theorem i_Lw_law_2058 : iIns M_Lw_law 2058 .iaload 1 := (by decide +kernel : decode code 2058 = .ok (.iaload, 1))
theorem i_Lw_law_2059 : iIf M_Lw_law 2059 .eq 2066 := ⟨7, (by decide +kernel : decode code 2059 = .ok (.ifCond .eq (7), 3)), by decide⟩
theorem i_Lw_law_2062 : iIns M_Lw_law 2062 (.iconst 1) 1 := (by decide +kernel : decode code 2062 = .ok (.iconst 1, 1))
theorem i_Lw_law_2063 : iGoto M_Lw_law 2063 2067 := ⟨4, (by decide +kernel : decode code 2063 = .ok (.goto (4), 3)), by decide⟩
theorem i_Lw_law_2066 : iIns M_Lw_law 2066 (.iconst 0) 1 := (by decide +kernel : decode code 2066 = .ok (.iconst 0, 1))
theorem i_Lw_law_2067 : iIns M_Lw_law 2067 (.aload_n 3) 1 := (by decide +kernel : decode code 2067 = .ok (.aload_n 3, 1))
theorem i_Lw_law_2068 : iCallSH M_Lw_law 2068 M_Lw_keepPoints 4 := ⟨⟨248, (by decide +kernel : decode code 2068 = .ok (.invokestatic 248, 3)), lw_k5 224 rfl rfl⟩, sm_Lw_keepPoints, me_Lw_keepPoints, by decide, CW_Lw_keepPoints⟩
theorem i_Lw_law_2071 : iIns M_Lw_law 2071 (.istore 6) 2 := (by decide +kernel : decode code 2071 = .ok (.istore 6, 2))
theorem i_Lw_law_2073 : iIns M_Lw_law 2073 (.aload_n 2) 1 := (by decide +kernel : decode code 2073 = .ok (.aload_n 2, 1))
theorem i_Lw_law_2074 : iIns M_Lw_law 2074 (.aload_n 0) 1 := (by decide +kernel : decode code 2074 = .ok (.aload_n 0, 1))
theorem i_Lw_law_2075 : iIns M_Lw_law 2075 (.iload 5) 2 := (by decide +kernel : decode code 2075 = .ok (.iload 5, 2))
theorem i_Lw_law_2077 : iIns M_Lw_law 2077 (.iconst 1) 1 := (by decide +kernel : decode code 2077 = .ok (.iconst 1, 1))
theorem i_Lw_law_2078 : iIns M_Lw_law 2078 .iadd 1 := (by decide +kernel : decode code 2078 = .ok (.iadd, 1))
theorem i_Lw_law_2079 : iIns M_Lw_law 2079 .iaload 1 := (by decide +kernel : decode code 2079 = .ok (.iaload, 1))
theorem i_Lw_law_2080 : iIns M_Lw_law 2080 (.aload_n 0) 1 := (by decide +kernel : decode code 2080 = .ok (.aload_n 0, 1))
theorem i_Lw_law_2081 : iIns M_Lw_law 2081 (.iload 5) 2 := (by decide +kernel : decode code 2081 = .ok (.iload 5, 2))
theorem i_Lw_law_2083 : iIns M_Lw_law 2083 (.iconst 2) 1 := (by decide +kernel : decode code 2083 = .ok (.iconst 2, 1))
theorem i_Lw_law_2084 : iIns M_Lw_law 2084 .iadd 1 := (by decide +kernel : decode code 2084 = .ok (.iadd, 1))
theorem i_Lw_law_2085 : iIns M_Lw_law 2085 .iaload 1 := (by decide +kernel : decode code 2085 = .ok (.iaload, 1))
theorem i_Lw_law_2086 : iIf M_Lw_law 2086 .eq 2093 := ⟨7, (by decide +kernel : decode code 2086 = .ok (.ifCond .eq (7), 3)), by decide⟩
theorem i_Lw_law_2089 : iIns M_Lw_law 2089 (.iconst 1) 1 := (by decide +kernel : decode code 2089 = .ok (.iconst 1, 1))
theorem i_Lw_law_2090 : iGoto M_Lw_law 2090 2094 := ⟨4, (by decide +kernel : decode code 2090 = .ok (.goto (4), 3)), by decide⟩
theorem i_Lw_law_2093 : iIns M_Lw_law 2093 (.iconst 0) 1 := (by decide +kernel : decode code 2093 = .ok (.iconst 0, 1))
theorem i_Lw_law_2094 : iCallV M_Lw_law 2094 M_Md_keepPoints 2 14 := ⟨⟨251, (by decide +kernel : decode code 2094 = .ok (.invokevirtual 251, 3)), lw_k7 221 rfl rfl⟩, vm_Md_keepPoints, me_Md_keepPoints, pn_Md_keepPoints⟩
theorem i_Lw_law_2097 : iIns M_Lw_law 2097 (.istore 7) 2 := (by decide +kernel : decode code 2097 = .ok (.istore 7, 2))
theorem i_Lw_law_2099 : iIns M_Lw_law 2099 (.aload_n 2) 1 := (by decide +kernel : decode code 2099 = .ok (.aload_n 2, 1))
theorem i_Lw_law_2100 : iCallV M_Lw_law 2100 M_Md_thrown 0 14 := ⟨⟨138, (by decide +kernel : decode code 2100 = .ok (.invokevirtual 138, 3)), lw_k6 133 rfl rfl⟩, vm_Md_thrown, me_Md_thrown, pn_Md_thrown⟩
theorem i_Lw_law_2103 : iIns M_Lw_law 2103 (.iload 6) 2 := (by decide +kernel : decode code 2103 = .ok (.iload 6, 2))
theorem i_Lw_law_2105 : iIcmp M_Lw_law 2105 .eq 2110 := ⟨5, (by decide +kernel : decode code 2105 = .ok (.if_icmp .eq (5), 3)), by decide⟩
theorem i_Lw_law_2108 : iIns M_Lw_law 2108 (.iconst 0) 1 := (by decide +kernel : decode code 2108 = .ok (.iconst 0, 1))
theorem i_Lw_law_2109 : iIns M_Lw_law 2109 .ireturn 1 := (by decide +kernel : decode code 2109 = .ok (.ireturn, 1))
theorem i_Lw_law_2110 : iIns M_Lw_law 2110 (.iload 6) 2 := (by decide +kernel : decode code 2110 = .ok (.iload 6, 2))
theorem i_Lw_law_2112 : iIf M_Lw_law 2112 .ne 2127 := ⟨15, (by decide +kernel : decode code 2112 = .ok (.ifCond .ne (15), 3)), by decide⟩
theorem i_Lw_law_2115 : iIns M_Lw_law 2115 (.aload_n 3) 1 := (by decide +kernel : decode code 2115 = .ok (.aload_n 3, 1))
theorem i_Lw_law_2116 : iIns M_Lw_law 2116 (.iconst 0) 1 := (by decide +kernel : decode code 2116 = .ok (.iconst 0, 1))
theorem i_Lw_law_2117 : iIns M_Lw_law 2117 .laload 1 := (by decide +kernel : decode code 2117 = .ok (.laload, 1))
theorem i_Lw_law_2118 : iIns M_Lw_law 2118 (.iload 7) 2 := (by decide +kernel : decode code 2118 = .ok (.iload 7, 2))
theorem i_Lw_law_2120 : iIns M_Lw_law 2120 .i2l 1 := (by decide +kernel : decode code 2120 = .ok (.i2l, 1))
theorem i_Lw_law_2121 : iIns M_Lw_law 2121 .lcmp 1 := (by decide +kernel : decode code 2121 = .ok (.lcmp, 1))
theorem i_Lw_law_2122 : iIf M_Lw_law 2122 .eq 2127 := ⟨5, (by decide +kernel : decode code 2122 = .ok (.ifCond .eq (5), 3)), by decide⟩
theorem i_Lw_law_2125 : iIns M_Lw_law 2125 (.iconst 0) 1 := (by decide +kernel : decode code 2125 = .ok (.iconst 0, 1))
theorem i_Lw_law_2126 : iIns M_Lw_law 2126 .ireturn 1 := (by decide +kernel : decode code 2126 = .ok (.ireturn, 1))
theorem i_Lw_law_2127 : iGoto M_Lw_law 2127 2266 := ⟨139, (by decide +kernel : decode code 2127 = .ok (.goto (139), 3)), by decide⟩
theorem i_Lw_law_2130 : iIns M_Lw_law 2130 (.aload_n 1) 1 := (by decide +kernel : decode code 2130 = .ok (.aload_n 1, 1))
theorem i_Lw_law_2131 : iIns M_Lw_law 2131 (.aload_n 0) 1 := (by decide +kernel : decode code 2131 = .ok (.aload_n 0, 1))
theorem i_Lw_law_2132 : iIns M_Lw_law 2132 (.iload 5) 2 := (by decide +kernel : decode code 2132 = .ok (.iload 5, 2))
theorem i_Lw_law_2134 : iIns M_Lw_law 2134 (.iconst 1) 1 := (by decide +kernel : decode code 2134 = .ok (.iconst 1, 1))
theorem i_Lw_law_2135 : iIns M_Lw_law 2135 .iadd 1 := (by decide +kernel : decode code 2135 = .ok (.iadd, 1))
theorem i_Lw_law_2136 : iIns M_Lw_law 2136 .iaload 1 := (by decide +kernel : decode code 2136 = .ok (.iaload, 1))
theorem i_Lw_law_2137 : iIns M_Lw_law 2137 (.aload_n 0) 1 := (by decide +kernel : decode code 2137 = .ok (.aload_n 0, 1))
theorem i_Lw_law_2138 : iIns M_Lw_law 2138 (.iload 5) 2 := (by decide +kernel : decode code 2138 = .ok (.iload 5, 2))
theorem i_Lw_law_2140 : iIns M_Lw_law 2140 (.iconst 2) 1 := (by decide +kernel : decode code 2140 = .ok (.iconst 2, 1))
theorem i_Lw_law_2141 : iIns M_Lw_law 2141 .iadd 1 := (by decide +kernel : decode code 2141 = .ok (.iadd, 1))
theorem i_Lw_law_2142 : iIns M_Lw_law 2142 .iaload 1 := (by decide +kernel : decode code 2142 = .ok (.iaload, 1))
theorem i_Lw_law_2143 : iIns M_Lw_law 2143 (.aload_n 0) 1 := (by decide +kernel : decode code 2143 = .ok (.aload_n 0, 1))
theorem i_Lw_law_2144 : iIns M_Lw_law 2144 (.iload 5) 2 := (by decide +kernel : decode code 2144 = .ok (.iload 5, 2))
theorem i_Lw_law_2146 : iIns M_Lw_law 2146 (.iconst 3) 1 := (by decide +kernel : decode code 2146 = .ok (.iconst 3, 1))
theorem i_Lw_law_2147 : iIns M_Lw_law 2147 .iadd 1 := (by decide +kernel : decode code 2147 = .ok (.iadd, 1))
theorem i_Lw_law_2148 : iIns M_Lw_law 2148 .iaload 1 := (by decide +kernel : decode code 2148 = .ok (.iaload, 1))
theorem i_Lw_law_2149 : iIns M_Lw_law 2149 (.aload 4) 2 := (by decide +kernel : decode code 2149 = .ok (.aload 4, 2))
theorem i_Lw_law_2151 : iCallSH M_Lw_law 2151 M_Lw_remainder 5 := ⟨⟨252, (by decide +kernel : decode code 2151 = .ok (.invokestatic 252, 3)), lw_k5 235 rfl rfl⟩, sm_Lw_remainder, me_Lw_remainder, by decide, CW_Lw_remainder⟩
theorem i_Lw_law_2154 : iIns M_Lw_law 2154 (.istore 6) 2 := (by decide +kernel : decode code 2154 = .ok (.istore 6, 2))
theorem i_Lw_law_2156 : iIns M_Lw_law 2156 (.aload_n 2) 1 := (by decide +kernel : decode code 2156 = .ok (.aload_n 2, 1))
theorem i_Lw_law_2157 : iIns M_Lw_law 2157 (.aload_n 0) 1 := (by decide +kernel : decode code 2157 = .ok (.aload_n 0, 1))
theorem i_Lw_law_2158 : iIns M_Lw_law 2158 (.iload 5) 2 := (by decide +kernel : decode code 2158 = .ok (.iload 5, 2))
theorem i_Lw_law_2160 : iIns M_Lw_law 2160 (.iconst 1) 1 := (by decide +kernel : decode code 2160 = .ok (.iconst 1, 1))
theorem i_Lw_law_2161 : iIns M_Lw_law 2161 .iadd 1 := (by decide +kernel : decode code 2161 = .ok (.iadd, 1))
theorem i_Lw_law_2162 : iIns M_Lw_law 2162 .iaload 1 := (by decide +kernel : decode code 2162 = .ok (.iaload, 1))
theorem i_Lw_law_2163 : iIns M_Lw_law 2163 (.aload_n 0) 1 := (by decide +kernel : decode code 2163 = .ok (.aload_n 0, 1))
theorem i_Lw_law_2164 : iIns M_Lw_law 2164 (.iload 5) 2 := (by decide +kernel : decode code 2164 = .ok (.iload 5, 2))
theorem i_Lw_law_2166 : iIns M_Lw_law 2166 (.iconst 2) 1 := (by decide +kernel : decode code 2166 = .ok (.iconst 2, 1))
theorem i_Lw_law_2167 : iIns M_Lw_law 2167 .iadd 1 := (by decide +kernel : decode code 2167 = .ok (.iadd, 1))
theorem i_Lw_law_2168 : iIns M_Lw_law 2168 .iaload 1 := (by decide +kernel : decode code 2168 = .ok (.iaload, 1))
theorem i_Lw_law_2169 : iIns M_Lw_law 2169 (.aload_n 0) 1 := (by decide +kernel : decode code 2169 = .ok (.aload_n 0, 1))
theorem i_Lw_law_2170 : iIns M_Lw_law 2170 (.iload 5) 2 := (by decide +kernel : decode code 2170 = .ok (.iload 5, 2))
theorem i_Lw_law_2172 : iIns M_Lw_law 2172 (.iconst 3) 1 := (by decide +kernel : decode code 2172 = .ok (.iconst 3, 1))
theorem i_Lw_law_2173 : iIns M_Lw_law 2173 .iadd 1 := (by decide +kernel : decode code 2173 = .ok (.iadd, 1))
theorem i_Lw_law_2174 : iIns M_Lw_law 2174 .iaload 1 := (by decide +kernel : decode code 2174 = .ok (.iaload, 1))
theorem i_Lw_law_2175 : iCallV M_Lw_law 2175 M_Md_remainder 3 14 := ⟨⟨255, (by decide +kernel : decode code 2175 = .ok (.invokevirtual 255, 3)), lw_k7 225 rfl rfl⟩, vm_Md_remainder, me_Md_remainder, pn_Md_remainder⟩
theorem i_Lw_law_2178 : iIns M_Lw_law 2178 (.dstore 7) 2 := (by decide +kernel : decode code 2178 = .ok (.dstore 7, 2))
theorem i_Lw_law_2180 : iIns M_Lw_law 2180 (.aload_n 2) 1 := (by decide +kernel : decode code 2180 = .ok (.aload_n 2, 1))
theorem i_Lw_law_2181 : iCallV M_Lw_law 2181 M_Md_thrown 0 14 := ⟨⟨138, (by decide +kernel : decode code 2181 = .ok (.invokevirtual 138, 3)), lw_k6 133 rfl rfl⟩, vm_Md_thrown, me_Md_thrown, pn_Md_thrown⟩
theorem i_Lw_law_2184 : iIns M_Lw_law 2184 (.iload 6) 2 := (by decide +kernel : decode code 2184 = .ok (.iload 6, 2))
theorem i_Lw_law_2186 : iIcmp M_Lw_law 2186 .eq 2191 := ⟨5, (by decide +kernel : decode code 2186 = .ok (.if_icmp .eq (5), 3)), by decide⟩
theorem i_Lw_law_2189 : iIns M_Lw_law 2189 (.iconst 0) 1 := (by decide +kernel : decode code 2189 = .ok (.iconst 0, 1))
theorem i_Lw_law_2190 : iIns M_Lw_law 2190 .ireturn 1 := (by decide +kernel : decode code 2190 = .ok (.ireturn, 1))
theorem i_Lw_law_2191 : iIns M_Lw_law 2191 (.iload 6) 2 := (by decide +kernel : decode code 2191 = .ok (.iload 6, 2))
theorem i_Lw_law_2193 : iIf M_Lw_law 2193 .ne 2228 := ⟨35, (by decide +kernel : decode code 2193 = .ok (.ifCond .ne (35), 3)), by decide⟩
theorem i_Lw_law_2196 : iIns M_Lw_law 2196 (.aload 4) 2 := (by decide +kernel : decode code 2196 = .ok (.aload 4, 2))
theorem i_Lw_law_2198 : iIns M_Lw_law 2198 (.iconst 0) 1 := (by decide +kernel : decode code 2198 = .ok (.iconst 0, 1))
theorem i_Lw_law_2199 : iIns M_Lw_law 2199 .daload 1 := (by decide +kernel : decode code 2199 = .ok (.daload, 1))
theorem i_Lw_law_2200 : iIns M_Lw_law 2200 (.dload 7) 2 := (by decide +kernel : decode code 2200 = .ok (.dload 7, 2))
theorem i_Lw_law_2202 : iIns M_Lw_law 2202 (.dcmp .l) 1 := (by decide +kernel : decode code 2202 = .ok (.dcmp .l, 1))
theorem i_Lw_law_2203 : iIf M_Lw_law 2203 .eq 2228 := ⟨25, (by decide +kernel : decode code 2203 = .ok (.ifCond .eq (25), 3)), by decide⟩
theorem i_Lw_law_2206 : iIns M_Lw_law 2206 (.aload 4) 2 := (by decide +kernel : decode code 2206 = .ok (.aload 4, 2))
theorem i_Lw_law_2208 : iIns M_Lw_law 2208 (.iconst 0) 1 := (by decide +kernel : decode code 2208 = .ok (.iconst 0, 1))
theorem i_Lw_law_2209 : iIns M_Lw_law 2209 .daload 1 := (by decide +kernel : decode code 2209 = .ok (.daload, 1))
theorem i_Lw_law_2210 : iIns M_Lw_law 2210 (.aload 4) 2 := (by decide +kernel : decode code 2210 = .ok (.aload 4, 2))
theorem i_Lw_law_2212 : iIns M_Lw_law 2212 (.iconst 0) 1 := (by decide +kernel : decode code 2212 = .ok (.iconst 0, 1))
theorem i_Lw_law_2213 : iIns M_Lw_law 2213 .daload 1 := (by decide +kernel : decode code 2213 = .ok (.daload, 1))
theorem i_Lw_law_2214 : iIns M_Lw_law 2214 (.dcmp .l) 1 := (by decide +kernel : decode code 2214 = .ok (.dcmp .l, 1))
theorem i_Lw_law_2215 : iIf M_Lw_law 2215 .eq 2226 := ⟨11, (by decide +kernel : decode code 2215 = .ok (.ifCond .eq (11), 3)), by decide⟩
theorem i_Lw_law_2218 : iIns M_Lw_law 2218 (.dload 7) 2 := (by decide +kernel : decode code 2218 = .ok (.dload 7, 2))
theorem i_Lw_law_2220 : iIns M_Lw_law 2220 (.dload 7) 2 := (by decide +kernel : decode code 2220 = .ok (.dload 7, 2))
theorem i_Lw_law_2222 : iIns M_Lw_law 2222 (.dcmp .l) 1 := (by decide +kernel : decode code 2222 = .ok (.dcmp .l, 1))
theorem i_Lw_law_2223 : iIf M_Lw_law 2223 .ne 2228 := ⟨5, (by decide +kernel : decode code 2223 = .ok (.ifCond .ne (5), 3)), by decide⟩
theorem i_Lw_law_2226 : iIns M_Lw_law 2226 (.iconst 0) 1 := (by decide +kernel : decode code 2226 = .ok (.iconst 0, 1))
theorem i_Lw_law_2227 : iIns M_Lw_law 2227 .ireturn 1 := (by decide +kernel : decode code 2227 = .ok (.ireturn, 1))
theorem i_Lw_law_2228 : iGoto M_Lw_law 2228 2266 := ⟨38, (by decide +kernel : decode code 2228 = .ok (.goto (38), 3)), by decide⟩
theorem i_Lw_law_2231 : iIns M_Lw_law 2231 (.aload_n 1) 1 := (by decide +kernel : decode code 2231 = .ok (.aload_n 1, 1))
theorem i_Lw_law_2232 : iCallV M_Lw_law 2232 M_Pr_save 0 13 := ⟨⟨256, (by decide +kernel : decode code 2232 = .ok (.invokevirtual 256, 3)), lw_k2 172 rfl rfl⟩, vm_Pr_save, me_Pr_save, pn_Pr_save⟩
theorem i_Lw_law_2235 : iIns M_Lw_law 2235 (.aload_n 2) 1 := (by decide +kernel : decode code 2235 = .ok (.aload_n 2, 1))
theorem i_Lw_law_2236 : iCallV M_Lw_law 2236 M_Md_save 0 14 := ⟨⟨259, (by decide +kernel : decode code 2236 = .ok (.invokevirtual 259, 3)), lw_k7 229 rfl rfl⟩, vm_Md_save, me_Md_save, pn_Md_save⟩
theorem i_Lw_law_2239 : iGoto M_Lw_law 2239 2266 := ⟨27, (by decide +kernel : decode code 2239 = .ok (.goto (27), 3)), by decide⟩
theorem i_Lw_law_2242 : iIns M_Lw_law 2242 (.aload_n 1) 1 := (by decide +kernel : decode code 2242 = .ok (.aload_n 1, 1))
theorem i_Lw_law_2243 : iCallSH M_Lw_law 2243 M_Lw_restore 1 := ⟨⟨260, (by decide +kernel : decode code 2243 = .ok (.invokestatic 260, 3)), lw_k6 12 rfl rfl⟩, sm_Lw_restore, me_Lw_restore, by decide, CW_Lw_restore⟩
theorem i_Lw_law_2246 : iIns M_Lw_law 2246 (.istore 6) 2 := (by decide +kernel : decode code 2246 = .ok (.istore 6, 2))
theorem i_Lw_law_2248 : iIns M_Lw_law 2248 (.aload_n 2) 1 := (by decide +kernel : decode code 2248 = .ok (.aload_n 2, 1))
theorem i_Lw_law_2249 : iCallV M_Lw_law 2249 M_Md_restore 0 14 := ⟨⟨263, (by decide +kernel : decode code 2249 = .ok (.invokevirtual 263, 3)), lw_k7 233 rfl rfl⟩, vm_Md_restore, me_Md_restore, pn_Md_restore⟩
theorem i_Lw_law_2252 : iIns M_Lw_law 2252 (.aload_n 2) 1 := (by decide +kernel : decode code 2252 = .ok (.aload_n 2, 1))
theorem i_Lw_law_2253 : iCallV M_Lw_law 2253 M_Md_thrown 0 14 := ⟨⟨138, (by decide +kernel : decode code 2253 = .ok (.invokevirtual 138, 3)), lw_k6 133 rfl rfl⟩, vm_Md_thrown, me_Md_thrown, pn_Md_thrown⟩
theorem i_Lw_law_2256 : iIns M_Lw_law 2256 (.iload 6) 2 := (by decide +kernel : decode code 2256 = .ok (.iload 6, 2))
theorem i_Lw_law_2258 : iIcmp M_Lw_law 2258 .eq 2263 := ⟨5, (by decide +kernel : decode code 2258 = .ok (.if_icmp .eq (5), 3)), by decide⟩
theorem i_Lw_law_2261 : iIns M_Lw_law 2261 (.iconst 0) 1 := (by decide +kernel : decode code 2261 = .ok (.iconst 0, 1))
theorem i_Lw_law_2262 : iIns M_Lw_law 2262 .ireturn 1 := (by decide +kernel : decode code 2262 = .ok (.ireturn, 1))
theorem i_Lw_law_2263 : iGoto M_Lw_law 2263 2266 := ⟨3, (by decide +kernel : decode code 2263 = .ok (.goto (3), 3)), by decide⟩
theorem i_Lw_law_2266 : iIns M_Lw_law 2266 (.iinc 5 (4)) 3 := (by decide +kernel : decode code 2266 = .ok (.iinc 5 (4), 3))
theorem i_Lw_law_2269 : iGoto M_Lw_law 2269 28 := ⟨-2241, (by decide +kernel : decode code 2269 = .ok (.goto (-2241), 3)), by decide⟩
theorem i_Lw_law_2272 : iIns M_Lw_law 2272 (.iconst 1) 1 := (by decide +kernel : decode code 2272 = .ok (.iconst 1, 1))
theorem i_Lw_law_2273 : iIns M_Lw_law 2273 .ireturn 1 := (by decide +kernel : decode code 2273 = .ok (.ireturn, 1))
