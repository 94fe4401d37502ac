theorem q0 : Cond.selects RX2 yX2_begin yX2_begin ∈ z_tb := z_tb_in (i := 0) (by decide +kernel) rfl
theorem q1 : Cond.selects RX2 yX2_isComplete yX2_isComplete ∈ z_tb := z_tb_in (i := 1) (by decide +kernel) rfl
theorem q2 : Cond.selects RX2 yX2_append yX2_append ∈ z_tb := z_tb_in (i := 2) (by decide +kernel) rfl
theorem q3 : Cond.selects RX2 yX2_nextPosition yX2_nextPosition ∈ z_tb := z_tb_in (i := 3) (by decide +kernel) rfl
theorem q4 : Cond.selects RX2 yX2_finishedSteps yX2_finishedSteps ∈ z_tb := z_tb_in (i := 4) (by decide +kernel) rfl
theorem q5 : Cond.selects RX2 yX2_turnOf yX2_turnOf ∈ z_tb := z_tb_in (i := 5) (by decide +kernel) rfl
theorem q6 : Cond.selects RX5 yX5_readingAt yX5_readingAt ∈ z_tb := z_tb_in (i := 6) (by decide +kernel) rfl
theorem q7 : Cond.selects RX2 yX2_at yX2_at ∈ z_tb := z_tb_in (i := 7) (by decide +kernel) rfl
theorem q8 : Cond.selects RX2 yX2_replaceSpikes yX2_replaceSpikes ∈ z_tb := z_tb_in (i := 8) (by decide +kernel) rfl
theorem q9 : Cond.selects RX2 yX2_partAt yX2_partAt ∈ z_tb := z_tb_in (i := 9) (by decide +kernel) rfl
theorem q10 : Cond.selects RX2 yX2_sumAt yX2_sumAt ∈ z_tb := z_tb_in (i := 10) (by decide +kernel) rfl
theorem q11 : Cond.selects RX2 yX2_spindleAt yX2_spindleAt ∈ z_tb := z_tb_in (i := 11) (by decide +kernel) rfl
theorem q12 : Cond.selects RX2 yX2_greatestResidual yX2_greatestResidual ∈ z_tb := z_tb_in (i := 12) (by decide +kernel) rfl
theorem q13 : Cond.selects RX7 yX7_sourceError yX7_sourceError ∈ z_tb := z_tb_in (i := 13) (by decide +kernel) rfl
theorem q14 : Cond.selects RX7 yX7_fillNext yX7_fillNext ∈ z_tb := z_tb_in (i := 14) (by decide +kernel) rfl
theorem q15 : Cond.selects RX7 yX7_sourceAt yX7_sourceAt ∈ z_tb := z_tb_in (i := 15) (by decide +kernel) rfl
theorem q16 : Cond.selects RX5 yX5_profileOf yX5_profileOf ∈ z_tb := z_tb_in (i := 16) (by decide +kernel) rfl
theorem q17 : Cond.selects RX7 yX7_makeNextPresent yX7_makeNextPresent ∈ z_tb := z_tb_in (i := 17) (by decide +kernel) rfl
theorem q18 : Cond.selects RX1 yX1_append yX1_append ∈ z_tb := z_tb_in (i := 18) (by decide +kernel) rfl
theorem q19 : Cond.selects RX1 yX1_present yX1_present ∈ z_tb := z_tb_in (i := 19) (by decide +kernel) rfl
theorem q20 : Cond.selects RX7 yX7_isNextTooGreat yX7_isNextTooGreat ∈ z_tb := z_tb_in (i := 20) (by decide +kernel) rfl
theorem q21 : Cond.selects RX1 yX1_stepBack yX1_stepBack ∈ z_tb := z_tb_in (i := 21) (by decide +kernel) rfl
theorem q22 : Cond.selects RX1 yX1_stepForward yX1_stepForward ∈ z_tb := z_tb_in (i := 22) (by decide +kernel) rfl
theorem q23 : Cond.selects RX7 yX7_circleBy yX7_circleBy ∈ z_tb := z_tb_in (i := 23) (by decide +kernel) rfl
theorem q24 : Cond.selects RX0 yX0_fit yX0_fit ∈ z_tb := z_tb_in (i := 24) (by decide +kernel) rfl
theorem q25 : Cond.selects RX0 yX0_search yX0_search ∈ z_tb := z_tb_in (i := 25) (by decide +kernel) rfl
theorem q26 : Cond.selects RX0 yX0_measure yX0_measure ∈ z_tb := z_tb_in (i := 26) (by decide +kernel) rfl
theorem q27 : Cond.selects RX0 yX0_valueOf yX0_valueOf ∈ z_tb := z_tb_in (i := 27) (by decide +kernel) rfl
theorem q28 : Cond.selects RX0 yX0_pickNear yX0_pickNear ∈ z_tb := z_tb_in (i := 28) (by decide +kernel) rfl
theorem q29 : Cond.selects RX0 yX0_valueAt yX0_valueAt ∈ z_tb := z_tb_in (i := 29) (by decide +kernel) rfl
theorem q30 : Cond.selects RX0 yX0_width yX0_width ∈ z_tb := z_tb_in (i := 30) (by decide +kernel) rfl
theorem q31 : Cond.selects RX0 yX0_firstWith yX0_firstWith ∈ z_tb := z_tb_in (i := 31) (by decide +kernel) rfl
theorem q32 : Cond.selects RX0 yX0_countDownTo yX0_countDownTo ∈ z_tb := z_tb_in (i := 32) (by decide +kernel) rfl
theorem q33 : Cond.selects RX0 yX0_leastDepth yX0_leastDepth ∈ z_tb := z_tb_in (i := 33) (by decide +kernel) rfl
theorem q34 : Cond.selects RX6 yX6_hasHeight yX6_hasHeight ∈ z_tb := z_tb_in (i := 34) (by decide +kernel) rfl
theorem q35 : Cond.selects RX6 yX6_append yX6_append ∈ z_tb := z_tb_in (i := 35) (by decide +kernel) rfl
theorem q36 : Cond.selects RX6 yX6_lacks yX6_lacks ∈ z_tb := z_tb_in (i := 36) (by decide +kernel) rfl
theorem q37 : Cond.selects RX6 yX6_axisAt yX6_axisAt ∈ z_tb := z_tb_in (i := 37) (by decide +kernel) rfl
theorem q38 : Cond.selects RX6 yX6_cylinderWidth yX6_cylinderWidth ∈ z_tb := z_tb_in (i := 38) (by decide +kernel) rfl
theorem q39 : Cond.selects RX6 yX6_farthest yX6_farthest ∈ z_tb := z_tb_in (i := 39) (by decide +kernel) rfl
theorem q40 : Cond.selects RX6 yX6_distanceFromAxis yX6_distanceFromAxis ∈ z_tb := z_tb_in (i := 40) (by decide +kernel) rfl
theorem q41 : Cond.selects RX6 yX6_spreadOfMeans yX6_spreadOfMeans ∈ z_tb := z_tb_in (i := 41) (by decide +kernel) rfl
theorem q42 : Cond.selects RX6 yX6_mismatch yX6_mismatch ∈ z_tb := z_tb_in (i := 42) (by decide +kernel) rfl
theorem q43 : Cond.selects RX6 yX6_bestMatch yX6_bestMatch ∈ z_tb := z_tb_in (i := 43) (by decide +kernel) rfl
theorem q44 : Cond.selects RX3 yX3_append yX3_append ∈ z_tb := z_tb_in (i := 44) (by decide +kernel) rfl
theorem q45 : Cond.selects RX7 yX7_valueOfRule yX7_valueOfRule ∈ z_tb := z_tb_in (i := 45) (by decide +kernel) rfl
theorem q46 : Cond.selects RX4 yX4_append yX4_append ∈ z_tb := z_tb_in (i := 46) (by decide +kernel) rfl
theorem q47 : Cond.selects RX4 yX4_parse yX4_parse ∈ z_tb := z_tb_in (i := 47) (by decide +kernel) rfl
theorem q48 : Cond.selects RX4 yX4_parseItem yX4_parseItem ∈ z_tb := z_tb_in (i := 48) (by decide +kernel) rfl
theorem q49 : Cond.selects RX4 yX4_current yX4_current ∈ z_tb := z_tb_in (i := 49) (by decide +kernel) rfl
theorem q50 : Cond.selects RX4 yX4_parseLobes yX4_parseLobes ∈ z_tb := z_tb_in (i := 50) (by decide +kernel) rfl
theorem q51 : Cond.selects RX4 yX4_takeNumber yX4_takeNumber ∈ z_tb := z_tb_in (i := 51) (by decide +kernel) rfl
theorem q52 : Cond.selects RX4 yX4_isAtDigit yX4_isAtDigit ∈ z_tb := z_tb_in (i := 52) (by decide +kernel) rfl
theorem q53 : Cond.selects RX4 yX4_fail yX4_fail ∈ z_tb := z_tb_in (i := 53) (by decide +kernel) rfl
theorem q54 : Cond.selects RX4 yX4_take yX4_take ∈ z_tb := z_tb_in (i := 54) (by decide +kernel) rfl
theorem q55 : Cond.selects RX4 yX4_note yX4_note ∈ z_tb := z_tb_in (i := 55) (by decide +kernel) rfl
theorem q56 : Cond.selects RX4 yX4_parseEccentricity yX4_parseEccentricity ∈ z_tb := z_tb_in (i := 56) (by decide +kernel) rfl
theorem q57 : Cond.selects RX4 yX4_parseSteps yX4_parseSteps ∈ z_tb := z_tb_in (i := 57) (by decide +kernel) rfl
theorem q58 : Cond.selects RX5 yX5_reset yX5_reset ∈ z_tb := z_tb_in (i := 58) (by decide +kernel) rfl
theorem q59 : Cond.selects RX5 yX5_shiftTo yX5_shiftTo ∈ z_tb := z_tb_in (i := 59) (by decide +kernel) rfl
theorem q60 : Cond.selects RX7 yX7_obey yX7_obey ∈ z_tb := z_tb_in (i := 60) (by decide +kernel) rfl
theorem q61 : Cond.selects RX5 yX5_superpose yX5_superpose ∈ z_tb := z_tb_in (i := 61) (by decide +kernel) rfl
theorem q62 : Cond.selects RX8 yX8_isComplete yX8_isComplete ∈ z_tb := z_tb_in (i := 62) (by decide +kernel) rfl
theorem q63 : Cond.selects RX8 yX8_noStep yX8_noStep ∈ z_tb := z_tb_in (i := 63) (by decide +kernel) rfl
theorem q64 : Cond.selects RX8 yX8_isFinished yX8_isFinished ∈ z_tb := z_tb_in (i := 64) (by decide +kernel) rfl
theorem q65 : Cond.selects RX8 yX8_partAt yX8_partAt ∈ z_tb := z_tb_in (i := 65) (by decide +kernel) rfl
theorem q66 : Cond.selects RX8 yX8_turned yX8_turned ∈ z_tb := z_tb_in (i := 66) (by decide +kernel) rfl
theorem q67 : Cond.selects RX8 yX8_sumAt yX8_sumAt ∈ z_tb := z_tb_in (i := 67) (by decide +kernel) rfl
theorem q68 : Cond.selects RX8 yX8_spindleAt yX8_spindleAt ∈ z_tb := z_tb_in (i := 68) (by decide +kernel) rfl
theorem q69 : Cond.selects RX8 yX8_fetches yX8_fetches ∈ z_tb := z_tb_in (i := 69) (by decide +kernel) rfl
theorem q70 : Cond.selects RX8 yX8_takes yX8_takes ∈ z_tb := z_tb_in (i := 70) (by decide +kernel) rfl
theorem q71 : Cond.selects RX8 yX8_harmonicOf yX8_harmonicOf ∈ z_tb := z_tb_in (i := 71) (by decide +kernel) rfl
theorem q72 : Cond.selects RX8 yX8_harmonicIn yX8_harmonicIn ∈ z_tb := z_tb_in (i := 72) (by decide +kernel) rfl
theorem q73 : Cond.selects RX8 yX8_sine yX8_sine ∈ z_tb := z_tb_in (i := 73) (by decide +kernel) rfl
theorem q74 : Cond.selects RX8 yX8_cosine yX8_cosine ∈ z_tb := z_tb_in (i := 74) (by decide +kernel) rfl
theorem q75 : Cond.selects RX8 yX8_keeps yX8_keeps ∈ z_tb := z_tb_in (i := 75) (by decide +kernel) rfl
theorem q76 : Cond.selects RX8 yX8_isTooFar yX8_isTooFar ∈ z_tb := z_tb_in (i := 76) (by decide +kernel) rfl
theorem q77 : Cond.selects RX8 yX8_strengthOf yX8_strengthOf ∈ z_tb := z_tb_in (i := 77) (by decide +kernel) rfl
theorem q78 : Cond.selects RX8 yX8_findCentre yX8_findCentre ∈ z_tb := z_tb_in (i := 78) (by decide +kernel) rfl
theorem q79 : Cond.selects RX8 yX8_valueBy yX8_valueBy ∈ z_tb := z_tb_in (i := 79) (by decide +kernel) rfl
theorem q80 : Cond.selects RX8 yX8_findEnds yX8_findEnds ∈ z_tb := z_tb_in (i := 80) (by decide +kernel) rfl
theorem q81 : Cond.selects RX8 yX8_offAt yX8_offAt ∈ z_tb := z_tb_in (i := 81) (by decide +kernel) rfl
theorem q82 : Cond.selects RX8 yX8_layOff yX8_layOff ∈ z_tb := z_tb_in (i := 82) (by decide +kernel) rfl
theorem q83 : Cond.selects RX8 yX8_roundnessOf yX8_roundnessOf ∈ z_tb := z_tb_in (i := 83) (by decide +kernel) rfl
theorem q84 : Cond.selects RX8 yX8_extremeAt yX8_extremeAt ∈ z_tb := z_tb_in (i := 84) (by decide +kernel) rfl
theorem q85 : Cond.selects RX8 yX8_countTo yX8_countTo ∈ z_tb := z_tb_in (i := 85) (by decide +kernel) rfl
theorem q86 : Cond.selects RX8 yX8_noTrace yX8_noTrace ∈ z_tb := z_tb_in (i := 86) (by decide +kernel) rfl
theorem q87 : Cond.selects RX8 yX8_traceHarmonic yX8_traceHarmonic ∈ z_tb := z_tb_in (i := 87) (by decide +kernel) rfl
theorem q88 : Cond.selects RX8 yX8_axisAt yX8_axisAt ∈ z_tb := z_tb_in (i := 88) (by decide +kernel) rfl
theorem q89 : Cond.selects RX8 yX8_farOf yX8_farOf ∈ z_tb := z_tb_in (i := 89) (by decide +kernel) rfl
theorem q90 : Cond.selects RX8 yX8_unlike yX8_unlike ∈ z_tb := z_tb_in (i := 90) (by decide +kernel) rfl
theorem q91 : Cond.selects RX8 yX8_ruleNow yX8_ruleNow ∈ z_tb := z_tb_in (i := 91) (by decide +kernel) rfl
theorem q92 : Cond.selects RX8 yX8_readAll yX8_readAll ∈ z_tb := z_tb_in (i := 92) (by decide +kernel) rfl
theorem q93 : Cond.selects RX8 yX8_readItem yX8_readItem ∈ z_tb := z_tb_in (i := 93) (by decide +kernel) rfl
theorem q94 : Cond.selects RX8 yX8_isAt yX8_isAt ∈ z_tb := z_tb_in (i := 94) (by decide +kernel) rfl
theorem q95 : Cond.selects RX8 yX8_fail yX8_fail ∈ z_tb := z_tb_in (i := 95) (by decide +kernel) rfl
theorem q96 : Cond.selects RX8 yX8_number yX8_number ∈ z_tb := z_tb_in (i := 96) (by decide +kernel) rfl
theorem q97 : Cond.selects RX8 yX8_isDigit yX8_isDigit ∈ z_tb := z_tb_in (i := 97) (by decide +kernel) rfl
theorem q98 : Cond.selects RX8 yX8_readPlace yX8_readPlace ∈ z_tb := z_tb_in (i := 98) (by decide +kernel) rfl
theorem q99 : Cond.selects RX8 yX8_expect yX8_expect ∈ z_tb := z_tb_in (i := 99) (by decide +kernel) rfl
theorem q100 : Cond.selects RX8 yX8_readLobes yX8_readLobes ∈ z_tb := z_tb_in (i := 100) (by decide +kernel) rfl
theorem q101 : Cond.initialized RL ∈ z_tb := z_tb_in (i := 101) (by decide +kernel) rfl
theorem q102 : Cond.initialized RX7 ∈ z_tb := z_tb_in (i := 102) (by decide +kernel) rfl
theorem q103 : Cond.initialized RX2 ∈ z_tb := z_tb_in (i := 103) (by decide +kernel) rfl
theorem q104 : Cond.initialized RX5 ∈ z_tb := z_tb_in (i := 104) (by decide +kernel) rfl
theorem q105 : Cond.initialized RX1 ∈ z_tb := z_tb_in (i := 105) (by decide +kernel) rfl
theorem q106 : Cond.initialized RX6 ∈ z_tb := z_tb_in (i := 106) (by decide +kernel) rfl
theorem q107 : Cond.initialized RX3 ∈ z_tb := z_tb_in (i := 107) (by decide +kernel) rfl
theorem q108 : Cond.initialized RX0 ∈ z_tb := z_tb_in (i := 108) (by decide +kernel) rfl
theorem q109 : Cond.initialized RX4 ∈ z_tb := z_tb_in (i := 109) (by decide +kernel) rfl
theorem q110 : Cond.initialized RX8 ∈ z_tb := z_tb_in (i := 110) (by decide +kernel) rfl
theorem q111 : Cond.initialized RJ9 ∈ z_tb := z_tb_in (i := 111) (by decide +kernel) rfl
theorem q112 : Cond.initialized RJ10 ∈ z_tb := z_tb_in (i := 112) (by decide +kernel) rfl
theorem q113 : Cond.classLink RL 7 RX7 ∈ z_tb := z_tb_in (i := 113) (by decide +kernel) rfl
theorem q114 : Cond.instantiable RX7 8 ∈ z_tb := z_tb_in (i := 114) (by decide +kernel) rfl
theorem q115 : Cond.methodLink RL 9 yX7_init ∈ z_tb := z_tb_in (i := 115) (by decide +kernel) rfl
theorem q116 : Cond.instanceMethod yX7_init ∈ z_tb := z_tb_in (i := 116) (by decide +kernel) rfl
theorem q117 : Cond.code yX7_init cX7_init 2 none ∈ z_tb := z_tb_in (i := 117) (by decide +kernel) rfl
theorem q121 : Cond.classLink RX7 9 RX2 ∈ z_tb := z_tb_in (i := 121) (by decide +kernel) rfl
theorem q122 : Cond.instantiable RX2 5 ∈ z_tb := z_tb_in (i := 122) (by decide +kernel) rfl
theorem q124 : Cond.instanceMethod yX2_init ∈ z_tb := z_tb_in (i := 124) (by decide +kernel) rfl
theorem q125 : Cond.code yX2_init cX2_init 1 none ∈ z_tb := z_tb_in (i := 125) (by decide +kernel) rfl
theorem q127 : Cond.fieldLink RX2 9 "RoundnessInstrument$Measurement" "readings" "[I" ∈ z_tb := z_tb_in (i := 127) (by decide +kernel) rfl
theorem q128 : Cond.fieldLink RX2 15 "RoundnessInstrument$Measurement" "old" "[I" ∈ z_tb := z_tb_in (i := 128) (by decide +kernel) rfl
theorem q129 : Cond.fieldLink RX2 18 "RoundnessInstrument$Measurement" "parts" "[J" ∈ z_tb := z_tb_in (i := 129) (by decide +kernel) rfl
theorem q130 : Cond.fieldLink RX2 22 "RoundnessInstrument$Measurement" "steps" "I" ∈ z_tb := z_tb_in (i := 130) (by decide +kernel) rfl
theorem q132 : Cond.fieldLink RX2 26 "RoundnessInstrument$Measurement" "count" "I" ∈ z_tb := z_tb_in (i := 132) (by decide +kernel) rfl
theorem q145 : Cond.arrayClass FieldType.int ∈ z_tb := z_tb_in (i := 145) (by decide +kernel) rfl
theorem q146 : Cond.arrayClass FieldType.long ∈ z_tb := z_tb_in (i := 146) (by decide +kernel) rfl
theorem q147 : Cond.classLink RX7 18 RX5 ∈ z_tb := z_tb_in (i := 147) (by decide +kernel) rfl
theorem q148 : Cond.instantiable RX5 4 ∈ z_tb := z_tb_in (i := 148) (by decide +kernel) rfl
theorem q150 : Cond.instanceMethod yX5_init ∈ z_tb := z_tb_in (i := 150) (by decide +kernel) rfl
theorem q151 : Cond.code yX5_init cX5_init 1 none ∈ z_tb := z_tb_in (i := 151) (by decide +kernel) rfl
theorem q153 : Cond.fieldLink RX5 9 "RoundnessInstrument$Simulation" "truePart" "[I" ∈ z_tb := z_tb_in (i := 153) (by decide +kernel) rfl
theorem q154 : Cond.fieldLink RX5 15 "RoundnessInstrument$Simulation" "trueSpindle" "[I" ∈ z_tb := z_tb_in (i := 154) (by decide +kernel) rfl
theorem q155 : Cond.fieldLink RX5 18 "RoundnessInstrument$Simulation" "eccentricX" "I" ∈ z_tb := z_tb_in (i := 155) (by decide +kernel) rfl
theorem q156 : Cond.fieldLink RX5 22 "RoundnessInstrument$Simulation" "eccentricY" "I" ∈ z_tb := z_tb_in (i := 156) (by decide +kernel) rfl
theorem q166 : Cond.classLink RX7 25 RX1 ∈ z_tb := z_tb_in (i := 166) (by decide +kernel) rfl
theorem q167 : Cond.instantiable RX1 4 ∈ z_tb := z_tb_in (i := 167) (by decide +kernel) rfl
theorem q169 : Cond.instanceMethod yX1_init ∈ z_tb := z_tb_in (i := 169) (by decide +kernel) rfl
theorem q170 : Cond.code yX1_init cX1_init 1 none ∈ z_tb := z_tb_in (i := 170) (by decide +kernel) rfl
theorem q172 : Cond.classLink RX1 11 "[[J" ∈ z_tb := z_tb_in (i := 172) (by decide +kernel) rfl
theorem q174 : Cond.fieldLink RX1 13 "RoundnessInstrument$History" "ring" "[[J" ∈ z_tb := z_tb_in (i := 174) (by decide +kernel) rfl
theorem q175 : Cond.fieldLink RX1 16 "RoundnessInstrument$History" "oldest" "I" ∈ z_tb := z_tb_in (i := 175) (by decide +kernel) rfl
theorem q176 : Cond.fieldLink RX1 20 "RoundnessInstrument$History" "undoable" "I" ∈ z_tb := z_tb_in (i := 176) (by decide +kernel) rfl
theorem q178 : Cond.fieldLink RX1 23 "RoundnessInstrument$History" "redoable" "I" ∈ z_tb := z_tb_in (i := 178) (by decide +kernel) rfl
theorem q189 : Cond.classLink RX7 32 RX0 ∈ z_tb := z_tb_in (i := 189) (by decide +kernel) rfl
theorem q191 : Cond.classLink RX7 38 RX6 ∈ z_tb := z_tb_in (i := 191) (by decide +kernel) rfl
theorem q192 : Cond.instantiable RX6 6 ∈ z_tb := z_tb_in (i := 192) (by decide +kernel) rfl
theorem q194 : Cond.instanceMethod yX6_init ∈ z_tb := z_tb_in (i := 194) (by decide +kernel) rfl
theorem q195 : Cond.code yX6_init cX6_init 1 none ∈ z_tb := z_tb_in (i := 195) (by decide +kernel) rfl
theorem q197 : Cond.classLink RX6 11 "[[J" ∈ z_tb := z_tb_in (i := 197) (by decide +kernel) rfl
theorem q198 : Cond.fieldLink RX6 13 "RoundnessInstrument$Traces" "profiles" "[[J" ∈ z_tb := z_tb_in (i := 198) (by decide +kernel) rfl
theorem q200 : Cond.fieldLink RX6 16 "RoundnessInstrument$Traces" "heights" "[I" ∈ z_tb := z_tb_in (i := 200) (by decide +kernel) rfl
theorem q202 : Cond.fieldLink RX6 20 "RoundnessInstrument$Traces" "xs" "[J" ∈ z_tb := z_tb_in (i := 202) (by decide +kernel) rfl
theorem q204 : Cond.fieldLink RX6 24 "RoundnessInstrument$Traces" "ys" "[J" ∈ z_tb := z_tb_in (i := 204) (by decide +kernel) rfl
theorem q206 : Cond.fieldLink RX6 27 "RoundnessInstrument$Traces" "means" "[J" ∈ z_tb := z_tb_in (i := 206) (by decide +kernel) rfl
theorem q208 : Cond.fieldLink RX6 30 "RoundnessInstrument$Traces" "count" "I" ∈ z_tb := z_tb_in (i := 208) (by decide +kernel) rfl
theorem q223 : Cond.classLink RX7 45 RX3 ∈ z_tb := z_tb_in (i := 223) (by decide +kernel) rfl
theorem q224 : Cond.instantiable RX3 6 ∈ z_tb := z_tb_in (i := 224) (by decide +kernel) rfl
theorem q226 : Cond.instanceMethod yX3_init ∈ z_tb := z_tb_in (i := 226) (by decide +kernel) rfl
theorem q227 : Cond.code yX3_init cX3_init 2 none ∈ z_tb := z_tb_in (i := 227) (by decide +kernel) rfl
theorem q229 : Cond.classLink RX3 22 RX0 ∈ z_tb := z_tb_in (i := 229) (by decide +kernel) rfl
theorem q230 : Cond.instantiable RX0 9 ∈ z_tb := z_tb_in (i := 230) (by decide +kernel) rfl
theorem q232 : Cond.instanceMethod yX0_init ∈ z_tb := z_tb_in (i := 232) (by decide +kernel) rfl
theorem q233 : Cond.code yX0_init cX0_init 1 none ∈ z_tb := z_tb_in (i := 233) (by decide +kernel) rfl
theorem q235 : Cond.fieldLink RX0 9 "RoundnessInstrument$Circle" "profile" "[J" ∈ z_tb := z_tb_in (i := 235) (by decide +kernel) rfl
theorem q236 : Cond.fieldLink RX0 15 "RoundnessInstrument$Circle" "deviations" "[J" ∈ z_tb := z_tb_in (i := 236) (by decide +kernel) rfl
theorem q238 : Cond.fieldLink RX0 18 "RoundnessInstrument$Circle" "near" "[I" ∈ z_tb := z_tb_in (i := 238) (by decide +kernel) rfl
theorem q239 : Cond.fieldLink RX0 22 "RoundnessInstrument$Circle" "nearCount" "I" ∈ z_tb := z_tb_in (i := 239) (by decide +kernel) rfl
theorem q240 : Cond.fieldLink RX0 26 "RoundnessInstrument$Circle" "method" "I" ∈ z_tb := z_tb_in (i := 240) (by decide +kernel) rfl
theorem q241 : Cond.fieldLink RX0 29 "RoundnessInstrument$Circle" "x" "J" ∈ z_tb := z_tb_in (i := 241) (by decide +kernel) rfl
theorem q243 : Cond.fieldLink RX0 33 "RoundnessInstrument$Circle" "y" "J" ∈ z_tb := z_tb_in (i := 243) (by decide +kernel) rfl
theorem q245 : Cond.fieldLink RX0 36 "RoundnessInstrument$Circle" "greatest" "J" ∈ z_tb := z_tb_in (i := 245) (by decide +kernel) rfl
theorem q247 : Cond.fieldLink RX0 39 "RoundnessInstrument$Circle" "least" "J" ∈ z_tb := z_tb_in (i := 247) (by decide +kernel) rfl
theorem q268 : Cond.fieldLink RX3 9 "RoundnessInstrument$Rules" "firsts" "[I" ∈ z_tb := z_tb_in (i := 268) (by decide +kernel) rfl
theorem q270 : Cond.fieldLink RX3 13 "RoundnessInstrument$Rules" "lasts" "[I" ∈ z_tb := z_tb_in (i := 270) (by decide +kernel) rfl
theorem q272 : Cond.fieldLink RX3 16 "RoundnessInstrument$Rules" "methods" "[I" ∈ z_tb := z_tb_in (i := 272) (by decide +kernel) rfl
theorem q274 : Cond.fieldLink RX3 19 "RoundnessInstrument$Rules" "limits" "[I" ∈ z_tb := z_tb_in (i := 274) (by decide +kernel) rfl
theorem q276 : Cond.fieldLink RX3 24 "RoundnessInstrument$Rules" "circles" "[LRoundnessInstrument$Circle;" ∈ z_tb := z_tb_in (i := 276) (by decide +kernel) rfl
theorem q278 : Cond.fieldLink RX3 28 "RoundnessInstrument$Rules" "count" "I" ∈ z_tb := z_tb_in (i := 278) (by decide +kernel) rfl
theorem q293 : Cond.classLink RX7 52 RX4 ∈ z_tb := z_tb_in (i := 293) (by decide +kernel) rfl
theorem q294 : Cond.instantiable RX4 10 ∈ z_tb := z_tb_in (i := 294) (by decide +kernel) rfl
theorem q296 : Cond.instanceMethod yX4_init ∈ z_tb := z_tb_in (i := 296) (by decide +kernel) rfl
theorem q297 : Cond.code yX4_init cX4_init 1 none ∈ z_tb := z_tb_in (i := 297) (by decide +kernel) rfl
theorem q299 : Cond.fieldLink RX4 11 "RoundnessInstrument$Script" "characters" "[C" ∈ z_tb := z_tb_in (i := 299) (by decide +kernel) rfl
theorem q300 : Cond.fieldLink RX4 15 "RoundnessInstrument$Script" "kinds" "[I" ∈ z_tb := z_tb_in (i := 300) (by decide +kernel) rfl
theorem q302 : Cond.fieldLink RX4 19 "RoundnessInstrument$Script" "firsts" "[I" ∈ z_tb := z_tb_in (i := 302) (by decide +kernel) rfl
theorem q304 : Cond.fieldLink RX4 22 "RoundnessInstrument$Script" "seconds" "[I" ∈ z_tb := z_tb_in (i := 304) (by decide +kernel) rfl
theorem q306 : Cond.fieldLink RX4 25 "RoundnessInstrument$Script" "thirds" "[I" ∈ z_tb := z_tb_in (i := 306) (by decide +kernel) rfl
theorem q308 : Cond.fieldLink RX4 28 "RoundnessInstrument$Script" "length" "I" ∈ z_tb := z_tb_in (i := 308) (by decide +kernel) rfl
theorem q310 : Cond.fieldLink RX4 32 "RoundnessInstrument$Script" "cursor" "I" ∈ z_tb := z_tb_in (i := 310) (by decide +kernel) rfl
theorem q311 : Cond.fieldLink RX4 35 "RoundnessInstrument$Script" "items" "I" ∈ z_tb := z_tb_in (i := 311) (by decide +kernel) rfl
theorem q313 : Cond.fieldLink RX4 38 "RoundnessInstrument$Script" "number" "I" ∈ z_tb := z_tb_in (i := 313) (by decide +kernel) rfl
theorem q314 : Cond.fieldLink RX4 41 "RoundnessInstrument$Script" "fault" "I" ∈ z_tb := z_tb_in (i := 314) (by decide +kernel) rfl
theorem q337 : Cond.arrayClass FieldType.char ∈ z_tb := z_tb_in (i := 337) (by decide +kernel) rfl
theorem q339 : Cond.fieldLink RX7 12 "RoundnessInstrument" "measurement" "LRoundnessInstrument$Measurement;" ∈ z_tb := z_tb_in (i := 339) (by decide +kernel) rfl
theorem q340 : Cond.fieldLink RX7 21 "RoundnessInstrument" "simulation" "LRoundnessInstrument$Simulation;" ∈ z_tb := z_tb_in (i := 340) (by decide +kernel) rfl
theorem q341 : Cond.fieldLink RX7 28 "RoundnessInstrument" "history" "LRoundnessInstrument$History;" ∈ z_tb := z_tb_in (i := 341) (by decide +kernel) rfl
theorem q342 : Cond.fieldLink RX7 34 "RoundnessInstrument" "circles" "[LRoundnessInstrument$Circle;" ∈ z_tb := z_tb_in (i := 342) (by decide +kernel) rfl
theorem q343 : Cond.fieldLink RX7 41 "RoundnessInstrument" "traces" "LRoundnessInstrument$Traces;" ∈ z_tb := z_tb_in (i := 343) (by decide +kernel) rfl
theorem q344 : Cond.fieldLink RX7 48 "RoundnessInstrument" "rules" "LRoundnessInstrument$Rules;" ∈ z_tb := z_tb_in (i := 344) (by decide +kernel) rfl
theorem q345 : Cond.fieldLink RX7 55 "RoundnessInstrument" "script" "LRoundnessInstrument$Script;" ∈ z_tb := z_tb_in (i := 345) (by decide +kernel) rfl
theorem q346 : Cond.fieldLink RX7 59 "RoundnessInstrument" "next" "[J" ∈ z_tb := z_tb_in (i := 346) (by decide +kernel) rfl
theorem q364 : Cond.methodLink RL 13 yX7_setSteps ∈ z_tb := z_tb_in (i := 364) (by decide +kernel) rfl
theorem q365 : Cond.instanceMethod yX7_setSteps ∈ z_tb := z_tb_in (i := 365) (by decide +kernel) rfl
theorem q366 : Cond.selects RX7 yX7_setSteps yX7_setSteps ∈ z_tb := z_tb_in (i := 366) (by decide +kernel) rfl
theorem q367 : Cond.code yX7_setSteps cX7_setSteps 3 (some FieldType.int) ∈ z_tb := z_tb_in (i := 367) (by decide +kernel) rfl
theorem q368 : Cond.methodLink RX7 64 yX7_isStepCount ∈ z_tb := z_tb_in (i := 368) (by decide +kernel) rfl
theorem q369 : Cond.static yX7_isStepCount ∈ z_tb := z_tb_in (i := 369) (by decide +kernel) rfl
theorem q370 : Cond.code yX7_isStepCount cX7_isStepCount 1 (some FieldType.boolean) ∈ z_tb := z_tb_in (i := 370) (by decide +kernel) rfl
theorem q371 : Cond.constant RX7 68 (-1000001) ∈ z_tb := z_tb_in (i := 371) (by decide +kernel) rfl
theorem q374 : Cond.instanceMethod yX2_begin ∈ z_tb := z_tb_in (i := 374) (by decide +kernel) rfl
theorem q375 : Cond.code yX2_begin cX2_begin 2 none ∈ z_tb := z_tb_in (i := 375) (by decide +kernel) rfl
theorem q376 : Cond.methodLink RL 18 yX7_read ∈ z_tb := z_tb_in (i := 376) (by decide +kernel) rfl
theorem q377 : Cond.instanceMethod yX7_read ∈ z_tb := z_tb_in (i := 377) (by decide +kernel) rfl
theorem q378 : Cond.selects RX7 yX7_read yX7_read ∈ z_tb := z_tb_in (i := 378) (by decide +kernel) rfl
theorem q379 : Cond.code yX7_read cX7_read 2 (some FieldType.int) ∈ z_tb := z_tb_in (i := 379) (by decide +kernel) rfl
theorem q380 : Cond.methodLink RX7 77 yX7_isOutside ∈ z_tb := z_tb_in (i := 380) (by decide +kernel) rfl
theorem q381 : Cond.static yX7_isOutside ∈ z_tb := z_tb_in (i := 381) (by decide +kernel) rfl
theorem q382 : Cond.code yX7_isOutside cX7_isOutside 3 (some FieldType.boolean) ∈ z_tb := z_tb_in (i := 382) (by decide +kernel) rfl
theorem q385 : Cond.instanceMethod yX2_isComplete ∈ z_tb := z_tb_in (i := 385) (by decide +kernel) rfl
theorem q386 : Cond.code yX2_isComplete cX2_isComplete 1 (some FieldType.boolean) ∈ z_tb := z_tb_in (i := 386) (by decide +kernel) rfl
theorem q387 : Cond.constant RX7 85 (-1000002) ∈ z_tb := z_tb_in (i := 387) (by decide +kernel) rfl
theorem q390 : Cond.instanceMethod yX2_append ∈ z_tb := z_tb_in (i := 390) (by decide +kernel) rfl
theorem q391 : Cond.code yX2_append cX2_append 2 none ∈ z_tb := z_tb_in (i := 391) (by decide +kernel) rfl
theorem q392 : Cond.methodLink RL 22 yX7_simulateStep ∈ z_tb := z_tb_in (i := 392) (by decide +kernel) rfl
theorem q393 : Cond.instanceMethod yX7_simulateStep ∈ z_tb := z_tb_in (i := 393) (by decide +kernel) rfl
theorem q394 : Cond.selects RX7 yX7_simulateStep yX7_simulateStep ∈ z_tb := z_tb_in (i := 394) (by decide +kernel) rfl
theorem q395 : Cond.code yX7_simulateStep cX7_simulateStep 3 (some FieldType.int) ∈ z_tb := z_tb_in (i := 395) (by decide +kernel) rfl
theorem q398 : Cond.instanceMethod yX2_nextPosition ∈ z_tb := z_tb_in (i := 398) (by decide +kernel) rfl
theorem q399 : Cond.code yX2_nextPosition cX2_nextPosition 1 (some FieldType.int) ∈ z_tb := z_tb_in (i := 399) (by decide +kernel) rfl
theorem q402 : Cond.instanceMethod yX2_finishedSteps ∈ z_tb := z_tb_in (i := 402) (by decide +kernel) rfl
theorem q403 : Cond.code yX2_finishedSteps cX2_finishedSteps 1 (some FieldType.int) ∈ z_tb := z_tb_in (i := 403) (by decide +kernel) rfl
theorem q406 : Cond.instanceMethod yX2_turnOf ∈ z_tb := z_tb_in (i := 406) (by decide +kernel) rfl
theorem q407 : Cond.code yX2_turnOf cX2_turnOf 2 (some FieldType.int) ∈ z_tb := z_tb_in (i := 407) (by decide +kernel) rfl
theorem q410 : Cond.instanceMethod yX5_readingAt ∈ z_tb := z_tb_in (i := 410) (by decide +kernel) rfl
theorem q411 : Cond.code yX5_readingAt cX5_readingAt 6 (some FieldType.int) ∈ z_tb := z_tb_in (i := 411) (by decide +kernel) rfl
theorem q413 : Cond.static yX7_place ∈ z_tb := z_tb_in (i := 413) (by decide +kernel) rfl
theorem q414 : Cond.code yX7_place cX7_place 1 (some FieldType.int) ∈ z_tb := z_tb_in (i := 414) (by decide +kernel) rfl
theorem q415 : Cond.methodLink RX7 368 yJ9_floorMod_7cf53 ∈ z_tb := z_tb_in (i := 415) (by decide +kernel) rfl
theorem q416 : Cond.static yJ9_floorMod_7cf53 ∈ z_tb := z_tb_in (i := 416) (by decide +kernel) rfl
theorem q417 : Cond.code yJ9_floorMod_7cf53 cJ9_floorMod_7cf53 3 (some FieldType.int) ∈ z_tb := z_tb_in (i := 417) (by decide +kernel) rfl
theorem q419 : Cond.static yX7_wave ∈ z_tb := z_tb_in (i := 419) (by decide +kernel) rfl
theorem q420 : Cond.code yX7_wave cX7_wave 6 (some FieldType.long) ∈ z_tb := z_tb_in (i := 420) (by decide +kernel) rfl
theorem q421 : Cond.fieldLink RX7 371 "RoundnessInstrument" "COSINES" "[I" ∈ z_tb := z_tb_in (i := 421) (by decide +kernel) rfl
theorem q423 : Cond.fieldLink RX7 377 "RoundnessInstrument" "SINES" "[I" ∈ z_tb := z_tb_in (i := 423) (by decide +kernel) rfl
theorem q425 : Cond.constantLong RX7 297 (1000000) ∈ z_tb := z_tb_in (i := 425) (by decide +kernel) rfl
theorem q426 : Cond.methodLink RX7 374 yJ9_floorDiv_f86c9 ∈ z_tb := z_tb_in (i := 426) (by decide +kernel) rfl
theorem q427 : Cond.static yJ9_floorDiv_f86c9 ∈ z_tb := z_tb_in (i := 427) (by decide +kernel) rfl
theorem q428 : Cond.code yJ9_floorDiv_f86c9 cJ9_floorDiv_f86c9 6 (some FieldType.long) ∈ z_tb := z_tb_in (i := 428) (by decide +kernel) rfl
theorem q430 : Cond.static yX7_clamp ∈ z_tb := z_tb_in (i := 430) (by decide +kernel) rfl
theorem q431 : Cond.code yX7_clamp cX7_clamp 3 (some FieldType.int) ∈ z_tb := z_tb_in (i := 431) (by decide +kernel) rfl
theorem q432 : Cond.methodLink RL 27 yX7_removeReadings ∈ z_tb := z_tb_in (i := 432) (by decide +kernel) rfl
theorem q433 : Cond.instanceMethod yX7_removeReadings ∈ z_tb := z_tb_in (i := 433) (by decide +kernel) rfl
theorem q434 : Cond.selects RX7 yX7_removeReadings yX7_removeReadings ∈ z_tb := z_tb_in (i := 434) (by decide +kernel) rfl
theorem q435 : Cond.code yX7_removeReadings cX7_removeReadings 2 (some FieldType.int) ∈ z_tb := z_tb_in (i := 435) (by decide +kernel) rfl
theorem q436 : Cond.methodLink RL 31 yX7_progress ∈ z_tb := z_tb_in (i := 436) (by decide +kernel) rfl
theorem q437 : Cond.instanceMethod yX7_progress ∈ z_tb := z_tb_in (i := 437) (by decide +kernel) rfl
theorem q438 : Cond.selects RX7 yX7_progress yX7_progress ∈ z_tb := z_tb_in (i := 438) (by decide +kernel) rfl
theorem q439 : Cond.code yX7_progress cX7_progress 2 (some FieldType.int) ∈ z_tb := z_tb_in (i := 439) (by decide +kernel) rfl
theorem q440 : Cond.constant RX7 107 (-1000003) ∈ z_tb := z_tb_in (i := 440) (by decide +kernel) rfl
theorem q441 : Cond.methodLink RL 35 yX7_reading ∈ z_tb := z_tb_in (i := 441) (by decide +kernel) rfl
theorem q442 : Cond.instanceMethod yX7_reading ∈ z_tb := z_tb_in (i := 442) (by decide +kernel) rfl
theorem q443 : Cond.selects RX7 yX7_reading yX7_reading ∈ z_tb := z_tb_in (i := 443) (by decide +kernel) rfl
theorem q444 : Cond.code yX7_reading cX7_reading 3 (some FieldType.int) ∈ z_tb := z_tb_in (i := 444) (by decide +kernel) rfl
theorem q445 : Cond.methodLink RX7 108 yX7_isNoPosition ∈ z_tb := z_tb_in (i := 445) (by decide +kernel) rfl
theorem q446 : Cond.static yX7_isNoPosition ∈ z_tb := z_tb_in (i := 446) (by decide +kernel) rfl
theorem q447 : Cond.code yX7_isNoPosition cX7_isNoPosition 1 (some FieldType.boolean) ∈ z_tb := z_tb_in (i := 447) (by decide +kernel) rfl
theorem q450 : Cond.instanceMethod yX2_at ∈ z_tb := z_tb_in (i := 450) (by decide +kernel) rfl
theorem q451 : Cond.code yX2_at cX2_at 3 (some FieldType.int) ∈ z_tb := z_tb_in (i := 451) (by decide +kernel) rfl
theorem q452 : Cond.methodLink RX2 29 yJ9_floorMod_7cf53 ∈ z_tb := z_tb_in (i := 452) (by decide +kernel) rfl
theorem q453 : Cond.methodLink RL 40 yX7_despike ∈ z_tb := z_tb_in (i := 453) (by decide +kernel) rfl
theorem q454 : Cond.instanceMethod yX7_despike ∈ z_tb := z_tb_in (i := 454) (by decide +kernel) rfl
theorem q455 : Cond.selects RX7 yX7_despike yX7_despike ∈ z_tb := z_tb_in (i := 455) (by decide +kernel) rfl
theorem q456 : Cond.code yX7_despike cX7_despike 3 (some FieldType.int) ∈ z_tb := z_tb_in (i := 456) (by decide +kernel) rfl
theorem q459 : Cond.instanceMethod yX2_replaceSpikes ∈ z_tb := z_tb_in (i := 459) (by decide +kernel) rfl
theorem q460 : Cond.code yX2_replaceSpikes cX2_replaceSpikes 7 (some FieldType.int) ∈ z_tb := z_tb_in (i := 460) (by decide +kernel) rfl
theorem q465 : Cond.methodLink RX2 45 yJ9_abs_0f7a4 ∈ z_tb := z_tb_in (i := 465) (by decide +kernel) rfl
theorem q466 : Cond.static yJ9_abs_0f7a4 ∈ z_tb := z_tb_in (i := 466) (by decide +kernel) rfl
theorem q467 : Cond.code yJ9_abs_0f7a4 cJ9_abs_0f7a4 1 (some FieldType.int) ∈ z_tb := z_tb_in (i := 467) (by decide +kernel) rfl
theorem q468 : Cond.methodLink RX2 48 yJ9_floorDiv_7cf53 ∈ z_tb := z_tb_in (i := 468) (by decide +kernel) rfl
theorem q469 : Cond.static yJ9_floorDiv_7cf53 ∈ z_tb := z_tb_in (i := 469) (by decide +kernel) rfl
theorem q470 : Cond.code yJ9_floorDiv_7cf53 cJ9_floorDiv_7cf53 3 (some FieldType.int) ∈ z_tb := z_tb_in (i := 470) (by decide +kernel) rfl
theorem q471 : Cond.methodLink RL 44 yX7_part ∈ z_tb := z_tb_in (i := 471) (by decide +kernel) rfl
theorem q472 : Cond.instanceMethod yX7_part ∈ z_tb := z_tb_in (i := 472) (by decide +kernel) rfl
theorem q473 : Cond.selects RX7 yX7_part yX7_part ∈ z_tb := z_tb_in (i := 473) (by decide +kernel) rfl
theorem q474 : Cond.code yX7_part cX7_part 2 (some FieldType.long) ∈ z_tb := z_tb_in (i := 474) (by decide +kernel) rfl
theorem q475 : Cond.constantLong RX7 117 (-9223372036854775808) ∈ z_tb := z_tb_in (i := 475) (by decide +kernel) rfl
theorem q478 : Cond.instanceMethod yX2_partAt ∈ z_tb := z_tb_in (i := 478) (by decide +kernel) rfl
theorem q479 : Cond.code yX2_partAt cX2_partAt 6 (some FieldType.long) ∈ z_tb := z_tb_in (i := 479) (by decide +kernel) rfl
theorem q480 : Cond.methodLink RX2 64 yX2_turnOf ∈ z_tb := z_tb_in (i := 480) (by decide +kernel) rfl
theorem q481 : Cond.methodLink RX2 51 yX2_at ∈ z_tb := z_tb_in (i := 481) (by decide +kernel) rfl
theorem q482 : Cond.methodLink RX2 56 yX2_sumAt ∈ z_tb := z_tb_in (i := 482) (by decide +kernel) rfl
theorem q484 : Cond.instanceMethod yX2_sumAt ∈ z_tb := z_tb_in (i := 484) (by decide +kernel) rfl
theorem q485 : Cond.code yX2_sumAt cX2_sumAt 5 (some FieldType.long) ∈ z_tb := z_tb_in (i := 485) (by decide +kernel) rfl
theorem q486 : Cond.constantLong RX2 54 (1000000) ∈ z_tb := z_tb_in (i := 486) (by decide +kernel) rfl
theorem q488 : Cond.static yX7_divide ∈ z_tb := z_tb_in (i := 488) (by decide +kernel) rfl
theorem q489 : Cond.code yX7_divide cX7_divide 4 (some FieldType.long) ∈ z_tb := z_tb_in (i := 489) (by decide +kernel) rfl
theorem q490 : Cond.methodLink RL 49 yX7_spindle ∈ z_tb := z_tb_in (i := 490) (by decide +kernel) rfl
theorem q491 : Cond.instanceMethod yX7_spindle ∈ z_tb := z_tb_in (i := 491) (by decide +kernel) rfl
theorem q492 : Cond.selects RX7 yX7_spindle yX7_spindle ∈ z_tb := z_tb_in (i := 492) (by decide +kernel) rfl
theorem q493 : Cond.code yX7_spindle cX7_spindle 2 (some FieldType.long) ∈ z_tb := z_tb_in (i := 493) (by decide +kernel) rfl
theorem q496 : Cond.instanceMethod yX2_spindleAt ∈ z_tb := z_tb_in (i := 496) (by decide +kernel) rfl
theorem q497 : Cond.code yX2_spindleAt cX2_spindleAt 2 (some FieldType.long) ∈ z_tb := z_tb_in (i := 497) (by decide +kernel) rfl
theorem q498 : Cond.methodLink RL 53 yX7_isBlind ∈ z_tb := z_tb_in (i := 498) (by decide +kernel) rfl
theorem q499 : Cond.instanceMethod yX7_isBlind ∈ z_tb := z_tb_in (i := 499) (by decide +kernel) rfl
theorem q500 : Cond.selects RX7 yX7_isBlind yX7_isBlind ∈ z_tb := z_tb_in (i := 500) (by decide +kernel) rfl
theorem q501 : Cond.code yX7_isBlind cX7_isBlind 3 (some FieldType.int) ∈ z_tb := z_tb_in (i := 501) (by decide +kernel) rfl
theorem q502 : Cond.methodLink RL 57 yX7_residual ∈ z_tb := z_tb_in (i := 502) (by decide +kernel) rfl
theorem q503 : Cond.instanceMethod yX7_residual ∈ z_tb := z_tb_in (i := 503) (by decide +kernel) rfl
theorem q504 : Cond.selects RX7 yX7_residual yX7_residual ∈ z_tb := z_tb_in (i := 504) (by decide +kernel) rfl
theorem q505 : Cond.code yX7_residual cX7_residual 1 (some FieldType.long) ∈ z_tb := z_tb_in (i := 505) (by decide +kernel) rfl
theorem q508 : Cond.instanceMethod yX2_greatestResidual ∈ z_tb := z_tb_in (i := 508) (by decide +kernel) rfl
theorem q509 : Cond.code yX2_greatestResidual cX2_greatestResidual 9 (some FieldType.long) ∈ z_tb := z_tb_in (i := 509) (by decide +kernel) rfl
theorem q510 : Cond.methodLink RX2 67 yX2_partAt ∈ z_tb := z_tb_in (i := 510) (by decide +kernel) rfl
theorem q511 : Cond.methodLink RX2 70 yX2_spindleAt ∈ z_tb := z_tb_in (i := 511) (by decide +kernel) rfl
theorem q512 : Cond.methodLink RX2 73 yJ9_abs_067f4 ∈ z_tb := z_tb_in (i := 512) (by decide +kernel) rfl
theorem q513 : Cond.static yJ9_abs_067f4 ∈ z_tb := z_tb_in (i := 513) (by decide +kernel) rfl
theorem q514 : Cond.code yJ9_abs_067f4 cJ9_abs_067f4 2 (some FieldType.long) ∈ z_tb := z_tb_in (i := 514) (by decide +kernel) rfl
theorem q515 : Cond.methodLink RX2 76 yJ9_max_f86c9 ∈ z_tb := z_tb_in (i := 515) (by decide +kernel) rfl
theorem q516 : Cond.static yJ9_max_f86c9 ∈ z_tb := z_tb_in (i := 516) (by decide +kernel) rfl
theorem q517 : Cond.code yJ9_max_f86c9 cJ9_max_f86c9 4 (some FieldType.long) ∈ z_tb := z_tb_in (i := 517) (by decide +kernel) rfl
theorem q518 : Cond.methodLink RL 62 yX7_load ∈ z_tb := z_tb_in (i := 518) (by decide +kernel) rfl
theorem q519 : Cond.instanceMethod yX7_load ∈ z_tb := z_tb_in (i := 519) (by decide +kernel) rfl
theorem q520 : Cond.selects RX7 yX7_load yX7_load ∈ z_tb := z_tb_in (i := 520) (by decide +kernel) rfl
theorem q521 : Cond.code yX7_load cX7_load 4 (some FieldType.int) ∈ z_tb := z_tb_in (i := 521) (by decide +kernel) rfl
theorem q522 : Cond.methodLink RX7 130 yX7_sourceError ∈ z_tb := z_tb_in (i := 522) (by decide +kernel) rfl
theorem q524 : Cond.instanceMethod yX7_sourceError ∈ z_tb := z_tb_in (i := 524) (by decide +kernel) rfl
theorem q525 : Cond.code yX7_sourceError cX7_sourceError 3 (some FieldType.int) ∈ z_tb := z_tb_in (i := 525) (by decide +kernel) rfl
theorem q526 : Cond.methodLink RX7 133 yX7_fillNext ∈ z_tb := z_tb_in (i := 526) (by decide +kernel) rfl
theorem q528 : Cond.instanceMethod yX7_fillNext ∈ z_tb := z_tb_in (i := 528) (by decide +kernel) rfl
theorem q529 : Cond.code yX7_fillNext cX7_fillNext 4 none ∈ z_tb := z_tb_in (i := 529) (by decide +kernel) rfl
theorem q530 : Cond.methodLink RX7 331 yX7_sourceAt ∈ z_tb := z_tb_in (i := 530) (by decide +kernel) rfl
theorem q532 : Cond.instanceMethod yX7_sourceAt ∈ z_tb := z_tb_in (i := 532) (by decide +kernel) rfl
theorem q533 : Cond.code yX7_sourceAt cX7_sourceAt 4 (some FieldType.long) ∈ z_tb := z_tb_in (i := 533) (by decide +kernel) rfl
theorem q536 : Cond.instanceMethod yX5_profileOf ∈ z_tb := z_tb_in (i := 536) (by decide +kernel) rfl
theorem q537 : Cond.code yX5_profileOf cX5_profileOf 2 (some (FieldType.array FieldType.int)) ∈ z_tb := z_tb_in (i := 537) (by decide +kernel) rfl
theorem q538 : Cond.methodLink RX7 137 yX7_makeNextPresent ∈ z_tb := z_tb_in (i := 538) (by decide +kernel) rfl
theorem q540 : Cond.instanceMethod yX7_makeNextPresent ∈ z_tb := z_tb_in (i := 540) (by decide +kernel) rfl
theorem q541 : Cond.code yX7_makeNextPresent cX7_makeNextPresent 1 (some FieldType.int) ∈ z_tb := z_tb_in (i := 541) (by decide +kernel) rfl
theorem q544 : Cond.instanceMethod yX1_append ∈ z_tb := z_tb_in (i := 544) (by decide +kernel) rfl
theorem q545 : Cond.code yX1_append cX1_append 3 (some FieldType.boolean) ∈ z_tb := z_tb_in (i := 545) (by decide +kernel) rfl
theorem q546 : Cond.methodLink RX1 26 yX1_present ∈ z_tb := z_tb_in (i := 546) (by decide +kernel) rfl
theorem q548 : Cond.instanceMethod yX1_present ∈ z_tb := z_tb_in (i := 548) (by decide +kernel) rfl
theorem q549 : Cond.code yX1_present cX1_present 1 (some (FieldType.array FieldType.long)) ∈ z_tb := z_tb_in (i := 549) (by decide +kernel) rfl
theorem q551 : Cond.static yX7_isSame ∈ z_tb := z_tb_in (i := 551) (by decide +kernel) rfl
theorem q552 : Cond.code yX7_isSame cX7_isSame 3 (some FieldType.boolean) ∈ z_tb := z_tb_in (i := 552) (by decide +kernel) rfl
theorem q554 : Cond.methodLink RL 66 yX7_profile ∈ z_tb := z_tb_in (i := 554) (by decide +kernel) rfl
theorem q555 : Cond.instanceMethod yX7_profile ∈ z_tb := z_tb_in (i := 555) (by decide +kernel) rfl
theorem q556 : Cond.selects RX7 yX7_profile yX7_profile ∈ z_tb := z_tb_in (i := 556) (by decide +kernel) rfl
theorem q557 : Cond.code yX7_profile cX7_profile 2 (some FieldType.long) ∈ z_tb := z_tb_in (i := 557) (by decide +kernel) rfl
theorem q559 : Cond.methodLink RL 70 yX7_rotate ∈ z_tb := z_tb_in (i := 559) (by decide +kernel) rfl
theorem q560 : Cond.instanceMethod yX7_rotate ∈ z_tb := z_tb_in (i := 560) (by decide +kernel) rfl
theorem q561 : Cond.selects RX7 yX7_rotate yX7_rotate ∈ z_tb := z_tb_in (i := 561) (by decide +kernel) rfl
theorem q562 : Cond.code yX7_rotate cX7_rotate 4 (some FieldType.int) ∈ z_tb := z_tb_in (i := 562) (by decide +kernel) rfl
theorem q563 : Cond.methodLink RX7 144 yX7_place ∈ z_tb := z_tb_in (i := 563) (by decide +kernel) rfl
theorem q564 : Cond.methodLink RL 74 yX7_removeEccentricity ∈ z_tb := z_tb_in (i := 564) (by decide +kernel) rfl
theorem q565 : Cond.instanceMethod yX7_removeEccentricity ∈ z_tb := z_tb_in (i := 565) (by decide +kernel) rfl
theorem q566 : Cond.selects RX7 yX7_removeEccentricity yX7_removeEccentricity ∈ z_tb := z_tb_in (i := 566) (by decide +kernel) rfl
theorem q567 : Cond.code yX7_removeEccentricity cX7_removeEccentricity 9 (some FieldType.int) ∈ z_tb := z_tb_in (i := 567) (by decide +kernel) rfl
theorem q568 : Cond.methodLink RX7 147 yX7_coefficient ∈ z_tb := z_tb_in (i := 568) (by decide +kernel) rfl
theorem q569 : Cond.static yX7_coefficient ∈ z_tb := z_tb_in (i := 569) (by decide +kernel) rfl
theorem q570 : Cond.code yX7_coefficient cX7_coefficient 7 (some FieldType.long) ∈ z_tb := z_tb_in (i := 570) (by decide +kernel) rfl
theorem q571 : Cond.constantLong RX7 380 (24000000) ∈ z_tb := z_tb_in (i := 571) (by decide +kernel) rfl
theorem q572 : Cond.constantLong RX7 382 (12000000) ∈ z_tb := z_tb_in (i := 572) (by decide +kernel) rfl
theorem q573 : Cond.methodLink RX7 151 yX7_wave ∈ z_tb := z_tb_in (i := 573) (by decide +kernel) rfl
theorem q574 : Cond.methodLink RL 78 yX7_keepLobes ∈ z_tb := z_tb_in (i := 574) (by decide +kernel) rfl
theorem q575 : Cond.instanceMethod yX7_keepLobes ∈ z_tb := z_tb_in (i := 575) (by decide +kernel) rfl
theorem q576 : Cond.selects RX7 yX7_keepLobes yX7_keepLobes ∈ z_tb := z_tb_in (i := 576) (by decide +kernel) rfl
theorem q577 : Cond.code yX7_keepLobes cX7_keepLobes 3 (some FieldType.int) ∈ z_tb := z_tb_in (i := 577) (by decide +kernel) rfl
theorem q578 : Cond.methodLink RX7 155 yX7_isNoRange ∈ z_tb := z_tb_in (i := 578) (by decide +kernel) rfl
theorem q579 : Cond.static yX7_isNoRange ∈ z_tb := z_tb_in (i := 579) (by decide +kernel) rfl
theorem q580 : Cond.code yX7_isNoRange cX7_isNoRange 2 (some FieldType.boolean) ∈ z_tb := z_tb_in (i := 580) (by decide +kernel) rfl
theorem q581 : Cond.methodLink RX7 159 yX7_copyLobes ∈ z_tb := z_tb_in (i := 581) (by decide +kernel) rfl
theorem q582 : Cond.static yX7_copyLobes ∈ z_tb := z_tb_in (i := 582) (by decide +kernel) rfl
theorem q583 : Cond.code yX7_copyLobes cX7_copyLobes 10 none ∈ z_tb := z_tb_in (i := 583) (by decide +kernel) rfl
theorem q584 : Cond.methodLink RL 82 yX7_subtract ∈ z_tb := z_tb_in (i := 584) (by decide +kernel) rfl
theorem q585 : Cond.instanceMethod yX7_subtract ∈ z_tb := z_tb_in (i := 585) (by decide +kernel) rfl
theorem q586 : Cond.selects RX7 yX7_subtract yX7_subtract ∈ z_tb := z_tb_in (i := 586) (by decide +kernel) rfl
theorem q587 : Cond.code yX7_subtract cX7_subtract 6 (some FieldType.int) ∈ z_tb := z_tb_in (i := 587) (by decide +kernel) rfl
theorem q588 : Cond.methodLink RX7 163 yX7_isNextTooGreat ∈ z_tb := z_tb_in (i := 588) (by decide +kernel) rfl
theorem q590 : Cond.instanceMethod yX7_isNextTooGreat ∈ z_tb := z_tb_in (i := 590) (by decide +kernel) rfl
theorem q591 : Cond.code yX7_isNextTooGreat cX7_isNextTooGreat 2 (some FieldType.boolean) ∈ z_tb := z_tb_in (i := 591) (by decide +kernel) rfl
theorem q592 : Cond.methodLink RX7 334 yJ9_abs_067f4 ∈ z_tb := z_tb_in (i := 592) (by decide +kernel) rfl
theorem q593 : Cond.constantLong RX7 340 (40000000000) ∈ z_tb := z_tb_in (i := 593) (by decide +kernel) rfl
theorem q594 : Cond.methodLink RL 86 yX7_vBlock ∈ z_tb := z_tb_in (i := 594) (by decide +kernel) rfl
theorem q595 : Cond.instanceMethod yX7_vBlock ∈ z_tb := z_tb_in (i := 595) (by decide +kernel) rfl
theorem q596 : Cond.selects RX7 yX7_vBlock yX7_vBlock ∈ z_tb := z_tb_in (i := 596) (by decide +kernel) rfl
theorem q597 : Cond.code yX7_vBlock cX7_vBlock 6 (some FieldType.int) ∈ z_tb := z_tb_in (i := 597) (by decide +kernel) rfl
theorem q598 : Cond.constantLong RX7 166 (500000) ∈ z_tb := z_tb_in (i := 598) (by decide +kernel) rfl
theorem q599 : Cond.methodLink RX7 168 yX7_cosine ∈ z_tb := z_tb_in (i := 599) (by decide +kernel) rfl
theorem q600 : Cond.static yX7_cosine ∈ z_tb := z_tb_in (i := 600) (by decide +kernel) rfl
theorem q601 : Cond.code yX7_cosine cX7_cosine 1 (some FieldType.int) ∈ z_tb := z_tb_in (i := 601) (by decide +kernel) rfl
theorem q602 : Cond.methodLink RX7 171 yX7_divide ∈ z_tb := z_tb_in (i := 602) (by decide +kernel) rfl
theorem q603 : Cond.methodLink RL 90 yX7_isBlindInVBlock ∈ z_tb := z_tb_in (i := 603) (by decide +kernel) rfl
theorem q604 : Cond.instanceMethod yX7_isBlindInVBlock ∈ z_tb := z_tb_in (i := 604) (by decide +kernel) rfl
theorem q605 : Cond.selects RX7 yX7_isBlindInVBlock yX7_isBlindInVBlock ∈ z_tb := z_tb_in (i := 605) (by decide +kernel) rfl
theorem q606 : Cond.code yX7_isBlindInVBlock cX7_isBlindInVBlock 4 (some FieldType.int) ∈ z_tb := z_tb_in (i := 606) (by decide +kernel) rfl
theorem q607 : Cond.methodLink RL 94 yX7_undo ∈ z_tb := z_tb_in (i := 607) (by decide +kernel) rfl
theorem q608 : Cond.instanceMethod yX7_undo ∈ z_tb := z_tb_in (i := 608) (by decide +kernel) rfl
theorem q609 : Cond.selects RX7 yX7_undo yX7_undo ∈ z_tb := z_tb_in (i := 609) (by decide +kernel) rfl
theorem q610 : Cond.code yX7_undo cX7_undo 1 (some FieldType.int) ∈ z_tb := z_tb_in (i := 610) (by decide +kernel) rfl
theorem q613 : Cond.instanceMethod yX1_stepBack ∈ z_tb := z_tb_in (i := 613) (by decide +kernel) rfl
theorem q614 : Cond.code yX1_stepBack cX1_stepBack 1 (some FieldType.boolean) ∈ z_tb := z_tb_in (i := 614) (by decide +kernel) rfl
theorem q615 : Cond.methodLink RL 98 yX7_redo ∈ z_tb := z_tb_in (i := 615) (by decide +kernel) rfl
theorem q616 : Cond.instanceMethod yX7_redo ∈ z_tb := z_tb_in (i := 616) (by decide +kernel) rfl
theorem q617 : Cond.selects RX7 yX7_redo yX7_redo ∈ z_tb := z_tb_in (i := 617) (by decide +kernel) rfl
theorem q618 : Cond.code yX7_redo cX7_redo 1 (some FieldType.int) ∈ z_tb := z_tb_in (i := 618) (by decide +kernel) rfl
theorem q621 : Cond.instanceMethod yX1_stepForward ∈ z_tb := z_tb_in (i := 621) (by decide +kernel) rfl
theorem q622 : Cond.code yX1_stepForward cX1_stepForward 1 (some FieldType.boolean) ∈ z_tb := z_tb_in (i := 622) (by decide +kernel) rfl
theorem q623 : Cond.methodLink RL 102 yX7_harmonic ∈ z_tb := z_tb_in (i := 623) (by decide +kernel) rfl
theorem q624 : Cond.instanceMethod yX7_harmonic ∈ z_tb := z_tb_in (i := 624) (by decide +kernel) rfl
theorem q625 : Cond.selects RX7 yX7_harmonic yX7_harmonic ∈ z_tb := z_tb_in (i := 625) (by decide +kernel) rfl
theorem q626 : Cond.code yX7_harmonic cX7_harmonic 3 (some FieldType.long) ∈ z_tb := z_tb_in (i := 626) (by decide +kernel) rfl
theorem q627 : Cond.methodLink RL 107 yX7_strength ∈ z_tb := z_tb_in (i := 627) (by decide +kernel) rfl
theorem q628 : Cond.instanceMethod yX7_strength ∈ z_tb := z_tb_in (i := 628) (by decide +kernel) rfl
theorem q629 : Cond.selects RX7 yX7_strength yX7_strength ∈ z_tb := z_tb_in (i := 629) (by decide +kernel) rfl
theorem q630 : Cond.code yX7_strength cX7_strength 2 (some FieldType.long) ∈ z_tb := z_tb_in (i := 630) (by decide +kernel) rfl
theorem q631 : Cond.methodLink RX7 187 yX7_strengthOf ∈ z_tb := z_tb_in (i := 631) (by decide +kernel) rfl
theorem q632 : Cond.static yX7_strengthOf ∈ z_tb := z_tb_in (i := 632) (by decide +kernel) rfl
theorem q633 : Cond.code yX7_strengthOf cX7_strengthOf 2 (some FieldType.long) ∈ z_tb := z_tb_in (i := 633) (by decide +kernel) rfl
theorem q634 : Cond.methodLink RL 111 yX7_dominant ∈ z_tb := z_tb_in (i := 634) (by decide +kernel) rfl
theorem q635 : Cond.instanceMethod yX7_dominant ∈ z_tb := z_tb_in (i := 635) (by decide +kernel) rfl
theorem q636 : Cond.selects RX7 yX7_dominant yX7_dominant ∈ z_tb := z_tb_in (i := 636) (by decide +kernel) rfl
theorem q637 : Cond.code yX7_dominant cX7_dominant 9 (some FieldType.int) ∈ z_tb := z_tb_in (i := 637) (by decide +kernel) rfl
theorem q638 : Cond.methodLink RL 115 yX7_centre ∈ z_tb := z_tb_in (i := 638) (by decide +kernel) rfl
theorem q639 : Cond.instanceMethod yX7_centre ∈ z_tb := z_tb_in (i := 639) (by decide +kernel) rfl
theorem q640 : Cond.selects RX7 yX7_centre yX7_centre ∈ z_tb := z_tb_in (i := 640) (by decide +kernel) rfl
theorem q641 : Cond.code yX7_centre cX7_centre 4 (some FieldType.long) ∈ z_tb := z_tb_in (i := 641) (by decide +kernel) rfl
theorem q642 : Cond.methodLink RX7 191 yX7_isNoMethod ∈ z_tb := z_tb_in (i := 642) (by decide +kernel) rfl
theorem q643 : Cond.static yX7_isNoMethod ∈ z_tb := z_tb_in (i := 643) (by decide +kernel) rfl
theorem q644 : Cond.code yX7_isNoMethod cX7_isNoMethod 1 (some FieldType.boolean) ∈ z_tb := z_tb_in (i := 644) (by decide +kernel) rfl
theorem q645 : Cond.methodLink RX7 194 yX7_circleBy ∈ z_tb := z_tb_in (i := 645) (by decide +kernel) rfl
theorem q647 : Cond.instanceMethod yX7_circleBy ∈ z_tb := z_tb_in (i := 647) (by decide +kernel) rfl
theorem q648 : Cond.code yX7_circleBy cX7_circleBy 3 (some (FieldType.object "RoundnessInstrument$Circle")) ∈ z_tb := z_tb_in (i := 648) (by decide +kernel) rfl
theorem q651 : Cond.instanceMethod yX0_fit ∈ z_tb := z_tb_in (i := 651) (by decide +kernel) rfl
theorem q652 : Cond.code yX0_fit cX0_fit 3 none ∈ z_tb := z_tb_in (i := 652) (by decide +kernel) rfl
theorem q656 : Cond.methodLink RX0 56 yX0_search ∈ z_tb := z_tb_in (i := 656) (by decide +kernel) rfl
theorem q658 : Cond.instanceMethod yX0_search ∈ z_tb := z_tb_in (i := 658) (by decide +kernel) rfl
theorem q659 : Cond.code yX0_search cX0_search 12 none ∈ z_tb := z_tb_in (i := 659) (by decide +kernel) rfl
theorem q660 : Cond.methodLink RX0 59 yX0_measure ∈ z_tb := z_tb_in (i := 660) (by decide +kernel) rfl
theorem q662 : Cond.instanceMethod yX0_measure ∈ z_tb := z_tb_in (i := 662) (by decide +kernel) rfl
theorem q663 : Cond.code yX0_measure cX0_measure 4 none ∈ z_tb := z_tb_in (i := 663) (by decide +kernel) rfl
theorem q664 : Cond.constantLong RX0 89 (-9223372036854775808) ∈ z_tb := z_tb_in (i := 664) (by decide +kernel) rfl
theorem q665 : Cond.constantLong RX0 91 (9223372036854775807) ∈ z_tb := z_tb_in (i := 665) (by decide +kernel) rfl
theorem q667 : Cond.methodLink RX0 106 yJ9_max_f86c9 ∈ z_tb := z_tb_in (i := 667) (by decide +kernel) rfl
theorem q668 : Cond.methodLink RX0 109 yJ9_min_f86c9 ∈ z_tb := z_tb_in (i := 668) (by decide +kernel) rfl
theorem q669 : Cond.static yJ9_min_f86c9 ∈ z_tb := z_tb_in (i := 669) (by decide +kernel) rfl
theorem q670 : Cond.code yJ9_min_f86c9 cJ9_min_f86c9 4 (some FieldType.long) ∈ z_tb := z_tb_in (i := 670) (by decide +kernel) rfl
theorem q671 : Cond.methodLink RX0 62 yX0_valueOf ∈ z_tb := z_tb_in (i := 671) (by decide +kernel) rfl
theorem q673 : Cond.instanceMethod yX0_valueOf ∈ z_tb := z_tb_in (i := 673) (by decide +kernel) rfl
theorem q674 : Cond.code yX0_valueOf cX0_valueOf 5 (some FieldType.long) ∈ z_tb := z_tb_in (i := 674) (by decide +kernel) rfl
theorem q675 : Cond.constantLong RX0 66 (1073741824) ∈ z_tb := z_tb_in (i := 675) (by decide +kernel) rfl
theorem q676 : Cond.constantLong RX0 68 (1099511627776) ∈ z_tb := z_tb_in (i := 676) (by decide +kernel) rfl
theorem q677 : Cond.constantLong RX0 70 (16) ∈ z_tb := z_tb_in (i := 677) (by decide +kernel) rfl
theorem q678 : Cond.methodLink RX0 72 yX0_pickNear ∈ z_tb := z_tb_in (i := 678) (by decide +kernel) rfl
theorem q680 : Cond.instanceMethod yX0_pickNear ∈ z_tb := z_tb_in (i := 680) (by decide +kernel) rfl
theorem q681 : Cond.code yX0_pickNear cX0_pickNear 6 none ∈ z_tb := z_tb_in (i := 681) (by decide +kernel) rfl
theorem q682 : Cond.constantLong RX0 85 (2) ∈ z_tb := z_tb_in (i := 682) (by decide +kernel) rfl
theorem q683 : Cond.fieldLink RX0 76 "RoundnessInstrument$Circle" "TO_X" "[I" ∈ z_tb := z_tb_in (i := 683) (by decide +kernel) rfl
theorem q685 : Cond.fieldLink RX0 79 "RoundnessInstrument$Circle" "TO_Y" "[I" ∈ z_tb := z_tb_in (i := 685) (by decide +kernel) rfl
theorem q687 : Cond.methodLink RX0 82 yX0_valueAt ∈ z_tb := z_tb_in (i := 687) (by decide +kernel) rfl
theorem q689 : Cond.instanceMethod yX0_valueAt ∈ z_tb := z_tb_in (i := 689) (by decide +kernel) rfl
theorem q690 : Cond.code yX0_valueAt cX0_valueAt 13 (some FieldType.long) ∈ z_tb := z_tb_in (i := 690) (by decide +kernel) rfl
theorem q693 : Cond.constantLong RX0 99 (1000000) ∈ z_tb := z_tb_in (i := 693) (by decide +kernel) rfl
theorem q694 : Cond.methodLink RX0 101 yJ9_floorDiv_f86c9 ∈ z_tb := z_tb_in (i := 694) (by decide +kernel) rfl
theorem q695 : Cond.methodLink RL 119 yX7_deviation ∈ z_tb := z_tb_in (i := 695) (by decide +kernel) rfl
theorem q696 : Cond.instanceMethod yX7_deviation ∈ z_tb := z_tb_in (i := 696) (by decide +kernel) rfl
theorem q697 : Cond.selects RX7 yX7_deviation yX7_deviation ∈ z_tb := z_tb_in (i := 697) (by decide +kernel) rfl
theorem q698 : Cond.code yX7_deviation cX7_deviation 3 (some FieldType.long) ∈ z_tb := z_tb_in (i := 698) (by decide +kernel) rfl
theorem q699 : Cond.methodLink RL 124 yX7_roundness ∈ z_tb := z_tb_in (i := 699) (by decide +kernel) rfl
theorem q700 : Cond.instanceMethod yX7_roundness ∈ z_tb := z_tb_in (i := 700) (by decide +kernel) rfl
theorem q701 : Cond.selects RX7 yX7_roundness yX7_roundness ∈ z_tb := z_tb_in (i := 701) (by decide +kernel) rfl
theorem q702 : Cond.code yX7_roundness cX7_roundness 2 (some FieldType.double) ∈ z_tb := z_tb_in (i := 702) (by decide +kernel) rfl
theorem q703 : Cond.constantDouble RX7 208 (13830554455654793216) ∈ z_tb := z_tb_in (i := 703) (by decide +kernel) rfl
theorem q706 : Cond.instanceMethod yX0_width ∈ z_tb := z_tb_in (i := 706) (by decide +kernel) rfl
theorem q707 : Cond.code yX0_width cX0_width 1 (some FieldType.long) ∈ z_tb := z_tb_in (i := 707) (by decide +kernel) rfl
theorem q708 : Cond.constantDouble RX7 213 (4696837146684686336) ∈ z_tb := z_tb_in (i := 708) (by decide +kernel) rfl
theorem q709 : Cond.methodLink RL 129 yX7_extreme ∈ z_tb := z_tb_in (i := 709) (by decide +kernel) rfl
theorem q710 : Cond.instanceMethod yX7_extreme ∈ z_tb := z_tb_in (i := 710) (by decide +kernel) rfl
theorem q711 : Cond.selects RX7 yX7_extreme yX7_extreme ∈ z_tb := z_tb_in (i := 711) (by decide +kernel) rfl
theorem q712 : Cond.code yX7_extreme cX7_extreme 4 (some FieldType.int) ∈ z_tb := z_tb_in (i := 712) (by decide +kernel) rfl
theorem q715 : Cond.instanceMethod yX0_firstWith ∈ z_tb := z_tb_in (i := 715) (by decide +kernel) rfl
theorem q716 : Cond.code yX0_firstWith cX0_firstWith 4 (some FieldType.int) ∈ z_tb := z_tb_in (i := 716) (by decide +kernel) rfl
theorem q717 : Cond.methodLink RL 134 yX7_meanSquare ∈ z_tb := z_tb_in (i := 717) (by decide +kernel) rfl
theorem q718 : Cond.instanceMethod yX7_meanSquare ∈ z_tb := z_tb_in (i := 718) (by decide +kernel) rfl
theorem q719 : Cond.selects RX7 yX7_meanSquare yX7_meanSquare ∈ z_tb := z_tb_in (i := 719) (by decide +kernel) rfl
theorem q720 : Cond.code yX7_meanSquare cX7_meanSquare 7 (some FieldType.float) ∈ z_tb := z_tb_in (i := 720) (by decide +kernel) rfl
theorem q721 : Cond.constantDouble RX7 225 (4627448617123184640) ∈ z_tb := z_tb_in (i := 721) (by decide +kernel) rfl
theorem q722 : Cond.methodLink RL 141 yX7_materialAt ∈ z_tb := z_tb_in (i := 722) (by decide +kernel) rfl
theorem q723 : Cond.instanceMethod yX7_materialAt ∈ z_tb := z_tb_in (i := 723) (by decide +kernel) rfl
theorem q724 : Cond.selects RX7 yX7_materialAt yX7_materialAt ∈ z_tb := z_tb_in (i := 724) (by decide +kernel) rfl
theorem q725 : Cond.code yX7_materialAt cX7_materialAt 4 (some FieldType.int) ∈ z_tb := z_tb_in (i := 725) (by decide +kernel) rfl
theorem q728 : Cond.instanceMethod yX0_countDownTo ∈ z_tb := z_tb_in (i := 728) (by decide +kernel) rfl
theorem q729 : Cond.code yX0_countDownTo cX0_countDownTo 5 (some FieldType.int) ∈ z_tb := z_tb_in (i := 729) (by decide +kernel) rfl
theorem q730 : Cond.methodLink RL 146 yX7_depthFor ∈ z_tb := z_tb_in (i := 730) (by decide +kernel) rfl
theorem q731 : Cond.instanceMethod yX7_depthFor ∈ z_tb := z_tb_in (i := 731) (by decide +kernel) rfl
theorem q732 : Cond.selects RX7 yX7_depthFor yX7_depthFor ∈ z_tb := z_tb_in (i := 732) (by decide +kernel) rfl
theorem q733 : Cond.code yX7_depthFor cX7_depthFor 3 (some FieldType.long) ∈ z_tb := z_tb_in (i := 733) (by decide +kernel) rfl
theorem q736 : Cond.instanceMethod yX0_leastDepth ∈ z_tb := z_tb_in (i := 736) (by decide +kernel) rfl
theorem q737 : Cond.code yX0_leastDepth cX0_leastDepth 7 (some FieldType.long) ∈ z_tb := z_tb_in (i := 737) (by decide +kernel) rfl
theorem q738 : Cond.methodLink RX0 116 yX0_width ∈ z_tb := z_tb_in (i := 738) (by decide +kernel) rfl
theorem q739 : Cond.methodLink RX0 120 yX0_countDownTo ∈ z_tb := z_tb_in (i := 739) (by decide +kernel) rfl
theorem q740 : Cond.methodLink RL 150 yX7_storeTrace ∈ z_tb := z_tb_in (i := 740) (by decide +kernel) rfl
theorem q741 : Cond.instanceMethod yX7_storeTrace ∈ z_tb := z_tb_in (i := 741) (by decide +kernel) rfl
theorem q742 : Cond.selects RX7 yX7_storeTrace yX7_storeTrace ∈ z_tb := z_tb_in (i := 742) (by decide +kernel) rfl
theorem q743 : Cond.code yX7_storeTrace cX7_storeTrace 2 (some FieldType.int) ∈ z_tb := z_tb_in (i := 743) (by decide +kernel) rfl
theorem q746 : Cond.instanceMethod yX6_hasHeight ∈ z_tb := z_tb_in (i := 746) (by decide +kernel) rfl
theorem q747 : Cond.code yX6_hasHeight cX6_hasHeight 3 (some FieldType.boolean) ∈ z_tb := z_tb_in (i := 747) (by decide +kernel) rfl
theorem q748 : Cond.constant RX7 237 (-1000004) ∈ z_tb := z_tb_in (i := 748) (by decide +kernel) rfl
theorem q751 : Cond.instanceMethod yX6_append ∈ z_tb := z_tb_in (i := 751) (by decide +kernel) rfl
theorem q752 : Cond.code yX6_append cX6_append 3 none ∈ z_tb := z_tb_in (i := 752) (by decide +kernel) rfl
theorem q755 : Cond.methodLink RL 154 yX7_removeTraces ∈ z_tb := z_tb_in (i := 755) (by decide +kernel) rfl
theorem q756 : Cond.instanceMethod yX7_removeTraces ∈ z_tb := z_tb_in (i := 756) (by decide +kernel) rfl
theorem q757 : Cond.selects RX7 yX7_removeTraces yX7_removeTraces ∈ z_tb := z_tb_in (i := 757) (by decide +kernel) rfl
theorem q758 : Cond.code yX7_removeTraces cX7_removeTraces 2 (some FieldType.int) ∈ z_tb := z_tb_in (i := 758) (by decide +kernel) rfl
theorem q759 : Cond.methodLink RL 158 yX7_recall ∈ z_tb := z_tb_in (i := 759) (by decide +kernel) rfl
theorem q760 : Cond.instanceMethod yX7_recall ∈ z_tb := z_tb_in (i := 760) (by decide +kernel) rfl
theorem q761 : Cond.selects RX7 yX7_recall yX7_recall ∈ z_tb := z_tb_in (i := 761) (by decide +kernel) rfl
theorem q762 : Cond.code yX7_recall cX7_recall 2 (some FieldType.int) ∈ z_tb := z_tb_in (i := 762) (by decide +kernel) rfl
theorem q765 : Cond.instanceMethod yX6_lacks ∈ z_tb := z_tb_in (i := 765) (by decide +kernel) rfl
theorem q766 : Cond.code yX6_lacks cX6_lacks 2 (some FieldType.boolean) ∈ z_tb := z_tb_in (i := 766) (by decide +kernel) rfl
theorem q769 : Cond.methodLink RL 162 yX7_traceValue ∈ z_tb := z_tb_in (i := 769) (by decide +kernel) rfl
theorem q770 : Cond.instanceMethod yX7_traceValue ∈ z_tb := z_tb_in (i := 770) (by decide +kernel) rfl
theorem q771 : Cond.selects RX7 yX7_traceValue yX7_traceValue ∈ z_tb := z_tb_in (i := 771) (by decide +kernel) rfl
theorem q772 : Cond.code yX7_traceValue cX7_traceValue 3 (some FieldType.long) ∈ z_tb := z_tb_in (i := 772) (by decide +kernel) rfl
theorem q773 : Cond.methodLink RL 166 yX7_axis ∈ z_tb := z_tb_in (i := 773) (by decide +kernel) rfl
theorem q774 : Cond.instanceMethod yX7_axis ∈ z_tb := z_tb_in (i := 774) (by decide +kernel) rfl
theorem q775 : Cond.selects RX7 yX7_axis yX7_axis ∈ z_tb := z_tb_in (i := 775) (by decide +kernel) rfl
theorem q776 : Cond.code yX7_axis cX7_axis 3 (some FieldType.long) ∈ z_tb := z_tb_in (i := 776) (by decide +kernel) rfl
theorem q779 : Cond.instanceMethod yX6_axisAt ∈ z_tb := z_tb_in (i := 779) (by decide +kernel) rfl
theorem q780 : Cond.code yX6_axisAt cX6_axisAt 15 (some FieldType.long) ∈ z_tb := z_tb_in (i := 780) (by decide +kernel) rfl
theorem q782 : Cond.methodLink RL 170 yX7_cylindricity ∈ z_tb := z_tb_in (i := 782) (by decide +kernel) rfl
theorem q783 : Cond.instanceMethod yX7_cylindricity ∈ z_tb := z_tb_in (i := 783) (by decide +kernel) rfl
theorem q784 : Cond.selects RX7 yX7_cylindricity yX7_cylindricity ∈ z_tb := z_tb_in (i := 784) (by decide +kernel) rfl
theorem q785 : Cond.code yX7_cylindricity cX7_cylindricity 1 (some FieldType.double) ∈ z_tb := z_tb_in (i := 785) (by decide +kernel) rfl
theorem q788 : Cond.instanceMethod yX6_cylinderWidth ∈ z_tb := z_tb_in (i := 788) (by decide +kernel) rfl
theorem q789 : Cond.code yX6_cylinderWidth cX6_cylinderWidth 13 (some FieldType.long) ∈ z_tb := z_tb_in (i := 789) (by decide +kernel) rfl
theorem q790 : Cond.constantLong RX6 54 (-9223372036854775808) ∈ z_tb := z_tb_in (i := 790) (by decide +kernel) rfl
theorem q791 : Cond.constantLong RX6 56 (9223372036854775807) ∈ z_tb := z_tb_in (i := 791) (by decide +kernel) rfl
theorem q792 : Cond.methodLink RX6 58 yX6_axisAt ∈ z_tb := z_tb_in (i := 792) (by decide +kernel) rfl
theorem q794 : Cond.methodLink RX6 66 yJ9_max_f86c9 ∈ z_tb := z_tb_in (i := 794) (by decide +kernel) rfl
theorem q795 : Cond.methodLink RX6 71 yJ9_min_f86c9 ∈ z_tb := z_tb_in (i := 795) (by decide +kernel) rfl
theorem q796 : Cond.methodLink RL 175 yX7_farthestTrace ∈ z_tb := z_tb_in (i := 796) (by decide +kernel) rfl
theorem q797 : Cond.instanceMethod yX7_farthestTrace ∈ z_tb := z_tb_in (i := 797) (by decide +kernel) rfl
theorem q798 : Cond.selects RX7 yX7_farthestTrace yX7_farthestTrace ∈ z_tb := z_tb_in (i := 798) (by decide +kernel) rfl
theorem q799 : Cond.code yX7_farthestTrace cX7_farthestTrace 1 (some FieldType.int) ∈ z_tb := z_tb_in (i := 799) (by decide +kernel) rfl
theorem q802 : Cond.instanceMethod yX6_farthest ∈ z_tb := z_tb_in (i := 802) (by decide +kernel) rfl
theorem q803 : Cond.code yX6_farthest cX6_farthest 7 (some FieldType.int) ∈ z_tb := z_tb_in (i := 803) (by decide +kernel) rfl
theorem q804 : Cond.methodLink RX6 78 yX6_distanceFromAxis ∈ z_tb := z_tb_in (i := 804) (by decide +kernel) rfl
theorem q806 : Cond.instanceMethod yX6_distanceFromAxis ∈ z_tb := z_tb_in (i := 806) (by decide +kernel) rfl
theorem q807 : Cond.code yX6_distanceFromAxis cX6_distanceFromAxis 3 (some FieldType.long) ∈ z_tb := z_tb_in (i := 807) (by decide +kernel) rfl
theorem q808 : Cond.methodLink RX6 74 yJ9_abs_067f4 ∈ z_tb := z_tb_in (i := 808) (by decide +kernel) rfl
theorem q809 : Cond.methodLink RL 179 yX7_taper ∈ z_tb := z_tb_in (i := 809) (by decide +kernel) rfl
theorem q810 : Cond.instanceMethod yX7_taper ∈ z_tb := z_tb_in (i := 810) (by decide +kernel) rfl
theorem q811 : Cond.selects RX7 yX7_taper yX7_taper ∈ z_tb := z_tb_in (i := 811) (by decide +kernel) rfl
theorem q812 : Cond.code yX7_taper cX7_taper 1 (some FieldType.long) ∈ z_tb := z_tb_in (i := 812) (by decide +kernel) rfl
theorem q815 : Cond.instanceMethod yX6_spreadOfMeans ∈ z_tb := z_tb_in (i := 815) (by decide +kernel) rfl
theorem q816 : Cond.code yX6_spreadOfMeans cX6_spreadOfMeans 6 (some FieldType.long) ∈ z_tb := z_tb_in (i := 816) (by decide +kernel) rfl
theorem q817 : Cond.methodLink RL 183 yX7_difference ∈ z_tb := z_tb_in (i := 817) (by decide +kernel) rfl
theorem q818 : Cond.instanceMethod yX7_difference ∈ z_tb := z_tb_in (i := 818) (by decide +kernel) rfl
theorem q819 : Cond.selects RX7 yX7_difference yX7_difference ∈ z_tb := z_tb_in (i := 819) (by decide +kernel) rfl
theorem q820 : Cond.code yX7_difference cX7_difference 4 (some FieldType.long) ∈ z_tb := z_tb_in (i := 820) (by decide +kernel) rfl
theorem q823 : Cond.instanceMethod yX6_mismatch ∈ z_tb := z_tb_in (i := 823) (by decide +kernel) rfl
theorem q824 : Cond.code yX6_mismatch cX6_mismatch 7 (some FieldType.long) ∈ z_tb := z_tb_in (i := 824) (by decide +kernel) rfl
theorem q826 : Cond.methodLink RL 188 yX7_bestRotation ∈ z_tb := z_tb_in (i := 826) (by decide +kernel) rfl
theorem q827 : Cond.instanceMethod yX7_bestRotation ∈ z_tb := z_tb_in (i := 827) (by decide +kernel) rfl
theorem q828 : Cond.selects RX7 yX7_bestRotation yX7_bestRotation ∈ z_tb := z_tb_in (i := 828) (by decide +kernel) rfl
theorem q829 : Cond.code yX7_bestRotation cX7_bestRotation 3 (some FieldType.int) ∈ z_tb := z_tb_in (i := 829) (by decide +kernel) rfl
theorem q832 : Cond.instanceMethod yX6_bestMatch ∈ z_tb := z_tb_in (i := 832) (by decide +kernel) rfl
theorem q833 : Cond.code yX6_bestMatch cX6_bestMatch 9 (some FieldType.int) ∈ z_tb := z_tb_in (i := 833) (by decide +kernel) rfl
theorem q834 : Cond.methodLink RX6 86 yX6_mismatch ∈ z_tb := z_tb_in (i := 834) (by decide +kernel) rfl
theorem q835 : Cond.methodLink RL 192 yX7_addRule ∈ z_tb := z_tb_in (i := 835) (by decide +kernel) rfl
theorem q836 : Cond.instanceMethod yX7_addRule ∈ z_tb := z_tb_in (i := 836) (by decide +kernel) rfl
theorem q837 : Cond.selects RX7 yX7_addRule yX7_addRule ∈ z_tb := z_tb_in (i := 837) (by decide +kernel) rfl
theorem q838 : Cond.code yX7_addRule cX7_addRule 5 (some FieldType.int) ∈ z_tb := z_tb_in (i := 838) (by decide +kernel) rfl
theorem q841 : Cond.instanceMethod yX3_append ∈ z_tb := z_tb_in (i := 841) (by decide +kernel) rfl
theorem q842 : Cond.code yX3_append cX3_append 5 none ∈ z_tb := z_tb_in (i := 842) (by decide +kernel) rfl
theorem q843 : Cond.methodLink RL 197 yX7_clearRules ∈ z_tb := z_tb_in (i := 843) (by decide +kernel) rfl
theorem q844 : Cond.instanceMethod yX7_clearRules ∈ z_tb := z_tb_in (i := 844) (by decide +kernel) rfl
theorem q845 : Cond.selects RX7 yX7_clearRules yX7_clearRules ∈ z_tb := z_tb_in (i := 845) (by decide +kernel) rfl
theorem q846 : Cond.code yX7_clearRules cX7_clearRules 2 (some FieldType.int) ∈ z_tb := z_tb_in (i := 846) (by decide +kernel) rfl
theorem q847 : Cond.methodLink RL 201 yX7_ruleValue ∈ z_tb := z_tb_in (i := 847) (by decide +kernel) rfl
theorem q848 : Cond.instanceMethod yX7_ruleValue ∈ z_tb := z_tb_in (i := 848) (by decide +kernel) rfl
theorem q849 : Cond.selects RX7 yX7_ruleValue yX7_ruleValue ∈ z_tb := z_tb_in (i := 849) (by decide +kernel) rfl
theorem q850 : Cond.code yX7_ruleValue cX7_ruleValue 2 (some FieldType.long) ∈ z_tb := z_tb_in (i := 850) (by decide +kernel) rfl
theorem q851 : Cond.methodLink RX7 291 yX7_valueOfRule ∈ z_tb := z_tb_in (i := 851) (by decide +kernel) rfl
theorem q853 : Cond.instanceMethod yX7_valueOfRule ∈ z_tb := z_tb_in (i := 853) (by decide +kernel) rfl
theorem q854 : Cond.code yX7_valueOfRule cX7_valueOfRule 3 (some FieldType.long) ∈ z_tb := z_tb_in (i := 854) (by decide +kernel) rfl
theorem q855 : Cond.methodLink RL 205 yX7_violated ∈ z_tb := z_tb_in (i := 855) (by decide +kernel) rfl
theorem q856 : Cond.instanceMethod yX7_violated ∈ z_tb := z_tb_in (i := 856) (by decide +kernel) rfl
theorem q857 : Cond.selects RX7 yX7_violated yX7_violated ∈ z_tb := z_tb_in (i := 857) (by decide +kernel) rfl
theorem q858 : Cond.code yX7_violated cX7_violated 3 (some FieldType.int) ∈ z_tb := z_tb_in (i := 858) (by decide +kernel) rfl
theorem q859 : Cond.methodLink RL 209 yX7_type ∈ z_tb := z_tb_in (i := 859) (by decide +kernel) rfl
theorem q860 : Cond.instanceMethod yX7_type ∈ z_tb := z_tb_in (i := 860) (by decide +kernel) rfl
theorem q861 : Cond.selects RX7 yX7_type yX7_type ∈ z_tb := z_tb_in (i := 861) (by decide +kernel) rfl
theorem q862 : Cond.code yX7_type cX7_type 2 (some FieldType.int) ∈ z_tb := z_tb_in (i := 862) (by decide +kernel) rfl
theorem q865 : Cond.instanceMethod yX4_append ∈ z_tb := z_tb_in (i := 865) (by decide +kernel) rfl
theorem q866 : Cond.code yX4_append cX4_append 2 none ∈ z_tb := z_tb_in (i := 866) (by decide +kernel) rfl
theorem q867 : Cond.methodLink RL 214 yX7_clearText ∈ z_tb := z_tb_in (i := 867) (by decide +kernel) rfl
theorem q868 : Cond.instanceMethod yX7_clearText ∈ z_tb := z_tb_in (i := 868) (by decide +kernel) rfl
theorem q869 : Cond.selects RX7 yX7_clearText yX7_clearText ∈ z_tb := z_tb_in (i := 869) (by decide +kernel) rfl
theorem q870 : Cond.code yX7_clearText cX7_clearText 2 (some FieldType.int) ∈ z_tb := z_tb_in (i := 870) (by decide +kernel) rfl
theorem q871 : Cond.methodLink RL 218 yX7_readText ∈ z_tb := z_tb_in (i := 871) (by decide +kernel) rfl
theorem q872 : Cond.instanceMethod yX7_readText ∈ z_tb := z_tb_in (i := 872) (by decide +kernel) rfl
theorem q873 : Cond.selects RX7 yX7_readText yX7_readText ∈ z_tb := z_tb_in (i := 873) (by decide +kernel) rfl
theorem q874 : Cond.code yX7_readText cX7_readText 2 (some FieldType.int) ∈ z_tb := z_tb_in (i := 874) (by decide +kernel) rfl
theorem q877 : Cond.instanceMethod yX4_parse ∈ z_tb := z_tb_in (i := 877) (by decide +kernel) rfl
theorem q878 : Cond.code yX4_parse cX4_parse 2 (some FieldType.boolean) ∈ z_tb := z_tb_in (i := 878) (by decide +kernel) rfl
theorem q879 : Cond.methodLink RX4 44 yX4_parseItem ∈ z_tb := z_tb_in (i := 879) (by decide +kernel) rfl
theorem q881 : Cond.instanceMethod yX4_parseItem ∈ z_tb := z_tb_in (i := 881) (by decide +kernel) rfl
theorem q882 : Cond.code yX4_parseItem cX4_parseItem 2 (some FieldType.boolean) ∈ z_tb := z_tb_in (i := 882) (by decide +kernel) rfl
theorem q883 : Cond.methodLink RX4 56 yX4_current ∈ z_tb := z_tb_in (i := 883) (by decide +kernel) rfl
theorem q885 : Cond.instanceMethod yX4_current ∈ z_tb := z_tb_in (i := 885) (by decide +kernel) rfl
theorem q886 : Cond.code yX4_current cX4_current 1 (some FieldType.int) ∈ z_tb := z_tb_in (i := 886) (by decide +kernel) rfl
theorem q887 : Cond.methodLink RX4 60 yX4_parseLobes ∈ z_tb := z_tb_in (i := 887) (by decide +kernel) rfl
theorem q889 : Cond.instanceMethod yX4_parseLobes ∈ z_tb := z_tb_in (i := 889) (by decide +kernel) rfl
theorem q890 : Cond.code yX4_parseLobes cX4_parseLobes 5 (some FieldType.boolean) ∈ z_tb := z_tb_in (i := 890) (by decide +kernel) rfl
theorem q891 : Cond.methodLink RX4 69 yX4_takeNumber ∈ z_tb := z_tb_in (i := 891) (by decide +kernel) rfl
theorem q893 : Cond.instanceMethod yX4_takeNumber ∈ z_tb := z_tb_in (i := 893) (by decide +kernel) rfl
theorem q894 : Cond.code yX4_takeNumber cX4_takeNumber 7 (some FieldType.boolean) ∈ z_tb := z_tb_in (i := 894) (by decide +kernel) rfl
theorem q895 : Cond.methodLink RX4 80 yX4_isAtDigit ∈ z_tb := z_tb_in (i := 895) (by decide +kernel) rfl
theorem q897 : Cond.instanceMethod yX4_isAtDigit ∈ z_tb := z_tb_in (i := 897) (by decide +kernel) rfl
theorem q898 : Cond.code yX4_isAtDigit cX4_isAtDigit 1 (some FieldType.boolean) ∈ z_tb := z_tb_in (i := 898) (by decide +kernel) rfl
theorem q900 : Cond.methodLink RX4 52 yX4_fail ∈ z_tb := z_tb_in (i := 900) (by decide +kernel) rfl
theorem q902 : Cond.instanceMethod yX4_fail ∈ z_tb := z_tb_in (i := 902) (by decide +kernel) rfl
theorem q903 : Cond.code yX4_fail cX4_fail 2 (some FieldType.boolean) ∈ z_tb := z_tb_in (i := 903) (by decide +kernel) rfl
theorem q904 : Cond.methodLink RX4 48 yX4_take ∈ z_tb := z_tb_in (i := 904) (by decide +kernel) rfl
theorem q906 : Cond.instanceMethod yX4_take ∈ z_tb := z_tb_in (i := 906) (by decide +kernel) rfl
theorem q907 : Cond.code yX4_take cX4_take 2 (some FieldType.boolean) ∈ z_tb := z_tb_in (i := 907) (by decide +kernel) rfl
theorem q908 : Cond.methodLink RX4 73 yX4_note ∈ z_tb := z_tb_in (i := 908) (by decide +kernel) rfl
theorem q910 : Cond.instanceMethod yX4_note ∈ z_tb := z_tb_in (i := 910) (by decide +kernel) rfl
theorem q911 : Cond.code yX4_note cX4_note 5 none ∈ z_tb := z_tb_in (i := 911) (by decide +kernel) rfl
theorem q912 : Cond.methodLink RX4 63 yX4_parseEccentricity ∈ z_tb := z_tb_in (i := 912) (by decide +kernel) rfl
theorem q914 : Cond.instanceMethod yX4_parseEccentricity ∈ z_tb := z_tb_in (i := 914) (by decide +kernel) rfl
theorem q915 : Cond.code yX4_parseEccentricity cX4_parseEccentricity 2 (some FieldType.boolean) ∈ z_tb := z_tb_in (i := 915) (by decide +kernel) rfl
theorem q916 : Cond.methodLink RX4 66 yX4_parseSteps ∈ z_tb := z_tb_in (i := 916) (by decide +kernel) rfl
theorem q918 : Cond.instanceMethod yX4_parseSteps ∈ z_tb := z_tb_in (i := 918) (by decide +kernel) rfl
theorem q919 : Cond.code yX4_parseSteps cX4_parseSteps 2 (some FieldType.boolean) ∈ z_tb := z_tb_in (i := 919) (by decide +kernel) rfl
theorem q923 : Cond.instanceMethod yX5_reset ∈ z_tb := z_tb_in (i := 923) (by decide +kernel) rfl
theorem q924 : Cond.code yX5_reset cX5_reset 2 none ∈ z_tb := z_tb_in (i := 924) (by decide +kernel) rfl
theorem q925 : Cond.methodLink RX5 25 yX5_shiftTo ∈ z_tb := z_tb_in (i := 925) (by decide +kernel) rfl
theorem q927 : Cond.instanceMethod yX5_shiftTo ∈ z_tb := z_tb_in (i := 927) (by decide +kernel) rfl
theorem q928 : Cond.code yX5_shiftTo cX5_shiftTo 4 (some FieldType.boolean) ∈ z_tb := z_tb_in (i := 928) (by decide +kernel) rfl
theorem q929 : Cond.methodLink RX7 317 yX7_obey ∈ z_tb := z_tb_in (i := 929) (by decide +kernel) rfl
theorem q931 : Cond.instanceMethod yX7_obey ∈ z_tb := z_tb_in (i := 931) (by decide +kernel) rfl
theorem q932 : Cond.code yX7_obey cX7_obey 4 none ∈ z_tb := z_tb_in (i := 932) (by decide +kernel) rfl
theorem q936 : Cond.instanceMethod yX5_superpose ∈ z_tb := z_tb_in (i := 936) (by decide +kernel) rfl
theorem q937 : Cond.code yX5_superpose cX5_superpose 11 (some FieldType.boolean) ∈ z_tb := z_tb_in (i := 937) (by decide +kernel) rfl
theorem q938 : Cond.methodLink RX5 29 yX5_profileOf ∈ z_tb := z_tb_in (i := 938) (by decide +kernel) rfl
theorem q940 : Cond.constantLong RX5 37 (1000000) ∈ z_tb := z_tb_in (i := 940) (by decide +kernel) rfl
theorem q941 : Cond.methodLink RX5 39 yJ9_floorDiv_f86c9 ∈ z_tb := z_tb_in (i := 941) (by decide +kernel) rfl
theorem q942 : Cond.methodLink RL 222 yX7_setTrue ∈ z_tb := z_tb_in (i := 942) (by decide +kernel) rfl
theorem q943 : Cond.instanceMethod yX7_setTrue ∈ z_tb := z_tb_in (i := 943) (by decide +kernel) rfl
theorem q944 : Cond.selects RX7 yX7_setTrue yX7_setTrue ∈ z_tb := z_tb_in (i := 944) (by decide +kernel) rfl
theorem q945 : Cond.code yX7_setTrue cX7_setTrue 6 (some FieldType.int) ∈ z_tb := z_tb_in (i := 945) (by decide +kernel) rfl
theorem q946 : Cond.methodLink RL 227 yX7_addLobes ∈ z_tb := z_tb_in (i := 946) (by decide +kernel) rfl
theorem q947 : Cond.instanceMethod yX7_addLobes ∈ z_tb := z_tb_in (i := 947) (by decide +kernel) rfl
theorem q948 : Cond.selects RX7 yX7_addLobes yX7_addLobes ∈ z_tb := z_tb_in (i := 948) (by decide +kernel) rfl
theorem q949 : Cond.code yX7_addLobes cX7_addLobes 5 (some FieldType.int) ∈ z_tb := z_tb_in (i := 949) (by decide +kernel) rfl
theorem q950 : Cond.methodLink RL 232 yX7_setEccentricity ∈ z_tb := z_tb_in (i := 950) (by decide +kernel) rfl
theorem q951 : Cond.instanceMethod yX7_setEccentricity ∈ z_tb := z_tb_in (i := 951) (by decide +kernel) rfl
theorem q952 : Cond.selects RX7 yX7_setEccentricity yX7_setEccentricity ∈ z_tb := z_tb_in (i := 952) (by decide +kernel) rfl
theorem q953 : Cond.code yX7_setEccentricity cX7_setEccentricity 3 (some FieldType.int) ∈ z_tb := z_tb_in (i := 953) (by decide +kernel) rfl
theorem q954 : Cond.classLink RL 10 RX8 ∈ z_tb := z_tb_in (i := 954) (by decide +kernel) rfl
theorem q955 : Cond.instantiable RX8 30 ∈ z_tb := z_tb_in (i := 955) (by decide +kernel) rfl
theorem q956 : Cond.methodLink RL 12 yX8_init ∈ z_tb := z_tb_in (i := 956) (by decide +kernel) rfl
theorem q957 : Cond.instanceMethod yX8_init ∈ z_tb := z_tb_in (i := 957) (by decide +kernel) rfl
theorem q958 : Cond.code yX8_init cX8_init 1 none ∈ z_tb := z_tb_in (i := 958) (by decide +kernel) rfl
theorem q960 : Cond.constant RX8 7 (1000000) ∈ z_tb := z_tb_in (i := 960) (by decide +kernel) rfl
theorem q961 : Cond.constant RX8 8 (965926) ∈ z_tb := z_tb_in (i := 961) (by decide +kernel) rfl
theorem q962 : Cond.constant RX8 9 (866025) ∈ z_tb := z_tb_in (i := 962) (by decide +kernel) rfl
theorem q963 : Cond.constant RX8 10 (707107) ∈ z_tb := z_tb_in (i := 963) (by decide +kernel) rfl
theorem q964 : Cond.constant RX8 11 (500000) ∈ z_tb := z_tb_in (i := 964) (by decide +kernel) rfl
theorem q965 : Cond.constant RX8 12 (258819) ∈ z_tb := z_tb_in (i := 965) (by decide +kernel) rfl
theorem q966 : Cond.fieldLink RX8 13 "RoundnessInstrumentModel" "quarter" "[I" ∈ z_tb := z_tb_in (i := 966) (by decide +kernel) rfl
theorem q967 : Cond.fieldLink RX8 60 "RoundnessInstrumentModel" "steps" "I" ∈ z_tb := z_tb_in (i := 967) (by decide +kernel) rfl
theorem q968 : Cond.fieldLink RX8 80 "RoundnessInstrumentModel" "readings" "I" ∈ z_tb := z_tb_in (i := 968) (by decide +kernel) rfl
theorem q969 : Cond.fieldLink RX8 19 "RoundnessInstrumentModel" "readingOf" "[I" ∈ z_tb := z_tb_in (i := 969) (by decide +kernel) rfl
theorem q970 : Cond.fieldLink RX8 22 "RoundnessInstrumentModel" "now" "[J" ∈ z_tb := z_tb_in (i := 970) (by decide +kernel) rfl
theorem q971 : Cond.fieldLink RX8 26 "RoundnessInstrumentModel" "aside" "[J" ∈ z_tb := z_tb_in (i := 971) (by decide +kernel) rfl
theorem q972 : Cond.fieldLink RX8 29 "RoundnessInstrumentModel" "undone" "[J" ∈ z_tb := z_tb_in (i := 972) (by decide +kernel) rfl
theorem q973 : Cond.fieldLink RX8 32 "RoundnessInstrumentModel" "redone" "[J" ∈ z_tb := z_tb_in (i := 973) (by decide +kernel) rfl
theorem q974 : Cond.fieldLink RX8 139 "RoundnessInstrumentModel" "undoMany" "I" ∈ z_tb := z_tb_in (i := 974) (by decide +kernel) rfl
theorem q975 : Cond.fieldLink RX8 142 "RoundnessInstrumentModel" "redoMany" "I" ∈ z_tb := z_tb_in (i := 975) (by decide +kernel) rfl
theorem q976 : Cond.fieldLink RX8 214 "RoundnessInstrumentModel" "centreX" "J" ∈ z_tb := z_tb_in (i := 976) (by decide +kernel) rfl
theorem q977 : Cond.fieldLink RX8 217 "RoundnessInstrumentModel" "centreY" "J" ∈ z_tb := z_tb_in (i := 977) (by decide +kernel) rfl
theorem q978 : Cond.fieldLink RX8 203 "RoundnessInstrumentModel" "most" "J" ∈ z_tb := z_tb_in (i := 978) (by decide +kernel) rfl
theorem q979 : Cond.fieldLink RX8 207 "RoundnessInstrumentModel" "least" "J" ∈ z_tb := z_tb_in (i := 979) (by decide +kernel) rfl
theorem q980 : Cond.fieldLink RX8 35 "RoundnessInstrumentModel" "aheadX" "[I" ∈ z_tb := z_tb_in (i := 980) (by decide +kernel) rfl
theorem q981 : Cond.fieldLink RX8 38 "RoundnessInstrumentModel" "aheadY" "[I" ∈ z_tb := z_tb_in (i := 981) (by decide +kernel) rfl
theorem q982 : Cond.fieldLink RX8 41 "RoundnessInstrumentModel" "offNow" "[J" ∈ z_tb := z_tb_in (i := 982) (by decide +kernel) rfl
theorem q983 : Cond.fieldLink RX8 261 "RoundnessInstrumentModel" "traces" "I" ∈ z_tb := z_tb_in (i := 983) (by decide +kernel) rfl
theorem q984 : Cond.fieldLink RX8 44 "RoundnessInstrumentModel" "traceOf" "[J" ∈ z_tb := z_tb_in (i := 984) (by decide +kernel) rfl
theorem q985 : Cond.fieldLink RX8 47 "RoundnessInstrumentModel" "heightOf" "[I" ∈ z_tb := z_tb_in (i := 985) (by decide +kernel) rfl
theorem q986 : Cond.fieldLink RX8 284 "RoundnessInstrumentModel" "rules" "I" ∈ z_tb := z_tb_in (i := 986) (by decide +kernel) rfl
theorem q987 : Cond.fieldLink RX8 50 "RoundnessInstrumentModel" "ruleOf" "[I" ∈ z_tb := z_tb_in (i := 987) (by decide +kernel) rfl
theorem q988 : Cond.fieldLink RX8 290 "RoundnessInstrumentModel" "typed" "I" ∈ z_tb := z_tb_in (i := 988) (by decide +kernel) rfl
theorem q989 : Cond.fieldLink RX8 53 "RoundnessInstrumentModel" "text" "[C" ∈ z_tb := z_tb_in (i := 989) (by decide +kernel) rfl
theorem q990 : Cond.fieldLink RX8 293 "RoundnessInstrumentModel" "place" "I" ∈ z_tb := z_tb_in (i := 990) (by decide +kernel) rfl
theorem q991 : Cond.fieldLink RX8 296 "RoundnessInstrumentModel" "fault" "I" ∈ z_tb := z_tb_in (i := 991) (by decide +kernel) rfl
theorem q992 : Cond.fieldLink RX8 317 "RoundnessInstrumentModel" "isDone" "Z" ∈ z_tb := z_tb_in (i := 992) (by decide +kernel) rfl
theorem q993 : Cond.fieldLink RX8 57 "RoundnessInstrumentModel" "truth" "[I" ∈ z_tb := z_tb_in (i := 993) (by decide +kernel) rfl
theorem q994 : Cond.fieldLink RX8 344 "RoundnessInstrumentModel" "eccentricX" "I" ∈ z_tb := z_tb_in (i := 994) (by decide +kernel) rfl
theorem q995 : Cond.fieldLink RX8 347 "RoundnessInstrumentModel" "eccentricY" "I" ∈ z_tb := z_tb_in (i := 995) (by decide +kernel) rfl
theorem q1057 : Cond.methodLink RL 17 yX8_setSteps ∈ z_tb := z_tb_in (i := 1057) (by decide +kernel) rfl
theorem q1058 : Cond.instanceMethod yX8_setSteps ∈ z_tb := z_tb_in (i := 1058) (by decide +kernel) rfl
theorem q1059 : Cond.selects RX8 yX8_setSteps yX8_setSteps ∈ z_tb := z_tb_in (i := 1059) (by decide +kernel) rfl
theorem q1060 : Cond.code yX8_setSteps cX8_setSteps 3 (some FieldType.int) ∈ z_tb := z_tb_in (i := 1060) (by decide +kernel) rfl
theorem q1061 : Cond.methodLink RX8 83 yX8_isSteps ∈ z_tb := z_tb_in (i := 1061) (by decide +kernel) rfl
theorem q1062 : Cond.static yX8_isSteps ∈ z_tb := z_tb_in (i := 1062) (by decide +kernel) rfl
theorem q1063 : Cond.code yX8_isSteps cX8_isSteps 1 (some FieldType.boolean) ∈ z_tb := z_tb_in (i := 1063) (by decide +kernel) rfl
theorem q1064 : Cond.constant RX8 87 (-1000001) ∈ z_tb := z_tb_in (i := 1064) (by decide +kernel) rfl
theorem q1065 : Cond.methodLink RL 21 yX8_read ∈ z_tb := z_tb_in (i := 1065) (by decide +kernel) rfl
theorem q1066 : Cond.instanceMethod yX8_read ∈ z_tb := z_tb_in (i := 1066) (by decide +kernel) rfl
theorem q1067 : Cond.selects RX8 yX8_read yX8_read ∈ z_tb := z_tb_in (i := 1067) (by decide +kernel) rfl
theorem q1068 : Cond.code yX8_read cX8_read 2 (some FieldType.int) ∈ z_tb := z_tb_in (i := 1068) (by decide +kernel) rfl
theorem q1069 : Cond.constantLong RX8 88 (-10000) ∈ z_tb := z_tb_in (i := 1069) (by decide +kernel) rfl
theorem q1070 : Cond.constantLong RX8 90 (10000) ∈ z_tb := z_tb_in (i := 1070) (by decide +kernel) rfl
theorem q1071 : Cond.methodLink RX8 68 yX8_in ∈ z_tb := z_tb_in (i := 1071) (by decide +kernel) rfl
theorem q1072 : Cond.static yX8_in ∈ z_tb := z_tb_in (i := 1072) (by decide +kernel) rfl
theorem q1073 : Cond.code yX8_in cX8_in 6 (some FieldType.boolean) ∈ z_tb := z_tb_in (i := 1073) (by decide +kernel) rfl
theorem q1074 : Cond.methodLink RX8 92 yX8_isComplete ∈ z_tb := z_tb_in (i := 1074) (by decide +kernel) rfl
theorem q1076 : Cond.instanceMethod yX8_isComplete ∈ z_tb := z_tb_in (i := 1076) (by decide +kernel) rfl
theorem q1077 : Cond.code yX8_isComplete cX8_isComplete 1 (some FieldType.boolean) ∈ z_tb := z_tb_in (i := 1077) (by decide +kernel) rfl
theorem q1078 : Cond.constant RX8 96 (-1000002) ∈ z_tb := z_tb_in (i := 1078) (by decide +kernel) rfl
theorem q1079 : Cond.methodLink RL 30 yX8_removeReadings ∈ z_tb := z_tb_in (i := 1079) (by decide +kernel) rfl
theorem q1080 : Cond.instanceMethod yX8_removeReadings ∈ z_tb := z_tb_in (i := 1080) (by decide +kernel) rfl
theorem q1081 : Cond.selects RX8 yX8_removeReadings yX8_removeReadings ∈ z_tb := z_tb_in (i := 1081) (by decide +kernel) rfl
theorem q1082 : Cond.code yX8_removeReadings cX8_removeReadings 2 (some FieldType.int) ∈ z_tb := z_tb_in (i := 1082) (by decide +kernel) rfl
theorem q1083 : Cond.methodLink RL 34 yX8_progress ∈ z_tb := z_tb_in (i := 1083) (by decide +kernel) rfl
theorem q1084 : Cond.instanceMethod yX8_progress ∈ z_tb := z_tb_in (i := 1084) (by decide +kernel) rfl
theorem q1085 : Cond.selects RX8 yX8_progress yX8_progress ∈ z_tb := z_tb_in (i := 1085) (by decide +kernel) rfl
theorem q1086 : Cond.code yX8_progress cX8_progress 2 (some FieldType.int) ∈ z_tb := z_tb_in (i := 1086) (by decide +kernel) rfl
theorem q1087 : Cond.constant RX8 97 (-1000003) ∈ z_tb := z_tb_in (i := 1087) (by decide +kernel) rfl
theorem q1088 : Cond.methodLink RL 39 yX8_reading ∈ z_tb := z_tb_in (i := 1088) (by decide +kernel) rfl
theorem q1089 : Cond.instanceMethod yX8_reading ∈ z_tb := z_tb_in (i := 1089) (by decide +kernel) rfl
theorem q1090 : Cond.selects RX8 yX8_reading yX8_reading ∈ z_tb := z_tb_in (i := 1090) (by decide +kernel) rfl
theorem q1091 : Cond.code yX8_reading cX8_reading 4 (some FieldType.int) ∈ z_tb := z_tb_in (i := 1091) (by decide +kernel) rfl
theorem q1092 : Cond.methodLink RX8 98 yX8_noStep ∈ z_tb := z_tb_in (i := 1092) (by decide +kernel) rfl
theorem q1094 : Cond.instanceMethod yX8_noStep ∈ z_tb := z_tb_in (i := 1094) (by decide +kernel) rfl
theorem q1095 : Cond.code yX8_noStep cX8_noStep 2 (some FieldType.boolean) ∈ z_tb := z_tb_in (i := 1095) (by decide +kernel) rfl
theorem q1096 : Cond.methodLink RX8 101 yX8_noPlace ∈ z_tb := z_tb_in (i := 1096) (by decide +kernel) rfl
theorem q1097 : Cond.static yX8_noPlace ∈ z_tb := z_tb_in (i := 1097) (by decide +kernel) rfl
theorem q1098 : Cond.code yX8_noPlace cX8_noPlace 1 (some FieldType.boolean) ∈ z_tb := z_tb_in (i := 1098) (by decide +kernel) rfl
theorem q1099 : Cond.constantLong RX8 66 (23) ∈ z_tb := z_tb_in (i := 1099) (by decide +kernel) rfl
theorem q1100 : Cond.methodLink RL 43 yX8_despike ∈ z_tb := z_tb_in (i := 1100) (by decide +kernel) rfl
theorem q1101 : Cond.instanceMethod yX8_despike ∈ z_tb := z_tb_in (i := 1101) (by decide +kernel) rfl
theorem q1102 : Cond.selects RX8 yX8_despike yX8_despike ∈ z_tb := z_tb_in (i := 1102) (by decide +kernel) rfl
theorem q1103 : Cond.code yX8_despike cX8_despike 7 (some FieldType.int) ∈ z_tb := z_tb_in (i := 1103) (by decide +kernel) rfl
theorem q1104 : Cond.methodLink RX8 104 yX8_isFinished ∈ z_tb := z_tb_in (i := 1104) (by decide +kernel) rfl
theorem q1106 : Cond.instanceMethod yX8_isFinished ∈ z_tb := z_tb_in (i := 1106) (by decide +kernel) rfl
theorem q1107 : Cond.code yX8_isFinished cX8_isFinished 2 (some FieldType.boolean) ∈ z_tb := z_tb_in (i := 1107) (by decide +kernel) rfl
theorem q1108 : Cond.constantLong RX8 107 (20000) ∈ z_tb := z_tb_in (i := 1108) (by decide +kernel) rfl
theorem q1109 : Cond.methodLink RX8 72 yX8_around ∈ z_tb := z_tb_in (i := 1109) (by decide +kernel) rfl
theorem q1110 : Cond.static yX8_around ∈ z_tb := z_tb_in (i := 1110) (by decide +kernel) rfl
theorem q1111 : Cond.code yX8_around cX8_around 2 (some FieldType.int) ∈ z_tb := z_tb_in (i := 1111) (by decide +kernel) rfl
theorem q1112 : Cond.constantLong RX8 109 (2) ∈ z_tb := z_tb_in (i := 1112) (by decide +kernel) rfl
theorem q1113 : Cond.methodLink RX8 111 yX8_size ∈ z_tb := z_tb_in (i := 1113) (by decide +kernel) rfl
theorem q1114 : Cond.static yX8_size ∈ z_tb := z_tb_in (i := 1114) (by decide +kernel) rfl
theorem q1115 : Cond.code yX8_size cX8_size 2 (some FieldType.long) ∈ z_tb := z_tb_in (i := 1115) (by decide +kernel) rfl
theorem q1116 : Cond.methodLink RX8 115 yX8_down ∈ z_tb := z_tb_in (i := 1116) (by decide +kernel) rfl
theorem q1117 : Cond.static yX8_down ∈ z_tb := z_tb_in (i := 1117) (by decide +kernel) rfl
theorem q1118 : Cond.code yX8_down cX8_down 6 (some FieldType.long) ∈ z_tb := z_tb_in (i := 1118) (by decide +kernel) rfl
theorem q1119 : Cond.methodLink RL 48 yX8_part ∈ z_tb := z_tb_in (i := 1119) (by decide +kernel) rfl
theorem q1120 : Cond.instanceMethod yX8_part ∈ z_tb := z_tb_in (i := 1120) (by decide +kernel) rfl
theorem q1121 : Cond.selects RX8 yX8_part yX8_part ∈ z_tb := z_tb_in (i := 1121) (by decide +kernel) rfl
theorem q1122 : Cond.code yX8_part cX8_part 2 (some FieldType.long) ∈ z_tb := z_tb_in (i := 1122) (by decide +kernel) rfl
theorem q1123 : Cond.methodLink RX8 127 yX8_lost ∈ z_tb := z_tb_in (i := 1123) (by decide +kernel) rfl
theorem q1124 : Cond.static yX8_lost ∈ z_tb := z_tb_in (i := 1124) (by decide +kernel) rfl
theorem q1125 : Cond.code yX8_lost cX8_lost 0 (some FieldType.long) ∈ z_tb := z_tb_in (i := 1125) (by decide +kernel) rfl
theorem q1126 : Cond.constantLong RX8 64 (-9223372036854775808) ∈ z_tb := z_tb_in (i := 1126) (by decide +kernel) rfl
theorem q1127 : Cond.methodLink RX8 131 yX8_partAt ∈ z_tb := z_tb_in (i := 1127) (by decide +kernel) rfl
theorem q1129 : Cond.instanceMethod yX8_partAt ∈ z_tb := z_tb_in (i := 1129) (by decide +kernel) rfl
theorem q1130 : Cond.code yX8_partAt cX8_partAt 6 (some FieldType.long) ∈ z_tb := z_tb_in (i := 1130) (by decide +kernel) rfl
theorem q1131 : Cond.methodLink RX8 119 yX8_turned ∈ z_tb := z_tb_in (i := 1131) (by decide +kernel) rfl
theorem q1133 : Cond.instanceMethod yX8_turned ∈ z_tb := z_tb_in (i := 1133) (by decide +kernel) rfl
theorem q1134 : Cond.code yX8_turned cX8_turned 2 (some FieldType.int) ∈ z_tb := z_tb_in (i := 1134) (by decide +kernel) rfl
theorem q1135 : Cond.methodLink RX8 122 yX8_sumAt ∈ z_tb := z_tb_in (i := 1135) (by decide +kernel) rfl
theorem q1137 : Cond.instanceMethod yX8_sumAt ∈ z_tb := z_tb_in (i := 1137) (by decide +kernel) rfl
theorem q1138 : Cond.code yX8_sumAt cX8_sumAt 5 (some FieldType.long) ∈ z_tb := z_tb_in (i := 1138) (by decide +kernel) rfl
theorem q1139 : Cond.constantLong RX8 125 (1000000) ∈ z_tb := z_tb_in (i := 1139) (by decide +kernel) rfl
theorem q1140 : Cond.methodLink RL 52 yX8_spindle ∈ z_tb := z_tb_in (i := 1140) (by decide +kernel) rfl
theorem q1141 : Cond.instanceMethod yX8_spindle ∈ z_tb := z_tb_in (i := 1141) (by decide +kernel) rfl
theorem q1142 : Cond.selects RX8 yX8_spindle yX8_spindle ∈ z_tb := z_tb_in (i := 1142) (by decide +kernel) rfl
theorem q1143 : Cond.code yX8_spindle cX8_spindle 2 (some FieldType.long) ∈ z_tb := z_tb_in (i := 1143) (by decide +kernel) rfl
theorem q1144 : Cond.methodLink RX8 134 yX8_spindleAt ∈ z_tb := z_tb_in (i := 1144) (by decide +kernel) rfl
theorem q1146 : Cond.instanceMethod yX8_spindleAt ∈ z_tb := z_tb_in (i := 1146) (by decide +kernel) rfl
theorem q1147 : Cond.code yX8_spindleAt cX8_spindleAt 2 (some FieldType.long) ∈ z_tb := z_tb_in (i := 1147) (by decide +kernel) rfl
theorem q1148 : Cond.methodLink RL 56 yX8_isBlind ∈ z_tb := z_tb_in (i := 1148) (by decide +kernel) rfl
theorem q1149 : Cond.instanceMethod yX8_isBlind ∈ z_tb := z_tb_in (i := 1149) (by decide +kernel) rfl
theorem q1150 : Cond.selects RX8 yX8_isBlind yX8_isBlind ∈ z_tb := z_tb_in (i := 1150) (by decide +kernel) rfl
theorem q1151 : Cond.code yX8_isBlind cX8_isBlind 2 (some FieldType.int) ∈ z_tb := z_tb_in (i := 1151) (by decide +kernel) rfl
theorem q1152 : Cond.constantLong RX8 137 (12) ∈ z_tb := z_tb_in (i := 1152) (by decide +kernel) rfl
theorem q1153 : Cond.methodLink RL 61 yX8_residual ∈ z_tb := z_tb_in (i := 1153) (by decide +kernel) rfl
theorem q1154 : Cond.instanceMethod yX8_residual ∈ z_tb := z_tb_in (i := 1154) (by decide +kernel) rfl
theorem q1155 : Cond.selects RX8 yX8_residual yX8_residual ∈ z_tb := z_tb_in (i := 1155) (by decide +kernel) rfl
theorem q1156 : Cond.code yX8_residual cX8_residual 7 (some FieldType.long) ∈ z_tb := z_tb_in (i := 1156) (by decide +kernel) rfl
theorem q1157 : Cond.methodLink RL 97 yX8_undo ∈ z_tb := z_tb_in (i := 1157) (by decide +kernel) rfl
theorem q1158 : Cond.instanceMethod yX8_undo ∈ z_tb := z_tb_in (i := 1158) (by decide +kernel) rfl
theorem q1159 : Cond.selects RX8 yX8_undo yX8_undo ∈ z_tb := z_tb_in (i := 1159) (by decide +kernel) rfl
theorem q1160 : Cond.code yX8_undo cX8_undo 2 (some FieldType.int) ∈ z_tb := z_tb_in (i := 1160) (by decide +kernel) rfl
theorem q1161 : Cond.methodLink RL 101 yX8_redo ∈ z_tb := z_tb_in (i := 1161) (by decide +kernel) rfl
theorem q1162 : Cond.instanceMethod yX8_redo ∈ z_tb := z_tb_in (i := 1162) (by decide +kernel) rfl
theorem q1163 : Cond.selects RX8 yX8_redo yX8_redo ∈ z_tb := z_tb_in (i := 1163) (by decide +kernel) rfl
theorem q1164 : Cond.code yX8_redo cX8_redo 2 (some FieldType.int) ∈ z_tb := z_tb_in (i := 1164) (by decide +kernel) rfl
theorem q1165 : Cond.methodLink RL 65 yX8_load ∈ z_tb := z_tb_in (i := 1165) (by decide +kernel) rfl
theorem q1166 : Cond.instanceMethod yX8_load ∈ z_tb := z_tb_in (i := 1166) (by decide +kernel) rfl
theorem q1167 : Cond.selects RX8 yX8_load yX8_load ∈ z_tb := z_tb_in (i := 1167) (by decide +kernel) rfl
theorem q1168 : Cond.code yX8_load cX8_load 4 (some FieldType.int) ∈ z_tb := z_tb_in (i := 1168) (by decide +kernel) rfl
theorem q1169 : Cond.methodLink RX8 147 yX8_fetches ∈ z_tb := z_tb_in (i := 1169) (by decide +kernel) rfl
theorem q1171 : Cond.instanceMethod yX8_fetches ∈ z_tb := z_tb_in (i := 1171) (by decide +kernel) rfl
theorem q1172 : Cond.code yX8_fetches cX8_fetches 4 (some FieldType.int) ∈ z_tb := z_tb_in (i := 1172) (by decide +kernel) rfl
theorem q1173 : Cond.constantLong RX8 145 (4) ∈ z_tb := z_tb_in (i := 1173) (by decide +kernel) rfl
theorem q1174 : Cond.methodLink RX8 151 yX8_takes ∈ z_tb := z_tb_in (i := 1174) (by decide +kernel) rfl
theorem q1176 : Cond.instanceMethod yX8_takes ∈ z_tb := z_tb_in (i := 1176) (by decide +kernel) rfl
theorem q1177 : Cond.code yX8_takes cX8_takes 3 (some FieldType.int) ∈ z_tb := z_tb_in (i := 1177) (by decide +kernel) rfl
theorem q1178 : Cond.methodLink RL 69 yX8_profile ∈ z_tb := z_tb_in (i := 1178) (by decide +kernel) rfl
theorem q1179 : Cond.instanceMethod yX8_profile ∈ z_tb := z_tb_in (i := 1179) (by decide +kernel) rfl
theorem q1180 : Cond.selects RX8 yX8_profile yX8_profile ∈ z_tb := z_tb_in (i := 1180) (by decide +kernel) rfl
theorem q1181 : Cond.code yX8_profile cX8_profile 2 (some FieldType.long) ∈ z_tb := z_tb_in (i := 1181) (by decide +kernel) rfl
theorem q1182 : Cond.methodLink RL 73 yX8_rotate ∈ z_tb := z_tb_in (i := 1182) (by decide +kernel) rfl
theorem q1183 : Cond.instanceMethod yX8_rotate ∈ z_tb := z_tb_in (i := 1183) (by decide +kernel) rfl
theorem q1184 : Cond.selects RX8 yX8_rotate yX8_rotate ∈ z_tb := z_tb_in (i := 1184) (by decide +kernel) rfl
theorem q1185 : Cond.code yX8_rotate cX8_rotate 3 (some FieldType.int) ∈ z_tb := z_tb_in (i := 1185) (by decide +kernel) rfl
theorem q1186 : Cond.constantLong RX8 155 (-23) ∈ z_tb := z_tb_in (i := 1186) (by decide +kernel) rfl
theorem q1187 : Cond.methodLink RL 77 yX8_removeEccentricity ∈ z_tb := z_tb_in (i := 1187) (by decide +kernel) rfl
theorem q1188 : Cond.instanceMethod yX8_removeEccentricity ∈ z_tb := z_tb_in (i := 1188) (by decide +kernel) rfl
theorem q1189 : Cond.selects RX8 yX8_removeEccentricity yX8_removeEccentricity ∈ z_tb := z_tb_in (i := 1189) (by decide +kernel) rfl
theorem q1190 : Cond.code yX8_removeEccentricity cX8_removeEccentricity 8 (some FieldType.int) ∈ z_tb := z_tb_in (i := 1190) (by decide +kernel) rfl
theorem q1191 : Cond.methodLink RX8 157 yX8_harmonicOf ∈ z_tb := z_tb_in (i := 1191) (by decide +kernel) rfl
theorem q1193 : Cond.instanceMethod yX8_harmonicOf ∈ z_tb := z_tb_in (i := 1193) (by decide +kernel) rfl
theorem q1194 : Cond.code yX8_harmonicOf cX8_harmonicOf 3 (some FieldType.long) ∈ z_tb := z_tb_in (i := 1194) (by decide +kernel) rfl
theorem q1195 : Cond.methodLink RX8 181 yX8_harmonicIn ∈ z_tb := z_tb_in (i := 1195) (by decide +kernel) rfl
theorem q1197 : Cond.instanceMethod yX8_harmonicIn ∈ z_tb := z_tb_in (i := 1197) (by decide +kernel) rfl
theorem q1198 : Cond.code yX8_harmonicIn cX8_harmonicIn 8 (some FieldType.long) ∈ z_tb := z_tb_in (i := 1198) (by decide +kernel) rfl
theorem q1199 : Cond.methodLink RX8 161 yX8_sine ∈ z_tb := z_tb_in (i := 1199) (by decide +kernel) rfl
theorem q1201 : Cond.instanceMethod yX8_sine ∈ z_tb := z_tb_in (i := 1201) (by decide +kernel) rfl
theorem q1202 : Cond.code yX8_sine cX8_sine 2 (some FieldType.long) ∈ z_tb := z_tb_in (i := 1202) (by decide +kernel) rfl
theorem q1203 : Cond.methodLink RX8 76 yX8_cosine ∈ z_tb := z_tb_in (i := 1203) (by decide +kernel) rfl
theorem q1205 : Cond.instanceMethod yX8_cosine ∈ z_tb := z_tb_in (i := 1205) (by decide +kernel) rfl
theorem q1206 : Cond.code yX8_cosine cX8_cosine 3 (some FieldType.long) ∈ z_tb := z_tb_in (i := 1206) (by decide +kernel) rfl
theorem q1207 : Cond.constantLong RX8 185 (24000000) ∈ z_tb := z_tb_in (i := 1207) (by decide +kernel) rfl
theorem q1208 : Cond.constantLong RX8 187 (12000000) ∈ z_tb := z_tb_in (i := 1208) (by decide +kernel) rfl
theorem q1209 : Cond.methodLink RL 81 yX8_keepLobes ∈ z_tb := z_tb_in (i := 1209) (by decide +kernel) rfl
theorem q1210 : Cond.instanceMethod yX8_keepLobes ∈ z_tb := z_tb_in (i := 1210) (by decide +kernel) rfl
theorem q1211 : Cond.selects RX8 yX8_keepLobes yX8_keepLobes ∈ z_tb := z_tb_in (i := 1211) (by decide +kernel) rfl
theorem q1212 : Cond.code yX8_keepLobes cX8_keepLobes 3 (some FieldType.int) ∈ z_tb := z_tb_in (i := 1212) (by decide +kernel) rfl
theorem q1213 : Cond.methodLink RX8 164 yX8_areLobes ∈ z_tb := z_tb_in (i := 1213) (by decide +kernel) rfl
theorem q1214 : Cond.static yX8_areLobes ∈ z_tb := z_tb_in (i := 1214) (by decide +kernel) rfl
theorem q1215 : Cond.code yX8_areLobes cX8_areLobes 2 (some FieldType.boolean) ∈ z_tb := z_tb_in (i := 1215) (by decide +kernel) rfl
theorem q1216 : Cond.methodLink RX8 168 yX8_keeps ∈ z_tb := z_tb_in (i := 1216) (by decide +kernel) rfl
theorem q1218 : Cond.instanceMethod yX8_keeps ∈ z_tb := z_tb_in (i := 1218) (by decide +kernel) rfl
theorem q1219 : Cond.code yX8_keeps cX8_keeps 9 none ∈ z_tb := z_tb_in (i := 1219) (by decide +kernel) rfl
theorem q1220 : Cond.methodLink RL 85 yX8_subtract ∈ z_tb := z_tb_in (i := 1220) (by decide +kernel) rfl
theorem q1221 : Cond.instanceMethod yX8_subtract ∈ z_tb := z_tb_in (i := 1221) (by decide +kernel) rfl
theorem q1222 : Cond.selects RX8 yX8_subtract yX8_subtract ∈ z_tb := z_tb_in (i := 1222) (by decide +kernel) rfl
theorem q1223 : Cond.code yX8_subtract cX8_subtract 5 (some FieldType.int) ∈ z_tb := z_tb_in (i := 1223) (by decide +kernel) rfl
theorem q1224 : Cond.methodLink RX8 174 yX8_isTooFar ∈ z_tb := z_tb_in (i := 1224) (by decide +kernel) rfl
theorem q1226 : Cond.instanceMethod yX8_isTooFar ∈ z_tb := z_tb_in (i := 1226) (by decide +kernel) rfl
theorem q1227 : Cond.code yX8_isTooFar cX8_isTooFar 2 (some FieldType.boolean) ∈ z_tb := z_tb_in (i := 1227) (by decide +kernel) rfl
theorem q1228 : Cond.constantLong RX8 172 (40000000000) ∈ z_tb := z_tb_in (i := 1228) (by decide +kernel) rfl
theorem q1229 : Cond.methodLink RL 89 yX8_vBlock ∈ z_tb := z_tb_in (i := 1229) (by decide +kernel) rfl
theorem q1230 : Cond.instanceMethod yX8_vBlock ∈ z_tb := z_tb_in (i := 1230) (by decide +kernel) rfl
theorem q1231 : Cond.selects RX8 yX8_vBlock yX8_vBlock ∈ z_tb := z_tb_in (i := 1231) (by decide +kernel) rfl
theorem q1232 : Cond.code yX8_vBlock cX8_vBlock 3 (some FieldType.int) ∈ z_tb := z_tb_in (i := 1232) (by decide +kernel) rfl
theorem q1233 : Cond.constantLong RX8 177 (5) ∈ z_tb := z_tb_in (i := 1233) (by decide +kernel) rfl
theorem q1234 : Cond.constantLong RX8 179 (500000) ∈ z_tb := z_tb_in (i := 1234) (by decide +kernel) rfl
theorem q1235 : Cond.methodLink RL 93 yX8_isBlindInVBlock ∈ z_tb := z_tb_in (i := 1235) (by decide +kernel) rfl
theorem q1236 : Cond.instanceMethod yX8_isBlindInVBlock ∈ z_tb := z_tb_in (i := 1236) (by decide +kernel) rfl
theorem q1237 : Cond.selects RX8 yX8_isBlindInVBlock yX8_isBlindInVBlock ∈ z_tb := z_tb_in (i := 1237) (by decide +kernel) rfl
theorem q1238 : Cond.code yX8_isBlindInVBlock cX8_isBlindInVBlock 5 (some FieldType.int) ∈ z_tb := z_tb_in (i := 1238) (by decide +kernel) rfl
theorem q1239 : Cond.methodLink RL 106 yX8_harmonic ∈ z_tb := z_tb_in (i := 1239) (by decide +kernel) rfl
theorem q1240 : Cond.instanceMethod yX8_harmonic ∈ z_tb := z_tb_in (i := 1240) (by decide +kernel) rfl
theorem q1241 : Cond.selects RX8 yX8_harmonic yX8_harmonic ∈ z_tb := z_tb_in (i := 1241) (by decide +kernel) rfl
theorem q1242 : Cond.code yX8_harmonic cX8_harmonic 3 (some FieldType.long) ∈ z_tb := z_tb_in (i := 1242) (by decide +kernel) rfl
theorem q1243 : Cond.methodLink RX8 189 yX8_noLobes ∈ z_tb := z_tb_in (i := 1243) (by decide +kernel) rfl
theorem q1244 : Cond.static yX8_noLobes ∈ z_tb := z_tb_in (i := 1244) (by decide +kernel) rfl
theorem q1245 : Cond.code yX8_noLobes cX8_noLobes 1 (some FieldType.boolean) ∈ z_tb := z_tb_in (i := 1245) (by decide +kernel) rfl
theorem q1246 : Cond.methodLink RL 110 yX8_strength ∈ z_tb := z_tb_in (i := 1246) (by decide +kernel) rfl
theorem q1247 : Cond.instanceMethod yX8_strength ∈ z_tb := z_tb_in (i := 1247) (by decide +kernel) rfl
theorem q1248 : Cond.selects RX8 yX8_strength yX8_strength ∈ z_tb := z_tb_in (i := 1248) (by decide +kernel) rfl
theorem q1249 : Cond.code yX8_strength cX8_strength 2 (some FieldType.long) ∈ z_tb := z_tb_in (i := 1249) (by decide +kernel) rfl
theorem q1250 : Cond.methodLink RX8 192 yX8_strengthOf ∈ z_tb := z_tb_in (i := 1250) (by decide +kernel) rfl
theorem q1252 : Cond.instanceMethod yX8_strengthOf ∈ z_tb := z_tb_in (i := 1252) (by decide +kernel) rfl
theorem q1253 : Cond.code yX8_strengthOf cX8_strengthOf 2 (some FieldType.long) ∈ z_tb := z_tb_in (i := 1253) (by decide +kernel) rfl
theorem q1254 : Cond.methodLink RL 114 yX8_dominant ∈ z_tb := z_tb_in (i := 1254) (by decide +kernel) rfl
theorem q1255 : Cond.instanceMethod yX8_dominant ∈ z_tb := z_tb_in (i := 1255) (by decide +kernel) rfl
theorem q1256 : Cond.selects RX8 yX8_dominant yX8_dominant ∈ z_tb := z_tb_in (i := 1256) (by decide +kernel) rfl
theorem q1257 : Cond.code yX8_dominant cX8_dominant 4 (some FieldType.int) ∈ z_tb := z_tb_in (i := 1257) (by decide +kernel) rfl
theorem q1258 : Cond.methodLink RL 118 yX8_centre ∈ z_tb := z_tb_in (i := 1258) (by decide +kernel) rfl
theorem q1259 : Cond.instanceMethod yX8_centre ∈ z_tb := z_tb_in (i := 1259) (by decide +kernel) rfl
theorem q1260 : Cond.selects RX8 yX8_centre yX8_centre ∈ z_tb := z_tb_in (i := 1260) (by decide +kernel) rfl
theorem q1261 : Cond.code yX8_centre cX8_centre 3 (some FieldType.long) ∈ z_tb := z_tb_in (i := 1261) (by decide +kernel) rfl
theorem q1262 : Cond.methodLink RX8 232 yX8_noMethod ∈ z_tb := z_tb_in (i := 1262) (by decide +kernel) rfl
theorem q1263 : Cond.static yX8_noMethod ∈ z_tb := z_tb_in (i := 1263) (by decide +kernel) rfl
theorem q1264 : Cond.code yX8_noMethod cX8_noMethod 1 (some FieldType.boolean) ∈ z_tb := z_tb_in (i := 1264) (by decide +kernel) rfl
theorem q1265 : Cond.constantLong RX8 230 (3) ∈ z_tb := z_tb_in (i := 1265) (by decide +kernel) rfl
theorem q1266 : Cond.methodLink RX8 226 yX8_findCentre ∈ z_tb := z_tb_in (i := 1266) (by decide +kernel) rfl
theorem q1268 : Cond.instanceMethod yX8_findCentre ∈ z_tb := z_tb_in (i := 1268) (by decide +kernel) rfl
theorem q1269 : Cond.code yX8_findCentre cX8_findCentre 13 none ∈ z_tb := z_tb_in (i := 1269) (by decide +kernel) rfl
theorem q1270 : Cond.methodLink RX8 220 yX8_valueBy ∈ z_tb := z_tb_in (i := 1270) (by decide +kernel) rfl
theorem q1272 : Cond.instanceMethod yX8_valueBy ∈ z_tb := z_tb_in (i := 1272) (by decide +kernel) rfl
theorem q1273 : Cond.code yX8_valueBy cX8_valueBy 7 (some FieldType.long) ∈ z_tb := z_tb_in (i := 1273) (by decide +kernel) rfl
theorem q1274 : Cond.methodLink RX8 210 yX8_findEnds ∈ z_tb := z_tb_in (i := 1274) (by decide +kernel) rfl
theorem q1276 : Cond.instanceMethod yX8_findEnds ∈ z_tb := z_tb_in (i := 1276) (by decide +kernel) rfl
theorem q1277 : Cond.code yX8_findEnds cX8_findEnds 10 none ∈ z_tb := z_tb_in (i := 1277) (by decide +kernel) rfl
theorem q1278 : Cond.methodLink RX8 199 yX8_offAt ∈ z_tb := z_tb_in (i := 1278) (by decide +kernel) rfl
theorem q1280 : Cond.instanceMethod yX8_offAt ∈ z_tb := z_tb_in (i := 1280) (by decide +kernel) rfl
theorem q1281 : Cond.code yX8_offAt cX8_offAt 8 (some FieldType.long) ∈ z_tb := z_tb_in (i := 1281) (by decide +kernel) rfl
theorem q1282 : Cond.methodLink RX8 195 yX8_off ∈ z_tb := z_tb_in (i := 1282) (by decide +kernel) rfl
theorem q1283 : Cond.static yX8_off ∈ z_tb := z_tb_in (i := 1283) (by decide +kernel) rfl
theorem q1284 : Cond.code yX8_off cX8_off 10 (some FieldType.long) ∈ z_tb := z_tb_in (i := 1284) (by decide +kernel) rfl
theorem q1285 : Cond.constantLong RX8 224 (1073741824) ∈ z_tb := z_tb_in (i := 1285) (by decide +kernel) rfl
theorem q1286 : Cond.methodLink RL 123 yX8_deviation ∈ z_tb := z_tb_in (i := 1286) (by decide +kernel) rfl
theorem q1287 : Cond.instanceMethod yX8_deviation ∈ z_tb := z_tb_in (i := 1287) (by decide +kernel) rfl
theorem q1288 : Cond.selects RX8 yX8_deviation yX8_deviation ∈ z_tb := z_tb_in (i := 1288) (by decide +kernel) rfl
theorem q1289 : Cond.code yX8_deviation cX8_deviation 3 (some FieldType.long) ∈ z_tb := z_tb_in (i := 1289) (by decide +kernel) rfl
theorem q1290 : Cond.methodLink RX8 235 yX8_layOff ∈ z_tb := z_tb_in (i := 1290) (by decide +kernel) rfl
theorem q1292 : Cond.instanceMethod yX8_layOff ∈ z_tb := z_tb_in (i := 1292) (by decide +kernel) rfl
theorem q1293 : Cond.code yX8_layOff cX8_layOff 3 none ∈ z_tb := z_tb_in (i := 1293) (by decide +kernel) rfl
theorem q1294 : Cond.methodLink RL 128 yX8_roundness ∈ z_tb := z_tb_in (i := 1294) (by decide +kernel) rfl
theorem q1295 : Cond.instanceMethod yX8_roundness ∈ z_tb := z_tb_in (i := 1295) (by decide +kernel) rfl
theorem q1296 : Cond.selects RX8 yX8_roundness yX8_roundness ∈ z_tb := z_tb_in (i := 1296) (by decide +kernel) rfl
theorem q1297 : Cond.code yX8_roundness cX8_roundness 2 (some FieldType.double) ∈ z_tb := z_tb_in (i := 1297) (by decide +kernel) rfl
theorem q1298 : Cond.constantDouble RX8 239 (13830554455654793216) ∈ z_tb := z_tb_in (i := 1298) (by decide +kernel) rfl
theorem q1299 : Cond.methodLink RX8 241 yX8_roundnessOf ∈ z_tb := z_tb_in (i := 1299) (by decide +kernel) rfl
theorem q1301 : Cond.instanceMethod yX8_roundnessOf ∈ z_tb := z_tb_in (i := 1301) (by decide +kernel) rfl
theorem q1302 : Cond.code yX8_roundnessOf cX8_roundnessOf 3 (some FieldType.long) ∈ z_tb := z_tb_in (i := 1302) (by decide +kernel) rfl
theorem q1303 : Cond.constantDouble RX8 245 (4696837146684686336) ∈ z_tb := z_tb_in (i := 1303) (by decide +kernel) rfl
theorem q1304 : Cond.methodLink RL 133 yX8_extreme ∈ z_tb := z_tb_in (i := 1304) (by decide +kernel) rfl
theorem q1305 : Cond.instanceMethod yX8_extreme ∈ z_tb := z_tb_in (i := 1305) (by decide +kernel) rfl
theorem q1306 : Cond.selects RX8 yX8_extreme yX8_extreme ∈ z_tb := z_tb_in (i := 1306) (by decide +kernel) rfl
theorem q1307 : Cond.code yX8_extreme cX8_extreme 3 (some FieldType.int) ∈ z_tb := z_tb_in (i := 1307) (by decide +kernel) rfl
theorem q1308 : Cond.methodLink RX8 247 yX8_extremeAt ∈ z_tb := z_tb_in (i := 1308) (by decide +kernel) rfl
theorem q1310 : Cond.instanceMethod yX8_extremeAt ∈ z_tb := z_tb_in (i := 1310) (by decide +kernel) rfl
theorem q1311 : Cond.code yX8_extremeAt cX8_extremeAt 4 (some FieldType.int) ∈ z_tb := z_tb_in (i := 1311) (by decide +kernel) rfl
theorem q1312 : Cond.methodLink RL 138 yX8_meanSquare ∈ z_tb := z_tb_in (i := 1312) (by decide +kernel) rfl
theorem q1313 : Cond.instanceMethod yX8_meanSquare ∈ z_tb := z_tb_in (i := 1313) (by decide +kernel) rfl
theorem q1314 : Cond.selects RX8 yX8_meanSquare yX8_meanSquare ∈ z_tb := z_tb_in (i := 1314) (by decide +kernel) rfl
theorem q1315 : Cond.code yX8_meanSquare cX8_meanSquare 6 (some FieldType.float) ∈ z_tb := z_tb_in (i := 1315) (by decide +kernel) rfl
theorem q1316 : Cond.constantDouble RX8 251 (4627448617123184640) ∈ z_tb := z_tb_in (i := 1316) (by decide +kernel) rfl
theorem q1317 : Cond.methodLink RL 145 yX8_materialAt ∈ z_tb := z_tb_in (i := 1317) (by decide +kernel) rfl
theorem q1318 : Cond.instanceMethod yX8_materialAt ∈ z_tb := z_tb_in (i := 1318) (by decide +kernel) rfl
theorem q1319 : Cond.selects RX8 yX8_materialAt yX8_materialAt ∈ z_tb := z_tb_in (i := 1319) (by decide +kernel) rfl
theorem q1320 : Cond.code yX8_materialAt cX8_materialAt 4 (some FieldType.int) ∈ z_tb := z_tb_in (i := 1320) (by decide +kernel) rfl
theorem q1321 : Cond.methodLink RX8 253 yX8_countTo ∈ z_tb := z_tb_in (i := 1321) (by decide +kernel) rfl
theorem q1323 : Cond.instanceMethod yX8_countTo ∈ z_tb := z_tb_in (i := 1323) (by decide +kernel) rfl
theorem q1324 : Cond.code yX8_countTo cX8_countTo 7 (some FieldType.int) ∈ z_tb := z_tb_in (i := 1324) (by decide +kernel) rfl
theorem q1325 : Cond.methodLink RL 149 yX8_depthFor ∈ z_tb := z_tb_in (i := 1325) (by decide +kernel) rfl
theorem q1326 : Cond.instanceMethod yX8_depthFor ∈ z_tb := z_tb_in (i := 1326) (by decide +kernel) rfl
theorem q1327 : Cond.selects RX8 yX8_depthFor yX8_depthFor ∈ z_tb := z_tb_in (i := 1327) (by decide +kernel) rfl
theorem q1328 : Cond.code yX8_depthFor cX8_depthFor 10 (some FieldType.long) ∈ z_tb := z_tb_in (i := 1328) (by decide +kernel) rfl
theorem q1329 : Cond.constantLong RX8 257 (24) ∈ z_tb := z_tb_in (i := 1329) (by decide +kernel) rfl
theorem q1330 : Cond.constantLong RX8 259 (-1) ∈ z_tb := z_tb_in (i := 1330) (by decide +kernel) rfl
theorem q1331 : Cond.methodLink RL 153 yX8_storeTrace ∈ z_tb := z_tb_in (i := 1331) (by decide +kernel) rfl
theorem q1332 : Cond.instanceMethod yX8_storeTrace ∈ z_tb := z_tb_in (i := 1332) (by decide +kernel) rfl
theorem q1333 : Cond.selects RX8 yX8_storeTrace yX8_storeTrace ∈ z_tb := z_tb_in (i := 1333) (by decide +kernel) rfl
theorem q1334 : Cond.code yX8_storeTrace cX8_storeTrace 3 (some FieldType.int) ∈ z_tb := z_tb_in (i := 1334) (by decide +kernel) rfl
theorem q1335 : Cond.constantLong RX8 264 (100) ∈ z_tb := z_tb_in (i := 1335) (by decide +kernel) rfl
theorem q1336 : Cond.constant RX8 266 (-1000004) ∈ z_tb := z_tb_in (i := 1336) (by decide +kernel) rfl
theorem q1337 : Cond.methodLink RL 157 yX8_removeTraces ∈ z_tb := z_tb_in (i := 1337) (by decide +kernel) rfl
theorem q1338 : Cond.instanceMethod yX8_removeTraces ∈ z_tb := z_tb_in (i := 1338) (by decide +kernel) rfl
theorem q1339 : Cond.selects RX8 yX8_removeTraces yX8_removeTraces ∈ z_tb := z_tb_in (i := 1339) (by decide +kernel) rfl
theorem q1340 : Cond.code yX8_removeTraces cX8_removeTraces 2 (some FieldType.int) ∈ z_tb := z_tb_in (i := 1340) (by decide +kernel) rfl
theorem q1341 : Cond.methodLink RL 161 yX8_recall ∈ z_tb := z_tb_in (i := 1341) (by decide +kernel) rfl
theorem q1342 : Cond.instanceMethod yX8_recall ∈ z_tb := z_tb_in (i := 1342) (by decide +kernel) rfl
theorem q1343 : Cond.selects RX8 yX8_recall yX8_recall ∈ z_tb := z_tb_in (i := 1343) (by decide +kernel) rfl
theorem q1344 : Cond.code yX8_recall cX8_recall 3 (some FieldType.int) ∈ z_tb := z_tb_in (i := 1344) (by decide +kernel) rfl
theorem q1345 : Cond.methodLink RX8 267 yX8_noTrace ∈ z_tb := z_tb_in (i := 1345) (by decide +kernel) rfl
theorem q1347 : Cond.instanceMethod yX8_noTrace ∈ z_tb := z_tb_in (i := 1347) (by decide +kernel) rfl
theorem q1348 : Cond.code yX8_noTrace cX8_noTrace 2 (some FieldType.boolean) ∈ z_tb := z_tb_in (i := 1348) (by decide +kernel) rfl
theorem q1349 : Cond.methodLink RL 165 yX8_traceValue ∈ z_tb := z_tb_in (i := 1349) (by decide +kernel) rfl
theorem q1350 : Cond.instanceMethod yX8_traceValue ∈ z_tb := z_tb_in (i := 1350) (by decide +kernel) rfl
theorem q1351 : Cond.selects RX8 yX8_traceValue yX8_traceValue ∈ z_tb := z_tb_in (i := 1351) (by decide +kernel) rfl
theorem q1352 : Cond.code yX8_traceValue cX8_traceValue 3 (some FieldType.long) ∈ z_tb := z_tb_in (i := 1352) (by decide +kernel) rfl
theorem q1353 : Cond.methodLink RX8 270 yX8_traceHarmonic ∈ z_tb := z_tb_in (i := 1353) (by decide +kernel) rfl
theorem q1355 : Cond.instanceMethod yX8_traceHarmonic ∈ z_tb := z_tb_in (i := 1355) (by decide +kernel) rfl
theorem q1356 : Cond.code yX8_traceHarmonic cX8_traceHarmonic 4 (some FieldType.long) ∈ z_tb := z_tb_in (i := 1356) (by decide +kernel) rfl
theorem q1357 : Cond.methodLink RL 169 yX8_axis ∈ z_tb := z_tb_in (i := 1357) (by decide +kernel) rfl
theorem q1358 : Cond.instanceMethod yX8_axis ∈ z_tb := z_tb_in (i := 1358) (by decide +kernel) rfl
theorem q1359 : Cond.selects RX8 yX8_axis yX8_axis ∈ z_tb := z_tb_in (i := 1359) (by decide +kernel) rfl
theorem q1360 : Cond.code yX8_axis cX8_axis 3 (some FieldType.long) ∈ z_tb := z_tb_in (i := 1360) (by decide +kernel) rfl
theorem q1361 : Cond.methodLink RX8 274 yX8_axisAt ∈ z_tb := z_tb_in (i := 1361) (by decide +kernel) rfl
theorem q1363 : Cond.instanceMethod yX8_axisAt ∈ z_tb := z_tb_in (i := 1363) (by decide +kernel) rfl
theorem q1364 : Cond.code yX8_axisAt cX8_axisAt 14 (some FieldType.long) ∈ z_tb := z_tb_in (i := 1364) (by decide +kernel) rfl
theorem q1365 : Cond.methodLink RL 174 yX8_cylindricity ∈ z_tb := z_tb_in (i := 1365) (by decide +kernel) rfl
theorem q1366 : Cond.instanceMethod yX8_cylindricity ∈ z_tb := z_tb_in (i := 1366) (by decide +kernel) rfl
theorem q1367 : Cond.selects RX8 yX8_cylindricity yX8_cylindricity ∈ z_tb := z_tb_in (i := 1367) (by decide +kernel) rfl
theorem q1368 : Cond.code yX8_cylindricity cX8_cylindricity 6 (some FieldType.double) ∈ z_tb := z_tb_in (i := 1368) (by decide +kernel) rfl
theorem q1369 : Cond.methodLink RL 178 yX8_farthestTrace ∈ z_tb := z_tb_in (i := 1369) (by decide +kernel) rfl
theorem q1370 : Cond.instanceMethod yX8_farthestTrace ∈ z_tb := z_tb_in (i := 1370) (by decide +kernel) rfl
theorem q1371 : Cond.selects RX8 yX8_farthestTrace yX8_farthestTrace ∈ z_tb := z_tb_in (i := 1371) (by decide +kernel) rfl
theorem q1372 : Cond.code yX8_farthestTrace cX8_farthestTrace 3 (some FieldType.int) ∈ z_tb := z_tb_in (i := 1372) (by decide +kernel) rfl
theorem q1373 : Cond.methodLink RX8 277 yX8_farOf ∈ z_tb := z_tb_in (i := 1373) (by decide +kernel) rfl
theorem q1375 : Cond.instanceMethod yX8_farOf ∈ z_tb := z_tb_in (i := 1375) (by decide +kernel) rfl
theorem q1376 : Cond.code yX8_farOf cX8_farOf 2 (some FieldType.long) ∈ z_tb := z_tb_in (i := 1376) (by decide +kernel) rfl
theorem q1377 : Cond.methodLink RL 182 yX8_taper ∈ z_tb := z_tb_in (i := 1377) (by decide +kernel) rfl
theorem q1378 : Cond.instanceMethod yX8_taper ∈ z_tb := z_tb_in (i := 1378) (by decide +kernel) rfl
theorem q1379 : Cond.selects RX8 yX8_taper yX8_taper ∈ z_tb := z_tb_in (i := 1379) (by decide +kernel) rfl
theorem q1380 : Cond.code yX8_taper cX8_taper 8 (some FieldType.long) ∈ z_tb := z_tb_in (i := 1380) (by decide +kernel) rfl
theorem q1381 : Cond.methodLink RL 187 yX8_difference ∈ z_tb := z_tb_in (i := 1381) (by decide +kernel) rfl
theorem q1382 : Cond.instanceMethod yX8_difference ∈ z_tb := z_tb_in (i := 1382) (by decide +kernel) rfl
theorem q1383 : Cond.selects RX8 yX8_difference yX8_difference ∈ z_tb := z_tb_in (i := 1383) (by decide +kernel) rfl
theorem q1384 : Cond.code yX8_difference cX8_difference 4 (some FieldType.long) ∈ z_tb := z_tb_in (i := 1384) (by decide +kernel) rfl
theorem q1385 : Cond.methodLink RX8 280 yX8_unlike ∈ z_tb := z_tb_in (i := 1385) (by decide +kernel) rfl
theorem q1387 : Cond.instanceMethod yX8_unlike ∈ z_tb := z_tb_in (i := 1387) (by decide +kernel) rfl
theorem q1388 : Cond.code yX8_unlike cX8_unlike 7 (some FieldType.long) ∈ z_tb := z_tb_in (i := 1388) (by decide +kernel) rfl
theorem q1389 : Cond.methodLink RL 191 yX8_bestRotation ∈ z_tb := z_tb_in (i := 1389) (by decide +kernel) rfl
theorem q1390 : Cond.instanceMethod yX8_bestRotation ∈ z_tb := z_tb_in (i := 1390) (by decide +kernel) rfl
theorem q1391 : Cond.selects RX8 yX8_bestRotation yX8_bestRotation ∈ z_tb := z_tb_in (i := 1391) (by decide +kernel) rfl
theorem q1392 : Cond.code yX8_bestRotation cX8_bestRotation 5 (some FieldType.int) ∈ z_tb := z_tb_in (i := 1392) (by decide +kernel) rfl
theorem q1393 : Cond.methodLink RL 196 yX8_addRule ∈ z_tb := z_tb_in (i := 1393) (by decide +kernel) rfl
theorem q1394 : Cond.instanceMethod yX8_addRule ∈ z_tb := z_tb_in (i := 1394) (by decide +kernel) rfl
theorem q1395 : Cond.selects RX8 yX8_addRule yX8_addRule ∈ z_tb := z_tb_in (i := 1395) (by decide +kernel) rfl
theorem q1396 : Cond.code yX8_addRule cX8_addRule 5 (some FieldType.int) ∈ z_tb := z_tb_in (i := 1396) (by decide +kernel) rfl
theorem q1397 : Cond.methodLink RL 200 yX8_clearRules ∈ z_tb := z_tb_in (i := 1397) (by decide +kernel) rfl
theorem q1398 : Cond.instanceMethod yX8_clearRules ∈ z_tb := z_tb_in (i := 1398) (by decide +kernel) rfl
theorem q1399 : Cond.selects RX8 yX8_clearRules yX8_clearRules ∈ z_tb := z_tb_in (i := 1399) (by decide +kernel) rfl
theorem q1400 : Cond.code yX8_clearRules cX8_clearRules 2 (some FieldType.int) ∈ z_tb := z_tb_in (i := 1400) (by decide +kernel) rfl
theorem q1401 : Cond.methodLink RL 204 yX8_ruleValue ∈ z_tb := z_tb_in (i := 1401) (by decide +kernel) rfl
theorem q1402 : Cond.instanceMethod yX8_ruleValue ∈ z_tb := z_tb_in (i := 1402) (by decide +kernel) rfl
theorem q1403 : Cond.selects RX8 yX8_ruleValue yX8_ruleValue ∈ z_tb := z_tb_in (i := 1403) (by decide +kernel) rfl
theorem q1404 : Cond.code yX8_ruleValue cX8_ruleValue 2 (some FieldType.long) ∈ z_tb := z_tb_in (i := 1404) (by decide +kernel) rfl
theorem q1405 : Cond.methodLink RX8 287 yX8_ruleNow ∈ z_tb := z_tb_in (i := 1405) (by decide +kernel) rfl
theorem q1407 : Cond.instanceMethod yX8_ruleNow ∈ z_tb := z_tb_in (i := 1407) (by decide +kernel) rfl
theorem q1408 : Cond.code yX8_ruleNow cX8_ruleNow 2 (some FieldType.long) ∈ z_tb := z_tb_in (i := 1408) (by decide +kernel) rfl
theorem q1409 : Cond.methodLink RL 208 yX8_violated ∈ z_tb := z_tb_in (i := 1409) (by decide +kernel) rfl
theorem q1410 : Cond.instanceMethod yX8_violated ∈ z_tb := z_tb_in (i := 1410) (by decide +kernel) rfl
theorem q1411 : Cond.selects RX8 yX8_violated yX8_violated ∈ z_tb := z_tb_in (i := 1411) (by decide +kernel) rfl
theorem q1412 : Cond.code yX8_violated cX8_violated 3 (some FieldType.int) ∈ z_tb := z_tb_in (i := 1412) (by decide +kernel) rfl
theorem q1413 : Cond.methodLink RL 213 yX8_type ∈ z_tb := z_tb_in (i := 1413) (by decide +kernel) rfl
theorem q1414 : Cond.instanceMethod yX8_type ∈ z_tb := z_tb_in (i := 1414) (by decide +kernel) rfl
theorem q1415 : Cond.selects RX8 yX8_type yX8_type ∈ z_tb := z_tb_in (i := 1415) (by decide +kernel) rfl
theorem q1416 : Cond.code yX8_type cX8_type 2 (some FieldType.int) ∈ z_tb := z_tb_in (i := 1416) (by decide +kernel) rfl
theorem q1417 : Cond.methodLink RL 217 yX8_clearText ∈ z_tb := z_tb_in (i := 1417) (by decide +kernel) rfl
theorem q1418 : Cond.instanceMethod yX8_clearText ∈ z_tb := z_tb_in (i := 1418) (by decide +kernel) rfl
theorem q1419 : Cond.selects RX8 yX8_clearText yX8_clearText ∈ z_tb := z_tb_in (i := 1419) (by decide +kernel) rfl
theorem q1420 : Cond.code yX8_clearText cX8_clearText 2 (some FieldType.int) ∈ z_tb := z_tb_in (i := 1420) (by decide +kernel) rfl
theorem q1421 : Cond.methodLink RL 221 yX8_readText ∈ z_tb := z_tb_in (i := 1421) (by decide +kernel) rfl
theorem q1422 : Cond.instanceMethod yX8_readText ∈ z_tb := z_tb_in (i := 1422) (by decide +kernel) rfl
theorem q1423 : Cond.selects RX8 yX8_readText yX8_readText ∈ z_tb := z_tb_in (i := 1423) (by decide +kernel) rfl
theorem q1424 : Cond.code yX8_readText cX8_readText 2 (some FieldType.int) ∈ z_tb := z_tb_in (i := 1424) (by decide +kernel) rfl
theorem q1425 : Cond.methodLink RX8 341 yX8_readAll ∈ z_tb := z_tb_in (i := 1425) (by decide +kernel) rfl
theorem q1427 : Cond.instanceMethod yX8_readAll ∈ z_tb := z_tb_in (i := 1427) (by decide +kernel) rfl
theorem q1428 : Cond.code yX8_readAll cX8_readAll 4 (some FieldType.int) ∈ z_tb := z_tb_in (i := 1428) (by decide +kernel) rfl
theorem q1429 : Cond.methodLink RX8 338 yX8_readItem ∈ z_tb := z_tb_in (i := 1429) (by decide +kernel) rfl
theorem q1431 : Cond.instanceMethod yX8_readItem ∈ z_tb := z_tb_in (i := 1431) (by decide +kernel) rfl
theorem q1432 : Cond.code yX8_readItem cX8_readItem 6 none ∈ z_tb := z_tb_in (i := 1432) (by decide +kernel) rfl
theorem q1433 : Cond.methodLink RX8 299 yX8_isAt ∈ z_tb := z_tb_in (i := 1433) (by decide +kernel) rfl
theorem q1435 : Cond.instanceMethod yX8_isAt ∈ z_tb := z_tb_in (i := 1435) (by decide +kernel) rfl
theorem q1436 : Cond.code yX8_isAt cX8_isAt 2 (some FieldType.boolean) ∈ z_tb := z_tb_in (i := 1436) (by decide +kernel) rfl
theorem q1437 : Cond.methodLink RX8 303 yX8_fail ∈ z_tb := z_tb_in (i := 1437) (by decide +kernel) rfl
theorem q1439 : Cond.instanceMethod yX8_fail ∈ z_tb := z_tb_in (i := 1439) (by decide +kernel) rfl
theorem q1440 : Cond.code yX8_fail cX8_fail 2 none ∈ z_tb := z_tb_in (i := 1440) (by decide +kernel) rfl
theorem q1441 : Cond.methodLink RX8 309 yX8_number ∈ z_tb := z_tb_in (i := 1441) (by decide +kernel) rfl
theorem q1443 : Cond.instanceMethod yX8_number ∈ z_tb := z_tb_in (i := 1443) (by decide +kernel) rfl
theorem q1444 : Cond.code yX8_number cX8_number 8 (some FieldType.int) ∈ z_tb := z_tb_in (i := 1444) (by decide +kernel) rfl
theorem q1445 : Cond.methodLink RX8 306 yX8_isDigit ∈ z_tb := z_tb_in (i := 1445) (by decide +kernel) rfl
theorem q1447 : Cond.instanceMethod yX8_isDigit ∈ z_tb := z_tb_in (i := 1447) (by decide +kernel) rfl
theorem q1448 : Cond.code yX8_isDigit cX8_isDigit 1 (some FieldType.boolean) ∈ z_tb := z_tb_in (i := 1448) (by decide +kernel) rfl
theorem q1449 : Cond.methodLink RX8 328 yX8_setSteps ∈ z_tb := z_tb_in (i := 1449) (by decide +kernel) rfl
theorem q1450 : Cond.methodLink RX8 331 yX8_readPlace ∈ z_tb := z_tb_in (i := 1450) (by decide +kernel) rfl
theorem q1452 : Cond.instanceMethod yX8_readPlace ∈ z_tb := z_tb_in (i := 1452) (by decide +kernel) rfl
theorem q1453 : Cond.code yX8_readPlace cX8_readPlace 3 none ∈ z_tb := z_tb_in (i := 1453) (by decide +kernel) rfl
theorem q1454 : Cond.methodLink RX8 313 yX8_expect ∈ z_tb := z_tb_in (i := 1454) (by decide +kernel) rfl
theorem q1456 : Cond.instanceMethod yX8_expect ∈ z_tb := z_tb_in (i := 1456) (by decide +kernel) rfl
theorem q1457 : Cond.code yX8_expect cX8_expect 2 none ∈ z_tb := z_tb_in (i := 1457) (by decide +kernel) rfl
theorem q1458 : Cond.methodLink RX8 325 yX8_setEccentricity ∈ z_tb := z_tb_in (i := 1458) (by decide +kernel) rfl
theorem q1459 : Cond.instanceMethod yX8_setEccentricity ∈ z_tb := z_tb_in (i := 1459) (by decide +kernel) rfl
theorem q1460 : Cond.selects RX8 yX8_setEccentricity yX8_setEccentricity ∈ z_tb := z_tb_in (i := 1460) (by decide +kernel) rfl
theorem q1461 : Cond.code yX8_setEccentricity cX8_setEccentricity 4 (some FieldType.int) ∈ z_tb := z_tb_in (i := 1461) (by decide +kernel) rfl
theorem q1462 : Cond.constantLong RX8 350 (-5000) ∈ z_tb := z_tb_in (i := 1462) (by decide +kernel) rfl
theorem q1463 : Cond.constantLong RX8 352 (5000) ∈ z_tb := z_tb_in (i := 1463) (by decide +kernel) rfl
theorem q1464 : Cond.methodLink RX8 334 yX8_readLobes ∈ z_tb := z_tb_in (i := 1464) (by decide +kernel) rfl
theorem q1466 : Cond.instanceMethod yX8_readLobes ∈ z_tb := z_tb_in (i := 1466) (by decide +kernel) rfl
theorem q1467 : Cond.code yX8_readLobes cX8_readLobes 5 none ∈ z_tb := z_tb_in (i := 1467) (by decide +kernel) rfl
theorem q1468 : Cond.methodLink RX8 321 yX8_addLobes ∈ z_tb := z_tb_in (i := 1468) (by decide +kernel) rfl
theorem q1469 : Cond.instanceMethod yX8_addLobes ∈ z_tb := z_tb_in (i := 1469) (by decide +kernel) rfl
theorem q1470 : Cond.selects RX8 yX8_addLobes yX8_addLobes ∈ z_tb := z_tb_in (i := 1470) (by decide +kernel) rfl
theorem q1471 : Cond.code yX8_addLobes cX8_addLobes 9 (some FieldType.int) ∈ z_tb := z_tb_in (i := 1471) (by decide +kernel) rfl
theorem q1472 : Cond.constantLong RX8 354 (-1000) ∈ z_tb := z_tb_in (i := 1472) (by decide +kernel) rfl
theorem q1473 : Cond.constantLong RX8 356 (1000) ∈ z_tb := z_tb_in (i := 1473) (by decide +kernel) rfl
theorem q1474 : Cond.methodLink RX8 358 yX8_kept ∈ z_tb := z_tb_in (i := 1474) (by decide +kernel) rfl
theorem q1475 : Cond.static yX8_kept ∈ z_tb := z_tb_in (i := 1475) (by decide +kernel) rfl
theorem q1476 : Cond.code yX8_kept cX8_kept 3 (some FieldType.int) ∈ z_tb := z_tb_in (i := 1476) (by decide +kernel) rfl
theorem q1477 : Cond.methodLink RL 226 yX8_setTrue ∈ z_tb := z_tb_in (i := 1477) (by decide +kernel) rfl
theorem q1478 : Cond.instanceMethod yX8_setTrue ∈ z_tb := z_tb_in (i := 1478) (by decide +kernel) rfl
theorem q1479 : Cond.selects RX8 yX8_setTrue yX8_setTrue ∈ z_tb := z_tb_in (i := 1479) (by decide +kernel) rfl
theorem q1480 : Cond.code yX8_setTrue cX8_setTrue 6 (some FieldType.int) ∈ z_tb := z_tb_in (i := 1480) (by decide +kernel) rfl
theorem q1481 : Cond.methodLink RL 231 yX8_addLobes ∈ z_tb := z_tb_in (i := 1481) (by decide +kernel) rfl
theorem q1482 : Cond.methodLink RL 235 yX8_setEccentricity ∈ z_tb := z_tb_in (i := 1482) (by decide +kernel) rfl
theorem q1483 : Cond.methodLink RL 26 yX8_simulateStep ∈ z_tb := z_tb_in (i := 1483) (by decide +kernel) rfl
theorem q1484 : Cond.instanceMethod yX8_simulateStep ∈ z_tb := z_tb_in (i := 1484) (by decide +kernel) rfl
theorem q1485 : Cond.selects RX8 yX8_simulateStep yX8_simulateStep ∈ z_tb := z_tb_in (i := 1485) (by decide +kernel) rfl
theorem q1486 : Cond.code yX8_simulateStep cX8_simulateStep 6 (some FieldType.int) ∈ z_tb := z_tb_in (i := 1486) (by decide +kernel) rfl
theorem q1487 : Cond.constantLong RL 139 (4294967295) ∈ z_tb := z_tb_in (i := 1487) (by decide +kernel) rfl
