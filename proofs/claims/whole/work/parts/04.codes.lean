set_option maxRecDepth 100000 in
theorem cw_mP_put : lw_tbl[325]? = some (Jvm.Cond.code mP_put.2.1 mP_put.2.2.1 mP_put.2.2.2.1 mP_put.2.2.2.2) := rfl
set_option maxRecDepth 100000 in
theorem cw_mR_append : lw_tbl[329]? = some (Jvm.Cond.code mR_append.2.1 mR_append.2.2.1 mR_append.2.2.2.1 mR_append.2.2.2.2) := rfl
set_option maxRecDepth 100000 in
theorem cw_mP_bytes : lw_tbl[333]? = some (Jvm.Cond.code mP_bytes.2.1 mP_bytes.2.2.1 mP_bytes.2.2.2.1 mP_bytes.2.2.2.2) := rfl
set_option maxRecDepth 100000 in
theorem cw_mP_load : lw_tbl[337]? = some (Jvm.Cond.code mP_load.2.1 mP_load.2.2.1 mP_load.2.2.2.1 mP_load.2.2.2.2) := rfl
set_option maxRecDepth 100000 in
theorem cw_mR_readInto : lw_tbl[341]? = some (Jvm.Cond.code mR_readInto.2.1 mR_readInto.2.2.1 mR_readInto.2.2.2.1 mR_readInto.2.2.2.2) := rfl
set_option maxRecDepth 100000 in
theorem cw_mU_clear : lw_tbl[345]? = some (Jvm.Cond.code mU_clear.2.1 mU_clear.2.2.1 mU_clear.2.2.2.1 mU_clear.2.2.2.2) := rfl
set_option maxRecDepth 100000 in
theorem cw_mR_take : lw_tbl[349]? = some (Jvm.Cond.code mR_take.2.1 mR_take.2.2.1 mR_take.2.2.2.1 mR_take.2.2.2.2) := rfl
set_option maxRecDepth 100000 in
theorem cw_mR_readConstants : lw_tbl[353]? = some (Jvm.Cond.code mR_readConstants.2.1 mR_readConstants.2.2.1 mR_readConstants.2.2.2.1 mR_readConstants.2.2.2.2) := rfl
set_option maxRecDepth 100000 in
theorem cw_mR_readConstant : lw_tbl[357]? = some (Jvm.Cond.code mR_readConstant.2.1 mR_readConstant.2.2.1 mR_readConstant.2.2.2.1 mR_readConstant.2.2.2.2) := rfl
set_option maxRecDepth 100000 in
theorem cw_mR_readText : lw_tbl[361]? = some (Jvm.Cond.code mR_readText.2.1 mR_readText.2.2.1 mR_readText.2.2.2.1 mR_readText.2.2.2.2) := rfl
set_option maxRecDepth 100000 in
theorem cw_mT_codeOf : lw_tbl[364]? = some (Jvm.Cond.code mT_codeOf.2.1 mT_codeOf.2.2.1 mT_codeOf.2.2.2.1 mT_codeOf.2.2.2.2) := rfl
set_option maxRecDepth 100000 in
theorem cw_mR_fail : lw_tbl[368]? = some (Jvm.Cond.code mR_fail.2.1 mR_fail.2.2.1 mR_fail.2.2.2.1 mR_fail.2.2.2.2) := rfl
set_option maxRecDepth 100000 in
theorem cw_mT_withCode : lw_tbl[371]? = some (Jvm.Cond.code mT_withCode.2.1 mT_withCode.2.2.1 mT_withCode.2.2.2.1 mT_withCode.2.2.2.2) := rfl
set_option maxRecDepth 100000 in
theorem cw_mR_checkNumbers : lw_tbl[375]? = some (Jvm.Cond.code mR_checkNumbers.2.1 mR_checkNumbers.2.2.1 mR_checkNumbers.2.2.2.1 mR_checkNumbers.2.2.2.2) := rfl
set_option maxRecDepth 100000 in
theorem cw_mR_isName : lw_tbl[379]? = some (Jvm.Cond.code mR_isName.2.1 mR_isName.2.2.1 mR_isName.2.2.2.1 mR_isName.2.2.2.2) := rfl
set_option maxRecDepth 100000 in
theorem cw_mR_tagOf : lw_tbl[383]? = some (Jvm.Cond.code mR_tagOf.2.1 mR_tagOf.2.2.1 mR_tagOf.2.2.2.1 mR_tagOf.2.2.2.2) := rfl
set_option maxRecDepth 100000 in
theorem cw_mT_isName : lw_tbl[386]? = some (Jvm.Cond.code mT_isName.2.1 mT_isName.2.2.1 mT_isName.2.2.2.1 mT_isName.2.2.2.2) := rfl
set_option maxRecDepth 100000 in
theorem cw_mT_lengthOf : lw_tbl[389]? = some (Jvm.Cond.code mT_lengthOf.2.1 mT_lengthOf.2.2.1 mT_lengthOf.2.2.2.1 mT_lengthOf.2.2.2.2) := rfl
set_option maxRecDepth 100000 in
theorem cw_mT_codeAt : lw_tbl[392]? = some (Jvm.Cond.code mT_codeAt.2.1 mT_codeAt.2.2.1 mT_codeAt.2.2.2.1 mT_codeAt.2.2.2.2) := rfl
set_option maxRecDepth 100000 in
theorem cw_mR_isWord : lw_tbl[396]? = some (Jvm.Cond.code mR_isWord.2.1 mR_isWord.2.2.1 mR_isWord.2.2.2.1 mR_isWord.2.2.2.2) := rfl
set_option maxRecDepth 100000 in
theorem cw_mT_isWord : lw_tbl[399]? = some (Jvm.Cond.code mT_isWord.2.1 mT_isWord.2.2.1 mT_isWord.2.2.2.1 mT_isWord.2.2.2.2) := rfl
set_option maxRecDepth 100000 in
theorem cw_mR_readParents : lw_tbl[403]? = some (Jvm.Cond.code mR_readParents.2.1 mR_readParents.2.2.1 mR_readParents.2.2.2.1 mR_readParents.2.2.2.2) := rfl
set_option maxRecDepth 100000 in
theorem cw_mR_takeClass : lw_tbl[407]? = some (Jvm.Cond.code mR_takeClass.2.1 mR_takeClass.2.2.1 mR_takeClass.2.2.2.1 mR_takeClass.2.2.2.2) := rfl
set_option maxRecDepth 100000 in
theorem cw_mR_lastText : lw_tbl[411]? = some (Jvm.Cond.code mR_lastText.2.1 mR_lastText.2.2.1 mR_lastText.2.2.2.1 mR_lastText.2.2.2.2) := rfl
set_option maxRecDepth 100000 in
theorem cw_mU_addOccurrence : lw_tbl[415]? = some (Jvm.Cond.code mU_addOccurrence.2.1 mU_addOccurrence.2.2.1 mU_addOccurrence.2.2.2.1 mU_addOccurrence.2.2.2.2) := rfl
set_option maxRecDepth 100000 in
theorem cw_mR_readInterfaces : lw_tbl[419]? = some (Jvm.Cond.code mR_readInterfaces.2.1 mR_readInterfaces.2.2.1 mR_readInterfaces.2.2.2.1 mR_readInterfaces.2.2.2.2) := rfl
set_option maxRecDepth 100000 in
theorem cw_mU_addInterface : lw_tbl[423]? = some (Jvm.Cond.code mU_addInterface.2.1 mU_addInterface.2.2.1 mU_addInterface.2.2.2.1 mU_addInterface.2.2.2.2) := rfl
set_option maxRecDepth 100000 in
theorem cw_mR_readFields : lw_tbl[427]? = some (Jvm.Cond.code mR_readFields.2.1 mR_readFields.2.2.1 mR_readFields.2.2.2.1 mR_readFields.2.2.2.2) := rfl
set_option maxRecDepth 100000 in
theorem cw_mR_takeWord : lw_tbl[431]? = some (Jvm.Cond.code mR_takeWord.2.1 mR_takeWord.2.2.1 mR_takeWord.2.2.2.1 mR_takeWord.2.2.2.2) := rfl
set_option maxRecDepth 100000 in
theorem cw_mU_addField : lw_tbl[435]? = some (Jvm.Cond.code mU_addField.2.1 mU_addField.2.2.1 mU_addField.2.2.2.1 mU_addField.2.2.2.2) := rfl
set_option maxRecDepth 100000 in
theorem cw_mR_readMethods : lw_tbl[439]? = some (Jvm.Cond.code mR_readMethods.2.1 mR_readMethods.2.2.1 mR_readMethods.2.2.2.1 mR_readMethods.2.2.2.2) := rfl
set_option maxRecDepth 100000 in
theorem cw_mR_readMethod : lw_tbl[443]? = some (Jvm.Cond.code mR_readMethod.2.1 mR_readMethod.2.2.1 mR_readMethod.2.2.2.1 mR_readMethod.2.2.2.2) := rfl
set_option maxRecDepth 100000 in
theorem cw_mU_addMethod : lw_tbl[447]? = some (Jvm.Cond.code mU_addMethod.2.1 mU_addMethod.2.2.1 mU_addMethod.2.2.2.1 mU_addMethod.2.2.2.2) := rfl
set_option maxRecDepth 100000 in
theorem cw_mR_readInstruction : lw_tbl[454]? = some (Jvm.Cond.code mR_readInstruction.2.1 mR_readInstruction.2.2.1 mR_readInstruction.2.2.2.1 mR_readInstruction.2.2.2.2) := rfl
set_option maxRecDepth 100000 in
theorem cw_mR_readStep : lw_tbl[458]? = some (Jvm.Cond.code mR_readStep.2.1 mR_readStep.2.2.1 mR_readStep.2.2.2.1 mR_readStep.2.2.2.2) := rfl
set_option maxRecDepth 100000 in
theorem cw_mR_readSwitch : lw_tbl[462]? = some (Jvm.Cond.code mR_readSwitch.2.1 mR_readSwitch.2.2.1 mR_readSwitch.2.2.2.1 mR_readSwitch.2.2.2.2) := rfl
set_option maxRecDepth 100000 in
theorem cw_mR_readWide : lw_tbl[466]? = some (Jvm.Cond.code mR_readWide.2.1 mR_readWide.2.2.1 mR_readWide.2.2.2.1 mR_readWide.2.2.2.2) := rfl
set_option maxRecDepth 100000 in
theorem cw_mR_kindOf : lw_tbl[469]? = some (Jvm.Cond.code mR_kindOf.2.1 mR_kindOf.2.2.1 mR_kindOf.2.2.2.1 mR_kindOf.2.2.2.2) := rfl
set_option maxRecDepth 100000 in
theorem cw_mR_useConstant : lw_tbl[473]? = some (Jvm.Cond.code mR_useConstant.2.1 mR_useConstant.2.2.1 mR_useConstant.2.2.2.1 mR_useConstant.2.2.2.2) := rfl
set_option maxRecDepth 100000 in
theorem cw_mR_tagFor : lw_tbl[476]? = some (Jvm.Cond.code mR_tagFor.2.1 mR_tagFor.2.2.1 mR_tagFor.2.2.2.1 mR_tagFor.2.2.2.2) := rfl
set_option maxRecDepth 100000 in
theorem cw_mR_readUse : lw_tbl[480]? = some (Jvm.Cond.code mR_readUse.2.1 mR_readUse.2.2.1 mR_readUse.2.2.2.1 mR_readUse.2.2.2.2) := rfl
set_option maxRecDepth 100000 in
theorem cw_mG_adoptSpare : lw_tbl[484]? = some (Jvm.Cond.code mG_adoptSpare.2.1 mG_adoptSpare.2.2.1 mG_adoptSpare.2.2.2.1 mG_adoptSpare.2.2.2.2) := rfl
set_option maxRecDepth 100000 in
theorem cw_mG_numberOf : lw_tbl[488]? = some (Jvm.Cond.code mG_numberOf.2.1 mG_numberOf.2.2.1 mG_numberOf.2.2.2.1 mG_numberOf.2.2.2.2) := rfl
set_option maxRecDepth 100000 in
theorem cw_mG_linkParents : lw_tbl[492]? = some (Jvm.Cond.code mG_linkParents.2.1 mG_linkParents.2.2.1 mG_linkParents.2.2.2.1 mG_linkParents.2.2.2.2) := rfl
set_option maxRecDepth 100000 in
theorem cw_mG_with : lw_tbl[495]? = some (Jvm.Cond.code mG_with.2.1 mG_with.2.2.1 mG_with.2.2.2.1 mG_with.2.2.2.2) := rfl
set_option maxRecDepth 100000 in
theorem cw_mG_follow : lw_tbl[499]? = some (Jvm.Cond.code mG_follow.2.1 mG_follow.2.2.1 mG_follow.2.2.2.1 mG_follow.2.2.2.2) := rfl
set_option maxRecDepth 100000 in
theorem cw_mG_isIn : lw_tbl[502]? = some (Jvm.Cond.code mG_isIn.2.1 mG_isIn.2.2.1 mG_isIn.2.2.2.1 mG_isIn.2.2.2.2) := rfl
set_option maxRecDepth 100000 in
theorem cw_mP_type : lw_tbl[506]? = some (Jvm.Cond.code mP_type.2.1 mP_type.2.2.1 mP_type.2.2.2.1 mP_type.2.2.2.2) := rfl
set_option maxRecDepth 100000 in
theorem cw_mP_pattern : lw_tbl[513]? = some (Jvm.Cond.code mP_pattern.2.1 mP_pattern.2.2.1 mP_pattern.2.2.2.1 mP_pattern.2.2.2.2) := rfl
set_option maxRecDepth 100000 in
theorem cw_mP_rule : lw_tbl[517]? = some (Jvm.Cond.code mP_rule.2.1 mP_rule.2.2.1 mP_rule.2.2.2.1 mP_rule.2.2.2.2) := rfl
set_option maxRecDepth 100000 in
theorem cw_mP_canBeRule : lw_tbl[521]? = some (Jvm.Cond.code mP_canBeRule.2.1 mP_canBeRule.2.2.1 mP_canBeRule.2.2.2.1 mP_canBeRule.2.2.2.2) := rfl
set_option maxRecDepth 100000 in
theorem cw_mP_isDepth : lw_tbl[524]? = some (Jvm.Cond.code mP_isDepth.2.1 mP_isDepth.2.2.1 mP_isDepth.2.2.2.1 mP_isDepth.2.2.2.2) := rfl
set_option maxRecDepth 100000 in
theorem cw_mP_isPattern : lw_tbl[528]? = some (Jvm.Cond.code mP_isPattern.2.1 mP_isPattern.2.2.1 mP_isPattern.2.2.2.1 mP_isPattern.2.2.2.2) := rfl
set_option maxRecDepth 100000 in
theorem cw_mK_become : lw_tbl[532]? = some (Jvm.Cond.code mK_become.2.1 mK_become.2.2.1 mK_become.2.2.2.1 mK_become.2.2.2.2) := rfl
set_option maxRecDepth 100000 in
theorem cw_mP_violations : lw_tbl[536]? = some (Jvm.Cond.code mP_violations.2.1 mP_violations.2.2.1 mP_violations.2.2.2.1 mP_violations.2.2.2.2) := rfl
set_option maxRecDepth 100000 in
theorem cw_mP_isRule : lw_tbl[540]? = some (Jvm.Cond.code mP_isRule.2.1 mP_isRule.2.2.1 mP_isRule.2.2.2.1 mP_isRule.2.2.2.2) := rfl
set_option maxRecDepth 100000 in
theorem cw_mP_findNew : lw_tbl[544]? = some (Jvm.Cond.code mP_findNew.2.1 mP_findNew.2.2.1 mP_findNew.2.2.2.1 mP_findNew.2.2.2.2) := rfl
set_option maxRecDepth 100000 in
theorem cw_mP_findAll : lw_tbl[548]? = some (Jvm.Cond.code mP_findAll.2.1 mP_findAll.2.2.1 mP_findAll.2.2.2.1 mP_findAll.2.2.2.2) := rfl
set_option maxRecDepth 100000 in
theorem cw_mP_findCycles : lw_tbl[552]? = some (Jvm.Cond.code mP_findCycles.2.1 mP_findCycles.2.2.1 mP_findCycles.2.2.2.1 mP_findCycles.2.2.2.2) := rfl
set_option maxRecDepth 100000 in
theorem cw_mG_linkSlices : lw_tbl[556]? = some (Jvm.Cond.code mG_linkSlices.2.1 mG_linkSlices.2.2.1 mG_linkSlices.2.2.2.1 mG_linkSlices.2.2.2.2) := rfl
set_option maxRecDepth 100000 in
theorem cw_mG_cutSlices : lw_tbl[560]? = some (Jvm.Cond.code mG_cutSlices.2.1 mG_cutSlices.2.2.1 mG_cutSlices.2.2.2.1 mG_cutSlices.2.2.2.2) := rfl
set_option maxRecDepth 100000 in
theorem cw_mT_firstWords : lw_tbl[563]? = some (Jvm.Cond.code mT_firstWords.2.1 mT_firstWords.2.2.1 mT_firstWords.2.2.2.1 mT_firstWords.2.2.2.2) := rfl
set_option maxRecDepth 100000 in
theorem cw_mG_headOf : lw_tbl[567]? = some (Jvm.Cond.code mG_headOf.2.1 mG_headOf.2.2.1 mG_headOf.2.2.2.1 mG_headOf.2.2.2.2) := rfl
set_option maxRecDepth 100000 in
theorem cw_mG_slicesNamedIn : lw_tbl[571]? = some (Jvm.Cond.code mG_slicesNamedIn.2.1 mG_slicesNamedIn.2.2.1 mG_slicesNamedIn.2.2.2.1 mG_slicesNamedIn.2.2.2.2) := rfl
set_option maxRecDepth 100000 in
theorem cw_mG_headsCycle : lw_tbl[575]? = some (Jvm.Cond.code mG_headsCycle.2.1 mG_headsCycle.2.2.1 mG_headsCycle.2.2.2.1 mG_headsCycle.2.2.2.2) := rfl
set_option maxRecDepth 100000 in
theorem cw_mP_watches : lw_tbl[579]? = some (Jvm.Cond.code mP_watches.2.1 mP_watches.2.2.1 mP_watches.2.2.2.1 mP_watches.2.2.2.2) := rfl
set_option maxRecDepth 100000 in
theorem cw_mP_fitsText : lw_tbl[583]? = some (Jvm.Cond.code mP_fitsText.2.1 mP_fitsText.2.2.1 mP_fitsText.2.2.2.1 mP_fitsText.2.2.2.2) := rfl
set_option maxRecDepth 100000 in
theorem cw_mT_matches : lw_tbl[586]? = some (Jvm.Cond.code mT_matches.2.1 mT_matches.2.2.1 mT_matches.2.2.2.1 mT_matches.2.2.2.2) := rfl
set_option maxRecDepth 100000 in
theorem cw_mT_passStars : lw_tbl[589]? = some (Jvm.Cond.code mT_passStars.2.1 mT_passStars.2.2.1 mT_passStars.2.2.2.1 mT_passStars.2.2.2.2) := rfl
set_option maxRecDepth 100000 in
theorem cw_mT_step : lw_tbl[592]? = some (Jvm.Cond.code mT_step.2.1 mT_step.2.2.1 mT_step.2.2.2.1 mT_step.2.2.2.2) := rfl
set_option maxRecDepth 100000 in
theorem cw_mP_breaks : lw_tbl[596]? = some (Jvm.Cond.code mP_breaks.2.1 mP_breaks.2.2.1 mP_breaks.2.2.2.1 mP_breaks.2.2.2.2) := rfl
set_option maxRecDepth 100000 in
theorem cw_mG_targetOf : lw_tbl[600]? = some (Jvm.Cond.code mG_targetOf.2.1 mG_targetOf.2.2.1 mG_targetOf.2.2.2.1 mG_targetOf.2.2.2.2) := rfl
set_option maxRecDepth 100000 in
theorem cw_mG_isCircular : lw_tbl[604]? = some (Jvm.Cond.code mG_isCircular.2.1 mG_isCircular.2.2.1 mG_isCircular.2.2.2.1 mG_isCircular.2.2.2.2) := rfl
set_option maxRecDepth 100000 in
theorem cw_mG_methodFrom : lw_tbl[608]? = some (Jvm.Cond.code mG_methodFrom.2.1 mG_methodFrom.2.2.1 mG_methodFrom.2.2.2.1 mG_methodFrom.2.2.2.2) := rfl
set_option maxRecDepth 100000 in
theorem cw_mU_hasMethod : lw_tbl[612]? = some (Jvm.Cond.code mU_hasMethod.2.1 mU_hasMethod.2.2.1 mU_hasMethod.2.2.2.1 mU_hasMethod.2.2.2.2) := rfl
set_option maxRecDepth 100000 in
theorem cw_mG_interfaceOf : lw_tbl[616]? = some (Jvm.Cond.code mG_interfaceOf.2.1 mG_interfaceOf.2.2.1 mG_interfaceOf.2.2.2.1 mG_interfaceOf.2.2.2.2) := rfl
set_option maxRecDepth 100000 in
theorem cw_mG_faceFrom : lw_tbl[620]? = some (Jvm.Cond.code mG_faceFrom.2.1 mG_faceFrom.2.2.1 mG_faceFrom.2.2.2.1 mG_faceFrom.2.2.2.2) := rfl
set_option maxRecDepth 100000 in
theorem cw_mG_fieldFrom : lw_tbl[624]? = some (Jvm.Cond.code mG_fieldFrom.2.1 mG_fieldFrom.2.2.1 mG_fieldFrom.2.2.2.1 mG_fieldFrom.2.2.2.2) := rfl
set_option maxRecDepth 100000 in
theorem cw_mU_hasField : lw_tbl[628]? = some (Jvm.Cond.code mU_hasField.2.1 mU_hasField.2.2.1 mU_hasField.2.2.2.1 mU_hasField.2.2.2.2) := rfl
set_option maxRecDepth 100000 in
theorem cw_mK_forgetUses : lw_tbl[632]? = some (Jvm.Cond.code mK_forgetUses.2.1 mK_forgetUses.2.2.1 mK_forgetUses.2.2.2.1 mK_forgetUses.2.2.2.2) := rfl
set_option maxRecDepth 100000 in
theorem cw_mK_useKnown : lw_tbl[636]? = some (Jvm.Cond.code mK_useKnown.2.1 mK_useKnown.2.2.1 mK_useKnown.2.2.2.1 mK_useKnown.2.2.2.2) := rfl
set_option maxRecDepth 100000 in
theorem cw_mP_violation : lw_tbl[640]? = some (Jvm.Cond.code mP_violation.2.1 mP_violation.2.2.1 mP_violation.2.2.2.1 mP_violation.2.2.2.2) := rfl
set_option maxRecDepth 100000 in
theorem cw_mP_freeze : lw_tbl[644]? = some (Jvm.Cond.code mP_freeze.2.1 mP_freeze.2.2.1 mP_freeze.2.2.2.1 mP_freeze.2.2.2.2) := rfl
set_option maxRecDepth 100000 in
theorem cw_mK_forgetKnown : lw_tbl[648]? = some (Jvm.Cond.code mK_forgetKnown.2.1 mK_forgetKnown.2.2.1 mK_forgetKnown.2.2.2.1 mK_forgetKnown.2.2.2.2) := rfl
set_option maxRecDepth 100000 in
theorem cw_mK_addKnown : lw_tbl[652]? = some (Jvm.Cond.code mK_addKnown.2.1 mK_addKnown.2.2.1 mK_addKnown.2.2.2.1 mK_addKnown.2.2.2.2) := rfl
set_option maxRecDepth 100000 in
theorem cw_mP_classes : lw_tbl[656]? = some (Jvm.Cond.code mP_classes.2.1 mP_classes.2.2.1 mP_classes.2.2.2.1 mP_classes.2.2.2.2) := rfl
set_option maxRecDepth 100000 in
theorem cw_mP_name : lw_tbl[660]? = some (Jvm.Cond.code mP_name.2.1 mP_name.2.2.1 mP_name.2.2.2.1 mP_name.2.2.2.2) := rfl
set_option maxRecDepth 100000 in
theorem cw_mG_isClass : lw_tbl[664]? = some (Jvm.Cond.code mG_isClass.2.1 mG_isClass.2.2.1 mG_isClass.2.2.2.1 mG_isClass.2.2.2.2) := rfl
set_option maxRecDepth 100000 in
theorem cw_mT_characterOf : lw_tbl[668]? = some (Jvm.Cond.code mT_characterOf.2.1 mT_characterOf.2.2.1 mT_characterOf.2.2.2.1 mT_characterOf.2.2.2.2) := rfl
set_option maxRecDepth 100000 in
theorem cw_mP_occurrences : lw_tbl[672]? = some (Jvm.Cond.code mP_occurrences.2.1 mP_occurrences.2.2.1 mP_occurrences.2.2.2.1 mP_occurrences.2.2.2.2) := rfl
set_option maxRecDepth 100000 in
theorem cw_mP_kind : lw_tbl[676]? = some (Jvm.Cond.code mP_kind.2.1 mP_kind.2.2.1 mP_kind.2.2.2.1 mP_kind.2.2.2.2) := rfl
set_option maxRecDepth 100000 in
theorem cw_mG_isOccurrence : lw_tbl[680]? = some (Jvm.Cond.code mG_isOccurrence.2.1 mG_isOccurrence.2.2.1 mG_isOccurrence.2.2.2.1 mG_isOccurrence.2.2.2.2) := rfl
set_option maxRecDepth 100000 in
theorem cw_mP_line : lw_tbl[685]? = some (Jvm.Cond.code mP_line.2.1 mP_line.2.2.1 mP_line.2.2.2.1 mP_line.2.2.2.2) := rfl
set_option maxRecDepth 100000 in
theorem cw_mP_named : lw_tbl[689]? = some (Jvm.Cond.code mP_named.2.1 mP_named.2.2.1 mP_named.2.2.2.1 mP_named.2.2.2.2) := rfl
set_option maxRecDepth 100000 in
theorem cw_mP_target : lw_tbl[694]? = some (Jvm.Cond.code mP_target.2.1 mP_target.2.2.1 mP_target.2.2.2.1 mP_target.2.2.2.2) := rfl
set_option maxRecDepth 100000 in
theorem cw_mP_circular : lw_tbl[698]? = some (Jvm.Cond.code mP_circular.2.1 mP_circular.2.2.1 mP_circular.2.2.2.1 mP_circular.2.2.2.2) := rfl
set_option maxRecDepth 100000 in
theorem cw_mP_fits : lw_tbl[703]? = some (Jvm.Cond.code mP_fits.2.1 mP_fits.2.2.1 mP_fits.2.2.2.1 mP_fits.2.2.2.2) := rfl
set_option maxRecDepth 100000 in
theorem cw_mP_slices : lw_tbl[707]? = some (Jvm.Cond.code mP_slices.2.1 mP_slices.2.2.1 mP_slices.2.2.2.1 mP_slices.2.2.2.2) := rfl
set_option maxRecDepth 100000 in
theorem cw_mQ_put : lw_tbl[815]? = some (Jvm.Cond.code mQ_put.2.1 mQ_put.2.2.1 mQ_put.2.2.2.1 mQ_put.2.2.2.2) := rfl
set_option maxRecDepth 100000 in
theorem cw_mQ_bytes : lw_tbl[819]? = some (Jvm.Cond.code mQ_bytes.2.1 mQ_bytes.2.2.1 mQ_bytes.2.2.2.1 mQ_bytes.2.2.2.2) := rfl
set_option maxRecDepth 100000 in
theorem cw_mQ_load : lw_tbl[823]? = some (Jvm.Cond.code mQ_load.2.1 mQ_load.2.2.1 mQ_load.2.2.2.1 mQ_load.2.2.2.2) := rfl
set_option maxRecDepth 100000 in
theorem cw_mQ_readConstants : lw_tbl[827]? = some (Jvm.Cond.code mQ_readConstants.2.1 mQ_readConstants.2.2.1 mQ_readConstants.2.2.2.1 mQ_readConstants.2.2.2.2) := rfl
set_option maxRecDepth 100000 in
theorem cw_mQ_buffer : lw_tbl[831]? = some (Jvm.Cond.code mQ_buffer.2.1 mQ_buffer.2.2.1 mQ_buffer.2.2.2.1 mQ_buffer.2.2.2.2) := rfl
set_option maxRecDepth 100000 in
theorem cw_mQ_constant : lw_tbl[835]? = some (Jvm.Cond.code mQ_constant.2.1 mQ_constant.2.2.1 mQ_constant.2.2.2.1 mQ_constant.2.2.2.2) := rfl
set_option maxRecDepth 100000 in
theorem cw_mQ_bytesHere : lw_tbl[839]? = some (Jvm.Cond.code mQ_bytesHere.2.1 mQ_bytesHere.2.2.1 mQ_bytesHere.2.2.2.1 mQ_bytesHere.2.2.2.2) := rfl
set_option maxRecDepth 100000 in
theorem cw_mQ_letter : lw_tbl[842]? = some (Jvm.Cond.code mQ_letter.2.1 mQ_letter.2.2.1 mQ_letter.2.2.2.1 mQ_letter.2.2.2.2) := rfl
set_option maxRecDepth 100000 in
theorem cw_mQ_checkConstants : lw_tbl[846]? = some (Jvm.Cond.code mQ_checkConstants.2.1 mQ_checkConstants.2.2.1 mQ_checkConstants.2.2.2.1 mQ_checkConstants.2.2.2.2) := rfl
set_option maxRecDepth 100000 in
theorem cw_mQ_tag : lw_tbl[850]? = some (Jvm.Cond.code mQ_tag.2.1 mQ_tag.2.2.1 mQ_tag.2.2.2.1 mQ_tag.2.2.2.2) := rfl
set_option maxRecDepth 100000 in
theorem cw_mQ_fitting : lw_tbl[854]? = some (Jvm.Cond.code mQ_fitting.2.1 mQ_fitting.2.2.1 mQ_fitting.2.2.2.1 mQ_fitting.2.2.2.2) := rfl
set_option maxRecDepth 100000 in
theorem cw_mQ_worded : lw_tbl[858]? = some (Jvm.Cond.code mQ_worded.2.1 mQ_worded.2.2.1 mQ_worded.2.2.2.1 mQ_worded.2.2.2.2) := rfl
set_option maxRecDepth 100000 in
theorem cw_mQ_number : lw_tbl[862]? = some (Jvm.Cond.code mQ_number.2.1 mQ_number.2.2.1 mQ_number.2.2.2.1 mQ_number.2.2.2.2) := rfl
set_option maxRecDepth 100000 in
theorem cw_mQ_rest : lw_tbl[866]? = some (Jvm.Cond.code mQ_rest.2.1 mQ_rest.2.2.1 mQ_rest.2.2.2.1 mQ_rest.2.2.2.2) := rfl
set_option maxRecDepth 100000 in
theorem cw_mQ_several : lw_tbl[870]? = some (Jvm.Cond.code mQ_several.2.1 mQ_several.2.2.1 mQ_several.2.2.2.1 mQ_several.2.2.2.2) := rfl
set_option maxRecDepth 100000 in
theorem cw_mQ_upTo : lw_tbl[874]? = some (Jvm.Cond.code mQ_upTo.2.1 mQ_upTo.2.2.1 mQ_upTo.2.2.2.1 mQ_upTo.2.2.2.2) := rfl
set_option maxRecDepth 100000 in
theorem cw_mQ_method : lw_tbl[878]? = some (Jvm.Cond.code mQ_method.2.1 mQ_method.2.2.1 mQ_method.2.2.2.1 mQ_method.2.2.2.2) := rfl
set_option maxRecDepth 100000 in
theorem cw_mQ_code : lw_tbl[882]? = some (Jvm.Cond.code mQ_code.2.1 mQ_code.2.2.1 mQ_code.2.2.2.1 mQ_code.2.2.2.2) := rfl
set_option maxRecDepth 100000 in
theorem cw_mQ_operand : lw_tbl[885]? = some (Jvm.Cond.code mQ_operand.2.1 mQ_operand.2.2.1 mQ_operand.2.2.2.1 mQ_operand.2.2.2.2) := rfl
set_option maxRecDepth 100000 in
theorem cw_mQ_turn : lw_tbl[889]? = some (Jvm.Cond.code mQ_turn.2.1 mQ_turn.2.2.1 mQ_turn.2.2.2.1 mQ_turn.2.2.2.2) := rfl
set_option maxRecDepth 100000 in
theorem cw_mQ_wide : lw_tbl[893]? = some (Jvm.Cond.code mQ_wide.2.1 mQ_wide.2.2.1 mQ_wide.2.2.2.1 mQ_wide.2.2.2.2) := rfl
set_option maxRecDepth 100000 in
theorem cw_mQ_ownName : lw_tbl[897]? = some (Jvm.Cond.code mQ_ownName.2.1 mQ_ownName.2.2.1 mQ_ownName.2.2.2.1 mQ_ownName.2.2.2.2) := rfl
set_option maxRecDepth 100000 in
theorem cw_mQ_headOf : lw_tbl[901]? = some (Jvm.Cond.code mQ_headOf.2.1 mQ_headOf.2.2.1 mQ_headOf.2.2.2.1 mQ_headOf.2.2.2.2) := rfl
set_option maxRecDepth 100000 in
theorem cw_mQ_constantAt : lw_tbl[905]? = some (Jvm.Cond.code mQ_constantAt.2.1 mQ_constantAt.2.2.1 mQ_constantAt.2.2.2.1 mQ_constantAt.2.2.2.2) := rfl
set_option maxRecDepth 100000 in
theorem cw_mQ_nameOf : lw_tbl[909]? = some (Jvm.Cond.code mQ_nameOf.2.1 mQ_nameOf.2.2.1 mQ_nameOf.2.2.2.1 mQ_nameOf.2.2.2.2) := rfl
set_option maxRecDepth 100000 in
theorem cw_mQ_textOf : lw_tbl[913]? = some (Jvm.Cond.code mQ_textOf.2.1 mQ_textOf.2.2.1 mQ_textOf.2.2.2.1 mQ_textOf.2.2.2.2) := rfl
set_option maxRecDepth 100000 in
theorem cw_mQ_sign : lw_tbl[917]? = some (Jvm.Cond.code mQ_sign.2.1 mQ_sign.2.2.1 mQ_sign.2.2.2.1 mQ_sign.2.2.2.2) := rfl
set_option maxRecDepth 100000 in
theorem cw_mQ_indexOf : lw_tbl[921]? = some (Jvm.Cond.code mQ_indexOf.2.1 mQ_indexOf.2.2.1 mQ_indexOf.2.2.2.1 mQ_indexOf.2.2.2.2) := rfl
set_option maxRecDepth 100000 in
theorem cw_mQ_circular : lw_tbl[925]? = some (Jvm.Cond.code mQ_circular.2.1 mQ_circular.2.2.1 mQ_circular.2.2.2.1 mQ_circular.2.2.2.2) := rfl
set_option maxRecDepth 100000 in
theorem cw_mQ_isClass : lw_tbl[929]? = some (Jvm.Cond.code mQ_isClass.2.1 mQ_isClass.2.2.1 mQ_isClass.2.2.2.1 mQ_isClass.2.2.2.2) := rfl
set_option maxRecDepth 100000 in
theorem cw_mQ_ancestors : lw_tbl[933]? = some (Jvm.Cond.code mQ_ancestors.2.1 mQ_ancestors.2.2.1 mQ_ancestors.2.2.2.1 mQ_ancestors.2.2.2.2) := rfl
set_option maxRecDepth 100000 in
theorem cw_mQ_parent : lw_tbl[937]? = some (Jvm.Cond.code mQ_parent.2.1 mQ_parent.2.2.1 mQ_parent.2.2.2.1 mQ_parent.2.2.2.2) := rfl
set_option maxRecDepth 100000 in
theorem cw_mQ_close : lw_tbl[941]? = some (Jvm.Cond.code mQ_close.2.1 mQ_close.2.2.1 mQ_close.2.2.2.1 mQ_close.2.2.2.2) := rfl
set_option maxRecDepth 100000 in
theorem cw_mQ_type : lw_tbl[945]? = some (Jvm.Cond.code mQ_type.2.1 mQ_type.2.2.1 mQ_type.2.2.2.1 mQ_type.2.2.2.2) := rfl
set_option maxRecDepth 100000 in
theorem cw_mQ_typeable : lw_tbl[948]? = some (Jvm.Cond.code mQ_typeable.2.1 mQ_typeable.2.2.1 mQ_typeable.2.2.2.1 mQ_typeable.2.2.2.2) := rfl
set_option maxRecDepth 100000 in
theorem cw_mQ_pattern : lw_tbl[952]? = some (Jvm.Cond.code mQ_pattern.2.1 mQ_pattern.2.2.1 mQ_pattern.2.2.2.1 mQ_pattern.2.2.2.2) := rfl
set_option maxRecDepth 100000 in
theorem cw_mQ_fits : lw_tbl[956]? = some (Jvm.Cond.code mQ_fits.2.1 mQ_fits.2.2.1 mQ_fits.2.2.2.1 mQ_fits.2.2.2.2) := rfl
set_option maxRecDepth 100000 in
theorem cw_mQ_fitsName : lw_tbl[960]? = some (Jvm.Cond.code mQ_fitsName.2.1 mQ_fitsName.2.2.1 mQ_fitsName.2.2.2.1 mQ_fitsName.2.2.2.2) := rfl
set_option maxRecDepth 100000 in
theorem cw_mQ_spell : lw_tbl[964]? = some (Jvm.Cond.code mQ_spell.2.1 mQ_spell.2.2.1 mQ_spell.2.2.2.1 mQ_spell.2.2.2.2) := rfl
set_option maxRecDepth 100000 in
theorem cw_mQ_rule : lw_tbl[968]? = some (Jvm.Cond.code mQ_rule.2.1 mQ_rule.2.2.1 mQ_rule.2.2.2.1 mQ_rule.2.2.2.2) := rfl
set_option maxRecDepth 100000 in
theorem cw_mQ_violations : lw_tbl[972]? = some (Jvm.Cond.code mQ_violations.2.1 mQ_violations.2.2.1 mQ_violations.2.2.2.1 mQ_violations.2.2.2.2) := rfl
set_option maxRecDepth 100000 in
theorem cw_mQ_isRule : lw_tbl[976]? = some (Jvm.Cond.code mQ_isRule.2.1 mQ_isRule.2.2.1 mQ_isRule.2.2.2.1 mQ_isRule.2.2.2.2) := rfl
set_option maxRecDepth 100000 in
theorem cw_mQ_renew : lw_tbl[980]? = some (Jvm.Cond.code mQ_renew.2.1 mQ_renew.2.2.1 mQ_renew.2.2.2.1 mQ_renew.2.2.2.2) := rfl
set_option maxRecDepth 100000 in
theorem cw_mQ_cycles : lw_tbl[984]? = some (Jvm.Cond.code mQ_cycles.2.1 mQ_cycles.2.2.1 mQ_cycles.2.2.2.1 mQ_cycles.2.2.2.2) := rfl
set_option maxRecDepth 100000 in
theorem cw_mQ_least : lw_tbl[988]? = some (Jvm.Cond.code mQ_least.2.1 mQ_least.2.2.1 mQ_least.2.2.2.1 mQ_least.2.2.2.2) := rfl
set_option maxRecDepth 100000 in
theorem cw_mQ_slice : lw_tbl[992]? = some (Jvm.Cond.code mQ_slice.2.1 mQ_slice.2.2.1 mQ_slice.2.2.2.1 mQ_slice.2.2.2.2) := rfl
set_option maxRecDepth 100000 in
theorem cw_mQ_list : lw_tbl[996]? = some (Jvm.Cond.code mQ_list.2.1 mQ_list.2.2.1 mQ_list.2.2.2.1 mQ_list.2.2.2.2) := rfl
set_option maxRecDepth 100000 in
theorem cw_mQ_occurrence : lw_tbl[1000]? = some (Jvm.Cond.code mQ_occurrence.2.1 mQ_occurrence.2.2.1 mQ_occurrence.2.2.2.1 mQ_occurrence.2.2.2.2) := rfl
set_option maxRecDepth 100000 in
theorem cw_mQ_listCode : lw_tbl[1004]? = some (Jvm.Cond.code mQ_listCode.2.1 mQ_listCode.2.2.1 mQ_listCode.2.2.2.1 mQ_listCode.2.2.2.2) := rfl
set_option maxRecDepth 100000 in
theorem cw_mQ_names : lw_tbl[1008]? = some (Jvm.Cond.code mQ_names.2.1 mQ_names.2.2.1 mQ_names.2.2.2.1 mQ_names.2.2.2.2) := rfl
set_option maxRecDepth 100000 in
theorem cw_mQ_gather : lw_tbl[1012]? = some (Jvm.Cond.code mQ_gather.2.1 mQ_gather.2.2.1 mQ_gather.2.2.2.1 mQ_gather.2.2.2.2) := rfl
set_option maxRecDepth 100000 in
theorem cw_mQ_violates : lw_tbl[1016]? = some (Jvm.Cond.code mQ_violates.2.1 mQ_violates.2.2.1 mQ_violates.2.2.2.1 mQ_violates.2.2.2.2) := rfl
set_option maxRecDepth 100000 in
theorem cw_mQ_targetOf : lw_tbl[1021]? = some (Jvm.Cond.code mQ_targetOf.2.1 mQ_targetOf.2.2.1 mQ_targetOf.2.2.2.1 mQ_targetOf.2.2.2.2) := rfl
set_option maxRecDepth 100000 in
theorem cw_mQ_methodOf : lw_tbl[1026]? = some (Jvm.Cond.code mQ_methodOf.2.1 mQ_methodOf.2.2.1 mQ_methodOf.2.2.2.1 mQ_methodOf.2.2.2.2) := rfl
set_option maxRecDepth 100000 in
theorem cw_mQ_has : lw_tbl[1030]? = some (Jvm.Cond.code mQ_has.2.1 mQ_has.2.2.1 mQ_has.2.2.2.1 mQ_has.2.2.2.2) := rfl
set_option maxRecDepth 100000 in
theorem cw_mQ_search : lw_tbl[1034]? = some (Jvm.Cond.code mQ_search.2.1 mQ_search.2.2.1 mQ_search.2.2.2.1 mQ_search.2.2.2.2) := rfl
set_option maxRecDepth 100000 in
theorem cw_mQ_violation : lw_tbl[1038]? = some (Jvm.Cond.code mQ_violation.2.1 mQ_violation.2.2.1 mQ_violation.2.2.2.1 mQ_violation.2.2.2.2) := rfl
set_option maxRecDepth 100000 in
theorem cw_mQ_freeze : lw_tbl[1043]? = some (Jvm.Cond.code mQ_freeze.2.1 mQ_freeze.2.2.1 mQ_freeze.2.2.2.1 mQ_freeze.2.2.2.2) := rfl
set_option maxRecDepth 100000 in
theorem cw_mQ_classes : lw_tbl[1047]? = some (Jvm.Cond.code mQ_classes.2.1 mQ_classes.2.2.1 mQ_classes.2.2.2.1 mQ_classes.2.2.2.2) := rfl
set_option maxRecDepth 100000 in
theorem cw_mQ_name : lw_tbl[1051]? = some (Jvm.Cond.code mQ_name.2.1 mQ_name.2.2.1 mQ_name.2.2.2.1 mQ_name.2.2.2.2) := rfl
set_option maxRecDepth 100000 in
theorem cw_mQ_occurrences : lw_tbl[1055]? = some (Jvm.Cond.code mQ_occurrences.2.1 mQ_occurrences.2.2.1 mQ_occurrences.2.2.2.1 mQ_occurrences.2.2.2.2) := rfl
set_option maxRecDepth 100000 in
theorem cw_mQ_kind : lw_tbl[1059]? = some (Jvm.Cond.code mQ_kind.2.1 mQ_kind.2.2.1 mQ_kind.2.2.2.1 mQ_kind.2.2.2.2) := rfl
set_option maxRecDepth 100000 in
theorem cw_mQ_isOccurrence : lw_tbl[1063]? = some (Jvm.Cond.code mQ_isOccurrence.2.1 mQ_isOccurrence.2.2.1 mQ_isOccurrence.2.2.2.1 mQ_isOccurrence.2.2.2.2) := rfl
set_option maxRecDepth 100000 in
theorem cw_mQ_line : lw_tbl[1067]? = some (Jvm.Cond.code mQ_line.2.1 mQ_line.2.2.1 mQ_line.2.2.2.1 mQ_line.2.2.2.2) := rfl
set_option maxRecDepth 100000 in
theorem cw_mQ_named : lw_tbl[1071]? = some (Jvm.Cond.code mQ_named.2.1 mQ_named.2.2.1 mQ_named.2.2.2.1 mQ_named.2.2.2.2) := rfl
set_option maxRecDepth 100000 in
theorem cw_mQ_target : lw_tbl[1075]? = some (Jvm.Cond.code mQ_target.2.1 mQ_target.2.2.1 mQ_target.2.2.2.1 mQ_target.2.2.2.2) := rfl
set_option maxRecDepth 100000 in
theorem cw_mQ_slices : lw_tbl[1079]? = some (Jvm.Cond.code mQ_slices.2.1 mQ_slices.2.2.1 mQ_slices.2.2.2.1 mQ_slices.2.2.2.2) := rfl
set_option maxRecDepth 100000 in
theorem ax_mca : ∀ e ∈ ax_mlLa, lw_tbl[e.2.2.2.2.2.1]? = some (Jvm.Cond.code e.2.1.2.1 e.2.1.2.2.1 e.2.1.2.2.2.1 e.2.1.2.2.2.2) := List.forall_mem_cons.mpr ⟨cw_mR_append, List.forall_mem_cons.mpr ⟨cw_mR_readInto, List.forall_mem_cons.mpr ⟨cw_mG_adoptSpare, List.forall_mem_cons.mpr ⟨cw_mT_codeOf, List.forall_mem_cons.mpr ⟨cw_mT_lengthOf, List.forall_mem_cons.mpr ⟨cw_mT_withCode, List.forall_mem_cons.mpr ⟨cw_mP_canBeRule, List.forall_mem_cons.mpr ⟨cw_mK_become, List.forall_mem_cons.mpr ⟨cw_mP_isRule, List.forall_mem_cons.mpr ⟨cw_mP_findNew, List.forall_mem_cons.mpr ⟨cw_mP_findAll, List.forall_mem_cons.mpr ⟨cw_mK_forgetKnown, List.forall_mem_cons.mpr ⟨cw_mK_addKnown, List.forall_mem_cons.mpr ⟨cw_mG_isClass, List.forall_mem_cons.mpr ⟨cw_mT_codeAt, List.forall_mem_cons.mpr ⟨cw_mT_characterOf, List.forall_mem_cons.mpr ⟨cw_mG_isOccurrence, List.forall_mem_cons.mpr ⟨cw_mG_numberOf, List.forall_mem_cons.mpr ⟨cw_mG_targetOf, List.forall_mem_cons.mpr ⟨cw_mG_isCircular, List.forall_mem_cons.mpr ⟨cw_mP_isPattern, List.forall_mem_cons.mpr ⟨cw_mP_fitsText, List.forall_mem_cons.mpr ⟨cw_mP_isDepth, List.forall_mem_cons.mpr ⟨cw_mG_cutSlices, List.forall_mem_cons.mpr ⟨cw_mT_matches, List.forall_mem_cons.mpr ⟨cw_mK_forgetUses, List.forall_mem_cons.mpr ⟨cw_mK_useKnown, List.forall_mem_cons.mpr ⟨cw_mP_findCycles, List.forall_mem_cons.mpr ⟨cw_mP_watches, List.forall_mem_cons.mpr ⟨cw_mP_breaks, List.forall_mem_cons.mpr ⟨cw_mG_linkSlices, List.forall_mem_cons.mpr ⟨cw_mG_headsCycle, List.forall_mem_cons.mpr ⟨cw_mU_clear, List.forall_mem_cons.mpr ⟨cw_mR_take, List.forall_mem_cons.mpr ⟨cw_mR_readConstants, List.forall_mem_cons.mpr ⟨cw_mR_checkNumbers, List.forall_mem_cons.mpr ⟨cw_mR_readParents, List.forall_mem_cons.mpr ⟨cw_mR_readFields, List.forall_mem_cons.mpr ⟨cw_mR_readMethods, List.forall_mem_cons.mpr ⟨cw_mR_tagOf, List.forall_mem_cons.mpr ⟨cw_mR_fail, List.forall_mem_cons.mpr ⟨cw_mR_isWord, List.forall_mem_cons.mpr ⟨cw_mT_isWord, List.forall_mem_cons.mpr ⟨cw_mT_isName, List.forall_mem_cons.mpr ⟨cw_mR_readConstant, List.forall_mem_cons.mpr ⟨cw_mR_readText, List.forall_mem_cons.mpr ⟨cw_mT_codeOf, List.forall_mem_cons.mpr ⟨cw_mT_withCode, List.forall_mem_cons.mpr ⟨cw_mR_isName, List.forall_mem_cons.mpr ⟨cw_mR_takeClass, List.forall_mem_cons.mpr ⟨cw_mR_lastText, List.forall_mem_cons.mpr ⟨cw_mU_addOccurrence, List.forall_mem_cons.mpr ⟨cw_mR_readInterfaces, List.forall_mem_cons.mpr ⟨cw_mU_addInterface, List.forall_mem_cons.mpr ⟨cw_mR_takeWord, List.forall_mem_cons.mpr ⟨cw_mU_addField, List.forall_mem_cons.mpr ⟨cw_mR_readMethod, List.forall_mem_cons.mpr ⟨cw_mU_addMethod, List.forall_mem_cons.mpr ⟨cw_mR_readInstruction, List.forall_mem_cons.mpr ⟨cw_mR_readStep, List.forall_mem_cons.mpr ⟨cw_mR_readSwitch, List.forall_mem_cons.mpr ⟨cw_mR_readWide, List.forall_mem_cons.mpr ⟨cw_mR_kindOf, List.forall_mem_cons.mpr ⟨cw_mR_readUse, List.forall_mem_cons.mpr ⟨cw_mR_useConstant, List.forall_mem_cons.mpr ⟨cw_mR_tagFor, List.forall_mem_cons.mpr ⟨cw_mG_numberOf, List.forall_mem_cons.mpr ⟨cw_mG_linkParents, List.forall_mem_cons.mpr ⟨cw_mG_isClass, List.forall_mem_cons.mpr ⟨cw_mG_isIn, List.forall_mem_cons.mpr ⟨cw_mG_with, List.forall_mem_cons.mpr ⟨cw_mG_follow, List.forall_mem_cons.mpr ⟨cw_mG_isCircular, List.forall_mem_cons.mpr ⟨cw_mG_methodFrom, List.forall_mem_cons.mpr ⟨cw_mG_fieldFrom, List.forall_mem_cons.mpr ⟨cw_mU_hasField, List.forall_mem_cons.mpr ⟨cw_mG_interfaceOf, List.forall_mem_cons.mpr ⟨cw_mU_hasMethod, List.forall_mem_cons.mpr ⟨cw_mG_faceFrom, List.forall_mem_cons.mpr ⟨cw_mT_firstWords, List.forall_mem_cons.mpr ⟨cw_mG_headOf, List.forall_mem_cons.mpr ⟨cw_mG_cutSlices, List.forall_mem_cons.mpr ⟨cw_mG_slicesNamedIn, List.forall_mem_cons.mpr ⟨cw_mQ_buffer, List.forall_mem_cons.mpr ⟨cw_mQ_bytesHere, List.forall_mem_cons.mpr ⟨cw_mQ_letter, List.forall_mem_cons.mpr ⟨cw_mQ_constant, List.forall_mem_cons.mpr ⟨cw_mQ_tag, fun _ h => absurd h List.not_mem_nil⟩⟩⟩⟩⟩⟩⟩⟩⟩⟩⟩⟩⟩⟩⟩⟩⟩⟩⟩⟩⟩⟩⟩⟩⟩⟩⟩⟩⟩⟩⟩⟩⟩⟩⟩⟩⟩⟩⟩⟩⟩⟩⟩⟩⟩⟩⟩⟩⟩⟩⟩⟩⟩⟩⟩⟩⟩⟩⟩⟩⟩⟩⟩⟩⟩⟩⟩⟩⟩⟩⟩⟩⟩⟩⟩⟩⟩⟩⟩⟩⟩⟩⟩⟩⟩⟩⟩⟩
set_option maxRecDepth 100000 in
theorem ax_mcb : ∀ e ∈ ax_mlLb, lw_tbl[e.2.2.2.2.2.1]? = some (Jvm.Cond.code e.2.1.2.1 e.2.1.2.2.1 e.2.1.2.2.2.1 e.2.1.2.2.2.2) := List.forall_mem_cons.mpr ⟨cw_mQ_worded, List.forall_mem_cons.mpr ⟨cw_mQ_fitting, List.forall_mem_cons.mpr ⟨cw_mQ_upTo, List.forall_mem_cons.mpr ⟨cw_mQ_number, List.forall_mem_cons.mpr ⟨cw_mQ_operand, List.forall_mem_cons.mpr ⟨cw_mQ_turn, List.forall_mem_cons.mpr ⟨cw_mQ_wide, List.forall_mem_cons.mpr ⟨cw_mQ_code, List.forall_mem_cons.mpr ⟨cw_mQ_several, List.forall_mem_cons.mpr ⟨cw_mQ_method, List.forall_mem_cons.mpr ⟨cw_mQ_readConstants, List.forall_mem_cons.mpr ⟨cw_mQ_checkConstants, List.forall_mem_cons.mpr ⟨cw_mQ_rest, List.forall_mem_cons.mpr ⟨cw_mQ_ownName, List.forall_mem_cons.mpr ⟨cw_mQ_indexOf, List.forall_mem_cons.mpr ⟨cw_mQ_constantAt, List.forall_mem_cons.mpr ⟨cw_mQ_sign, List.forall_mem_cons.mpr ⟨cw_mQ_textOf, List.forall_mem_cons.mpr ⟨cw_mQ_headOf, List.forall_mem_cons.mpr ⟨cw_mQ_nameOf, List.forall_mem_cons.mpr ⟨cw_mQ_occurrence, List.forall_mem_cons.mpr ⟨cw_mQ_names, List.forall_mem_cons.mpr ⟨cw_mQ_listCode, List.forall_mem_cons.mpr ⟨cw_mQ_isClass, List.forall_mem_cons.mpr ⟨cw_mQ_list, List.forall_mem_cons.mpr ⟨cw_mQ_parent, List.forall_mem_cons.mpr ⟨cw_mQ_close, List.forall_mem_cons.mpr ⟨cw_mQ_ancestors, List.forall_mem_cons.mpr ⟨cw_mQ_has, List.forall_mem_cons.mpr ⟨cw_mQ_search, List.forall_mem_cons.mpr ⟨cw_mQ_circular, List.forall_mem_cons.mpr ⟨cw_mQ_methodOf, List.forall_mem_cons.mpr ⟨cw_mQ_typeable, List.forall_mem_cons.mpr ⟨cw_mQ_spell, List.forall_mem_cons.mpr ⟨cw_mQ_fitsName, List.forall_mem_cons.mpr ⟨cw_mQ_fits, List.forall_mem_cons.mpr ⟨cw_mQ_targetOf, List.forall_mem_cons.mpr ⟨cw_mQ_slice, List.forall_mem_cons.mpr ⟨cw_mQ_least, List.forall_mem_cons.mpr ⟨cw_mQ_violates, List.forall_mem_cons.mpr ⟨cw_mQ_cycles, List.forall_mem_cons.mpr ⟨cw_mQ_gather, List.forall_mem_cons.mpr ⟨cw_mQ_isRule, List.forall_mem_cons.mpr ⟨cw_mQ_renew, List.forall_mem_cons.mpr ⟨cw_mQ_violations, List.forall_mem_cons.mpr ⟨cw_mQ_isOccurrence, List.forall_mem_cons.mpr ⟨cw_mT_codeAt, List.forall_mem_cons.mpr ⟨cw_mT_lengthOf, List.forall_mem_cons.mpr ⟨cw_mT_passStars, List.forall_mem_cons.mpr ⟨cw_mT_step, List.forall_mem_cons.mpr ⟨cw_mP_put, List.forall_mem_cons.mpr ⟨cw_mQ_put, List.forall_mem_cons.mpr ⟨cw_mP_bytes, List.forall_mem_cons.mpr ⟨cw_mQ_bytes, List.forall_mem_cons.mpr ⟨cw_mP_load, List.forall_mem_cons.mpr ⟨cw_mQ_load, List.forall_mem_cons.mpr ⟨cw_mP_type, List.forall_mem_cons.mpr ⟨cw_mQ_type, List.forall_mem_cons.mpr ⟨cw_mP_pattern, List.forall_mem_cons.mpr ⟨cw_mQ_pattern, List.forall_mem_cons.mpr ⟨cw_mP_rule, List.forall_mem_cons.mpr ⟨cw_mQ_rule, List.forall_mem_cons.mpr ⟨cw_mP_violations, List.forall_mem_cons.mpr ⟨cw_mQ_violations, List.forall_mem_cons.mpr ⟨cw_mP_violation, List.forall_mem_cons.mpr ⟨cw_mQ_violation, List.forall_mem_cons.mpr ⟨cw_mP_freeze, List.forall_mem_cons.mpr ⟨cw_mQ_freeze, List.forall_mem_cons.mpr ⟨cw_mP_classes, List.forall_mem_cons.mpr ⟨cw_mQ_classes, List.forall_mem_cons.mpr ⟨cw_mP_name, List.forall_mem_cons.mpr ⟨cw_mQ_name, List.forall_mem_cons.mpr ⟨cw_mP_occurrences, List.forall_mem_cons.mpr ⟨cw_mQ_occurrences, List.forall_mem_cons.mpr ⟨cw_mP_kind, List.forall_mem_cons.mpr ⟨cw_mQ_kind, List.forall_mem_cons.mpr ⟨cw_mP_line, List.forall_mem_cons.mpr ⟨cw_mQ_line, List.forall_mem_cons.mpr ⟨cw_mP_named, List.forall_mem_cons.mpr ⟨cw_mQ_named, List.forall_mem_cons.mpr ⟨cw_mP_target, List.forall_mem_cons.mpr ⟨cw_mQ_target, List.forall_mem_cons.mpr ⟨cw_mP_circular, List.forall_mem_cons.mpr ⟨cw_mQ_circular, List.forall_mem_cons.mpr ⟨cw_mP_fits, List.forall_mem_cons.mpr ⟨cw_mQ_fits, List.forall_mem_cons.mpr ⟨cw_mP_slices, List.forall_mem_cons.mpr ⟨cw_mQ_slices, fun _ h => absurd h List.not_mem_nil⟩⟩⟩⟩⟩⟩⟩⟩⟩⟩⟩⟩⟩⟩⟩⟩⟩⟩⟩⟩⟩⟩⟩⟩⟩⟩⟩⟩⟩⟩⟩⟩⟩⟩⟩⟩⟩⟩⟩⟩⟩⟩⟩⟩⟩⟩⟩⟩⟩⟩⟩⟩⟩⟩⟩⟩⟩⟩⟩⟩⟩⟩⟩⟩⟩⟩⟩⟩⟩⟩⟩⟩⟩⟩⟩⟩⟩⟩⟩⟩⟩⟩⟩⟩⟩⟩⟩⟩
