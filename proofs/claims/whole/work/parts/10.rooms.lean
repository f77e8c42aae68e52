abbrev rm_V_init : Room := { frames := 4, cells := 0, slots := 0, locals := 74 }
theorem np_V_init : NP yy_V_init 0 := by unfold NP; decide +kernel
abbrev rm_Fb_init : Room := { frames := 1, cells := 0, slots := 0, locals := 12 }
theorem np_Fb_init : NP yy_Fb_init 0 := by unfold NP; decide +kernel
abbrev rm_Ag_init : Room := { frames := 1, cells := 0, slots := 0, locals := 12 }
theorem np_Ag_init : NP yy_Ag_init 0 := by unfold NP; decide +kernel
abbrev rm_Mc_init : Room := { frames := 2, cells := 0, slots := 0, locals := 32 }
theorem np_Mc_init : NP yy_Mc_init 0 := by unfold NP; decide +kernel
abbrev rm_Fr_init : Room := { frames := 1, cells := 0, slots := 0, locals := 12 }
theorem np_Fr_init : NP yy_Fr_init 0 := by unfold NP; decide +kernel
abbrev rm_Pg_init : Room := { frames := 3, cells := 0, slots := 0, locals := 53 }
theorem np_Pg_init : NP yy_Pg_init 0 := by unfold NP; decide +kernel
abbrev rm_Fl_init : Room := { frames := 1, cells := 0, slots := 0, locals := 12 }
theorem np_Fl_init : NP yy_Fl_init 0 := by unfold NP; decide +kernel
abbrev rm_Me_init : Room := { frames := 2, cells := 0, slots := 0, locals := 32 }
theorem np_Me_init : NP yy_Me_init 0 := by unfold NP; decide +kernel
abbrev rm_St_init : Room := { frames := 1, cells := 0, slots := 0, locals := 12 }
theorem np_St_init : NP yy_St_init 0 := by unfold NP; decide +kernel
abbrev rm_V_put : Room := { frames := 1, cells := 0, slots := 0, locals := 21 }
theorem np_V_put : NP yy_V_put 1 := by unfold NP; decide +kernel
abbrev rm_Fb_append : Room := { frames := 0, cells := 0, slots := 0, locals := 0 }
theorem np_Fb_append : NP yy_Fb_append 1 := by unfold NP; decide +kernel
abbrev rm_V_place : Room := { frames := 0, cells := 0, slots := 0, locals := 0 }
theorem np_V_place : NP yy_V_place 0 := by unfold NP; decide +kernel
abbrev rm_V_verify : Room := { frames := 1, cells := 0, slots := 0, locals := 21 }
theorem np_V_verify : NP yy_V_verify 1 := by unfold NP; decide +kernel
abbrev rm_Pg_methodAt : Room := { frames := 0, cells := 0, slots := 0, locals := 0 }
theorem np_Pg_methodAt : NP yy_Pg_methodAt 1 := by unfold NP; decide +kernel
abbrev rm_V_type : Room := { frames := 2, cells := 0, slots := 0, locals := 44 }
theorem np_V_type : NP yy_V_type 3 := by unfold NP; decide +kernel
abbrev rm_Me_typeBefore : Room := { frames := 1, cells := 0, slots := 0, locals := 21 }
theorem np_Me_typeBefore : NP yy_Me_typeBefore 2 := by unfold NP; decide +kernel
abbrev rm_Me_stepAt : Room := { frames := 0, cells := 0, slots := 0, locals := 0 }
theorem np_Me_stepAt : NP yy_Me_stepAt 1 := by unfold NP; decide +kernel
abbrev rm_St_typeOf : Room := { frames := 0, cells := 0, slots := 0, locals := 0 }
theorem np_St_typeOf : NP yy_St_typeOf 1 := by unfold NP; decide +kernel
abbrev rm_V_pass : Room := { frames := 1, cells := 0, slots := 0, locals := 25 }
theorem np_V_pass : NP yy_V_pass 2 := by unfold NP; decide +kernel
abbrev rm_Ag_add : Room := { frames := 0, cells := 0, slots := 0, locals := 0 }
theorem np_Ag_add : NP yy_Ag_add 3 := by unfold NP; decide +kernel
abbrev rm_V_passReal : Room := { frames := 1, cells := 0, slots := 0, locals := 25 }
theorem np_V_passReal : NP yy_V_passReal 2 := by unfold NP; decide +kernel
abbrev rm_V_state : Room := { frames := 0, cells := 0, slots := 0, locals := 0 }
theorem np_V_state : NP yy_V_state 0 := by unfold NP; decide +kernel
abbrev rm_V_value : Room := { frames := 2, cells := 0, slots := 0, locals := 41 }
theorem np_V_value : NP yy_V_value 0 := by unfold NP; decide +kernel
abbrev rm_Mc_returnedType : Room := { frames := 0, cells := 0, slots := 0, locals := 0 }
theorem np_Mc_returnedType : NP yy_Mc_returnedType 0 := by unfold NP; decide +kernel
abbrev rm_V_isReal : Room := { frames := 0, cells := 0, slots := 0, locals := 0 }
theorem np_V_isReal : NP yy_V_isReal 1 := by unfold NP; decide +kernel
abbrev rm_Mc_wholeResult : Room := { frames := 1, cells := 0, slots := 0, locals := 20 }
theorem np_Mc_wholeResult : NP yy_Mc_wholeResult 0 := by unfold NP; decide +kernel
abbrev rm_V_real : Room := { frames := 2, cells := 0, slots := 0, locals := 41 }
theorem np_V_real : NP yy_V_real 0 := by unfold NP; decide +kernel
abbrev rm_V_calls : Room := { frames := 0, cells := 0, slots := 0, locals := 0 }
theorem np_V_calls : NP yy_V_calls 0 := by unfold NP; decide +kernel
abbrev rm_V_at : Room := { frames := 2, cells := 0, slots := 0, locals := 43 }
theorem np_V_at : NP yy_V_at 1 := by unfold NP; decide +kernel
abbrev rm_Mc_unitOf : Room := { frames := 1, cells := 0, slots := 0, locals := 21 }
theorem np_Mc_unitOf : NP yy_Mc_unitOf 1 := by unfold NP; decide +kernel
abbrev rm_Mc_frameAt : Room := { frames := 0, cells := 0, slots := 0, locals := 0 }
theorem np_Mc_frameAt : NP yy_Mc_frameAt 1 := by unfold NP; decide +kernel
abbrev rm_V_field : Room := { frames := 2, cells := 0, slots := 0, locals := 42 }
theorem np_V_field : NP yy_V_field 1 := by unfold NP; decide +kernel
abbrev rm_Pg_fieldAt : Room := { frames := 1, cells := 0, slots := 0, locals := 21 }
theorem np_Pg_fieldAt : NP yy_Pg_fieldAt 1 := by unfold NP; decide +kernel
abbrev rm_Pg_hasField : Room := { frames := 0, cells := 0, slots := 0, locals := 0 }
theorem np_Pg_hasField : NP yy_Pg_hasField 1 := by unfold NP; decide +kernel
abbrev rm_V_seal : Room := { frames := 7, cells := 0, slots := 0, locals := 155 }
theorem np_V_seal : NP yy_V_seal 0 := by unfold NP; decide +kernel
abbrev rm_Fb_putHead : Room := { frames := 1, cells := 0, slots := 0, locals := 40 }
theorem np_Fb_putHead : NP yy_Fb_putHead 0 := by unfold NP; decide +kernel
abbrev rm_Fb_dueCheck : Room := { frames := 0, cells := 0, slots := 0, locals := 0 }
theorem np_Fb_dueCheck : NP yy_Fb_dueCheck 0 := by unfold NP; decide +kernel
abbrev rm_V_takeFile : Room := { frames := 6, cells := 0, slots := 0, locals := 134 }
theorem np_V_takeFile : NP yy_V_takeFile 0 := by unfold NP; decide +kernel
abbrev rm_Pg_readFrom : Room := { frames := 3, cells := 0, slots := 0, locals := 67 }
theorem np_Pg_readFrom : NP yy_Pg_readFrom 1 := by unfold NP; decide +kernel
abbrev rm_Fb_takeHead : Room := { frames := 1, cells := 0, slots := 0, locals := 23 }
theorem np_Fb_takeHead : NP yy_Fb_takeHead 0 := by unfold NP; decide +kernel
abbrev rm_Fb_take : Room := { frames := 0, cells := 0, slots := 0, locals := 0 }
theorem np_Fb_take : NP yy_Fb_take 2 := by unfold NP; decide +kernel
abbrev rm_Me_readFrom : Room := { frames := 2, cells := 0, slots := 0, locals := 44 }
theorem np_Me_readFrom : NP yy_Me_readFrom 1 := by unfold NP; decide +kernel
abbrev rm_Me_typeTold : Room := { frames := 0, cells := 0, slots := 0, locals := 0 }
theorem np_Me_typeTold : NP yy_Me_typeTold 1 := by unfold NP; decide +kernel
abbrev rm_V_widthOf : Room := { frames := 0, cells := 0, slots := 0, locals := 0 }
theorem np_V_widthOf : NP yy_V_widthOf 1 := by unfold NP; decide +kernel
abbrev rm_Fb_takeUnitCount : Room := { frames := 1, cells := 0, slots := 0, locals := 23 }
theorem np_Fb_takeUnitCount : NP yy_Fb_takeUnitCount 0 := by unfold NP; decide +kernel
abbrev rm_Fb_takeEnd : Room := { frames := 1, cells := 0, slots := 0, locals := 25 }
theorem np_Fb_takeEnd : NP yy_Fb_takeEnd 0 := by unfold NP; decide +kernel
abbrev rm_Fb_toldCheck : Room := { frames := 0, cells := 0, slots := 0, locals := 0 }
theorem np_Fb_toldCheck : NP yy_Fb_toldCheck 0 := by unfold NP; decide +kernel
abbrev rm_Ja_fill : Room := { frames := 0, cells := 0, slots := 0, locals := 0 }
theorem np_Ja_fill : NP yy_Ja_fill 2 := by unfold NP; decide +kernel
abbrev rm_Fb_clear : Room := { frames := 0, cells := 0, slots := 0, locals := 0 }
theorem np_Fb_clear : NP yy_Fb_clear 0 := by unfold NP; decide +kernel
abbrev rm_Pg_judge : Room := { frames := 5, cells := 0, slots := 0, locals := 112 }
theorem np_Pg_judge : NP yy_Pg_judge 0 := by unfold NP; decide +kernel
abbrev rm_Me_layOut : Room := { frames := 2, cells := 0, slots := 0, locals := 47 }
theorem np_Me_layOut : NP yy_Me_layOut 0 := by unfold NP; decide +kernel
abbrev rm_Me_unitAt : Room := { frames := 0, cells := 0, slots := 0, locals := 0 }
theorem np_Me_unitAt : NP yy_Me_unitAt 1 := by unfold NP; decide +kernel
abbrev rm_St_decode : Room := { frames := 1, cells := 0, slots := 0, locals := 21 }
theorem np_St_decode : NP yy_St_decode 3 := by unfold NP; decide +kernel
abbrev rm_St_findOperation : Room := { frames := 0, cells := 0, slots := 0, locals := 0 }
theorem np_St_findOperation : NP yy_St_findOperation 0 := by unfold NP; decide +kernel
abbrev rm_St_lengthOf : Room := { frames := 0, cells := 0, slots := 0, locals := 0 }
theorem np_St_lengthOf : NP yy_St_lengthOf 1 := by unfold NP; decide +kernel
abbrev rm_Fo_firstFault : Room := { frames := 3, cells := 0, slots := 0, locals := 71 }
theorem np_Fo_firstFault : NP yy_Fo_firstFault 2 := by unfold NP; decide +kernel
abbrev rm_Fo_fits : Room := { frames := 2, cells := 0, slots := 0, locals := 48 }
theorem np_Fo_fits : NP yy_Fo_fits 4 := by unfold NP; decide +kernel
abbrev rm_Fo_registersAreThere : Room := { frames := 1, cells := 0, slots := 0, locals := 22 }
theorem np_Fo_registersAreThere : NP yy_Fo_registersAreThere 2 := by unfold NP; decide +kernel
abbrev rm_Fo_isThere : Room := { frames := 0, cells := 0, slots := 0, locals := 0 }
theorem np_Fo_isThere : NP yy_Fo_isThere 3 := by unfold NP; decide +kernel
abbrev rm_Fo_goesOnRightly : Room := { frames := 1, cells := 0, slots := 0, locals := 21 }
theorem np_Fo_goesOnRightly : NP yy_Fo_goesOnRightly 3 := by unfold NP; decide +kernel
abbrev rm_St_goesOnBehind : Room := { frames := 0, cells := 0, slots := 0, locals := 0 }
theorem np_St_goesOnBehind : NP yy_St_goesOnBehind 0 := by unfold NP; decide +kernel
abbrev rm_St_branches : Room := { frames := 0, cells := 0, slots := 0, locals := 0 }
theorem np_St_branches : NP yy_St_branches 0 := by unfold NP; decide +kernel
abbrev rm_Fo_callFits : Room := { frames := 1, cells := 0, slots := 0, locals := 22 }
theorem np_Fo_callFits : NP yy_Fo_callFits 3 := by unfold NP; decide +kernel
abbrev rm_Me_parameterAt : Room := { frames := 0, cells := 0, slots := 0, locals := 0 }
theorem np_Me_parameterAt : NP yy_Me_parameterAt 1 := by unfold NP; decide +kernel
abbrev rm_St_named : Room := { frames := 0, cells := 0, slots := 0, locals := 0 }
theorem np_St_named : NP yy_St_named 1 := by unfold NP; decide +kernel
abbrev rm_Pg_returnedBefore : Room := { frames := 1, cells := 0, slots := 0, locals := 21 }
theorem np_Pg_returnedBefore : NP yy_Pg_returnedBefore 2 := by unfold NP; decide +kernel
abbrev rm_Fo_isOfWidth : Room := { frames := 1, cells := 0, slots := 0, locals := 20 }
theorem np_Fo_isOfWidth : NP yy_Fo_isOfWidth 2 := by unfold NP; decide +kernel
abbrev rm_Pg_giveTypes : Room := { frames := 2, cells := 0, slots := 0, locals := 45 }
theorem np_Pg_giveTypes : NP yy_Pg_giveTypes 1 := by unfold NP; decide +kernel
abbrev rm_Fl_follow : Room := { frames := 3, cells := 0, slots := 0, locals := 73 }
theorem np_Fl_follow : NP yy_Fl_follow 1 := by unfold NP; decide +kernel
abbrev rm_Fl_begin : Room := { frames := 2, cells := 0, slots := 0, locals := 48 }
theorem np_Fl_begin : NP yy_Fl_begin 1 := by unfold NP; decide +kernel
abbrev rm_Me_firstArgument : Room := { frames := 0, cells := 0, slots := 0, locals := 0 }
theorem np_Me_firstArgument : NP yy_Me_firstArgument 0 := by unfold NP; decide +kernel
abbrev rm_Fl_setTypes : Room := { frames := 1, cells := 0, slots := 0, locals := 25 }
theorem np_Fl_setTypes : NP yy_Fl_setTypes 3 := by unfold NP; decide +kernel
abbrev rm_Fl_setOne : Room := { frames := 0, cells := 0, slots := 0, locals := 0 }
theorem np_Fl_setOne : NP yy_Fl_setOne 2 := by unfold NP; decide +kernel
abbrev rm_Fl_join : Room := { frames := 0, cells := 0, slots := 0, locals := 0 }
theorem np_Fl_join : NP yy_Fl_join 1 := by unfold NP; decide +kernel
abbrev rm_Fl_passOver : Room := { frames := 2, cells := 0, slots := 0, locals := 48 }
theorem np_Fl_passOver : NP yy_Fl_passOver 1 := by unfold NP; decide +kernel
abbrev rm_St_has : Room := { frames := 1, cells := 0, slots := 0, locals := 21 }
theorem np_St_has : NP yy_St_has 2 := by unfold NP; decide +kernel
abbrev rm_Fl_firstWrong : Room := { frames := 4, cells := 0, slots := 0, locals := 89 }
theorem np_Fl_firstWrong : NP yy_Fl_firstWrong 2 := by unfold NP; decide +kernel
abbrev rm_Fl_isRight : Room := { frames := 3, cells := 0, slots := 0, locals := 68 }
theorem np_Fl_isRight : NP yy_Fl_isRight 2 := by unfold NP; decide +kernel
abbrev rm_Fl_argumentsAreRight : Room := { frames := 2, cells := 0, slots := 0, locals := 44 }
theorem np_Fl_argumentsAreRight : NP yy_Fl_argumentsAreRight 2 := by unfold NP; decide +kernel
abbrev rm_Mc_rest : Room := { frames := 0, cells := 0, slots := 0, locals := 0 }
theorem np_Mc_rest : NP yy_Mc_rest 0 := by unfold NP; decide +kernel
abbrev rm_V_load : Room := { frames := 7, cells := 0, slots := 0, locals := 155 }
theorem np_V_load : NP yy_V_load 0 := by unfold NP; decide +kernel
abbrev rm_V_call : Room := { frames := 4, cells := 0, slots := 0, locals := 94 }
theorem np_V_call : NP yy_V_call 1 := by unfold NP; decide +kernel
abbrev rm_V_beginCall : Room := { frames := 3, cells := 0, slots := 0, locals := 72 }
theorem np_V_beginCall : NP yy_V_beginCall 1 := by unfold NP; decide +kernel
abbrev rm_Ag_suit : Room := { frames := 1, cells := 0, slots := 0, locals := 21 }
theorem np_Ag_suit : NP yy_Ag_suit 1 := by unfold NP; decide +kernel
abbrev rm_Mc_begin : Room := { frames := 2, cells := 0, slots := 0, locals := 49 }
theorem np_Mc_begin : NP yy_Mc_begin 2 := by unfold NP; decide +kernel
abbrev rm_Fr_enter : Room := { frames := 0, cells := 0, slots := 0, locals := 0 }
theorem np_Fr_enter : NP yy_Fr_enter 1 := by unfold NP; decide +kernel
abbrev rm_Ag_copyTo : Room := { frames := 1, cells := 0, slots := 0, locals := 25 }
theorem np_Ag_copyTo : NP yy_Ag_copyTo 2 := by unfold NP; decide +kernel
abbrev rm_Fr_set : Room := { frames := 0, cells := 0, slots := 0, locals := 0 }
theorem np_Fr_set : NP yy_Fr_set 3 := by unfold NP; decide +kernel
abbrev rm_Ag_clear : Room := { frames := 0, cells := 0, slots := 0, locals := 0 }
theorem np_Ag_clear : NP yy_Ag_clear 0 := by unfold NP; decide +kernel
abbrev rm_V_run : Room := { frames := 4, cells := 0, slots := 0, locals := 108 }
theorem np_V_run : NP yy_V_run 1 := by unfold NP; decide +kernel
abbrev rm_Mc_advance : Room := { frames := 3, cells := 0, slots := 0, locals := 82 }
theorem np_Mc_advance : NP yy_Mc_advance 2 := by unfold NP; decide +kernel
abbrev rm_Fr_nextStep : Room := { frames := 1, cells := 0, slots := 0, locals := 21 }
theorem np_Fr_nextStep : NP yy_Fr_nextStep 0 := by unfold NP; decide +kernel
abbrev rm_Mc_perform : Room := { frames := 2, cells := 0, slots := 0, locals := 58 }
theorem np_Mc_perform : NP yy_Mc_perform 3 := by unfold NP; decide +kernel
abbrev rm_Mc_leave : Room := { frames := 1, cells := 0, slots := 0, locals := 21 }
theorem np_Mc_leave : NP yy_Mc_leave 2 := by unfold NP; decide +kernel
abbrev rm_Fr_whole : Room := { frames := 0, cells := 0, slots := 0, locals := 0 }
theorem np_Fr_whole : NP yy_Fr_whole 1 := by unfold NP; decide +kernel
abbrev rm_Fr_realNumber : Room := { frames := 0, cells := 0, slots := 0, locals := 0 }
theorem np_Fr_realNumber : NP yy_Fr_realNumber 1 := by unfold NP; decide +kernel
abbrev rm_Mc_convert : Room := { frames := 1, cells := 0, slots := 0, locals := 25 }
theorem np_Mc_convert : NP yy_Mc_convert 2 := by unfold NP; decide +kernel
abbrev rm_Mc_combine : Room := { frames := 1, cells := 0, slots := 0, locals := 25 }
theorem np_Mc_combine : NP yy_Mc_combine 2 := by unfold NP; decide +kernel
abbrev rm_Ar_divides : Room := { frames := 0, cells := 0, slots := 0, locals := 0 }
theorem np_Ar_divides : NP yy_Ar_divides 1 := by unfold NP; decide +kernel
abbrev rm_Mc_stop : Room := { frames := 0, cells := 0, slots := 0, locals := 0 }
theorem np_Mc_stop : NP yy_Mc_stop 1 := by unfold NP; decide +kernel
abbrev rm_Jl_compare : Room := { frames := 0, cells := 0, slots := 0, locals := 0 }
theorem np_Jl_compare : NP yy_Jl_compare 2 := by unfold NP; decide +kernel
abbrev rm_Ar_compareReals : Room := { frames := 0, cells := 0, slots := 0, locals := 0 }
theorem np_Ar_compareReals : NP yy_Ar_compareReals 2 := by unfold NP; decide +kernel
abbrev rm_Ar_ofInts : Room := { frames := 0, cells := 0, slots := 0, locals := 0 }
theorem np_Ar_ofInts : NP yy_Ar_ofInts 3 := by unfold NP; decide +kernel
abbrev rm_Ar_ofLongs : Room := { frames := 0, cells := 0, slots := 0, locals := 0 }
theorem np_Ar_ofLongs : NP yy_Ar_ofLongs 3 := by unfold NP; decide +kernel
abbrev rm_Ar_ofFloats : Room := { frames := 0, cells := 0, slots := 0, locals := 0 }
theorem np_Ar_ofFloats : NP yy_Ar_ofFloats 3 := by unfold NP; decide +kernel
abbrev rm_Ar_held : Room := { frames := 0, cells := 0, slots := 0, locals := 0 }
theorem np_Ar_held : NP yy_Ar_held 1 := by unfold NP; decide +kernel
abbrev rm_Ar_ofDoubles : Room := { frames := 0, cells := 0, slots := 0, locals := 0 }
theorem np_Ar_ofDoubles : NP yy_Ar_ofDoubles 3 := by unfold NP; decide +kernel
abbrev rm_Mc_holds : Room := { frames := 1, cells := 0, slots := 0, locals := 21 }
theorem np_Mc_holds : NP yy_Mc_holds 2 := by unfold NP; decide +kernel
abbrev rm_Pg_setField : Room := { frames := 1, cells := 0, slots := 0, locals := 21 }
theorem np_Pg_setField : NP yy_Pg_setField 2 := by unfold NP; decide +kernel
abbrev rm_Mc_enter : Room := { frames := 1, cells := 0, slots := 0, locals := 25 }
theorem np_Mc_enter : NP yy_Mc_enter 3 := by unfold NP; decide +kernel
abbrev rm_Mo_init : Room := { frames := 1, cells := 0, slots := 0, locals := 12 }
theorem np_Mo_init : NP yy_Mo_init 0 := by unfold NP; decide +kernel
abbrev rm_Mo_thrown : Room := { frames := 0, cells := 0, slots := 0, locals := 0 }
theorem np_Mo_thrown : NP yy_Mo_thrown 0 := by unfold NP; decide +kernel
abbrev rm_Mo_put : Room := { frames := 0, cells := 0, slots := 0, locals := 0 }
theorem np_Mo_put : NP yy_Mo_put 1 := by unfold NP; decide +kernel
abbrev rm_Mo_load : Room := { frames := 8, cells := 0, slots := 0, locals := 197 }
theorem np_Mo_load : NP yy_Mo_load 0 := by unfold NP; decide +kernel
abbrev rm_Mo_readFile : Room := { frames := 3, cells := 0, slots := 0, locals := 68 }
theorem np_Mo_readFile : NP yy_Mo_readFile 0 := by unfold NP; decide +kernel
abbrev rm_Mo_next : Room := { frames := 0, cells := 0, slots := 0, locals := 0 }
theorem np_Mo_next : NP yy_Mo_next 2 := by unfold NP; decide +kernel
abbrev rm_Mo_readMethod : Room := { frames := 2, cells := 0, slots := 0, locals := 43 }
theorem np_Mo_readMethod : NP yy_Mo_readMethod 1 := by unfold NP; decide +kernel
abbrev rm_Mo_paramWords : Room := { frames := 1, cells := 0, slots := 0, locals := 20 }
theorem np_Mo_paramWords : NP yy_Mo_paramWords 1 := by unfold NP; decide +kernel
abbrev rm_Mo_words : Room := { frames := 0, cells := 0, slots := 0, locals := 0 }
theorem np_Mo_words : NP yy_Mo_words 1 := by unfold NP; decide +kernel
abbrev rm_Mo_checkOf : Room := { frames := 0, cells := 0, slots := 0, locals := 0 }
theorem np_Mo_checkOf : NP yy_Mo_checkOf 1 := by unfold NP; decide +kernel
abbrev rm_Mo_fail : Room := { frames := 0, cells := 0, slots := 0, locals := 0 }
theorem np_Mo_fail : NP yy_Mo_fail 1 := by unfold NP; decide +kernel
abbrev rm_Mo_keepFile : Room := { frames := 7, cells := 0, slots := 0, locals := 176 }
theorem np_Mo_keepFile : NP yy_Mo_keepFile 0 := by unfold NP; decide +kernel
abbrev rm_Mo_verifyMethod : Room := { frames := 6, cells := 0, slots := 0, locals := 153 }
theorem np_Mo_verifyMethod : NP yy_Mo_verifyMethod 1 := by unfold NP; decide +kernel
abbrev rm_Mo_findBeginnings : Room := { frames := 2, cells := 0, slots := 0, locals := 44 }
theorem np_Mo_findBeginnings : NP yy_Mo_findBeginnings 1 := by unfold NP; decide +kernel
abbrev rm_Mo_op : Room := { frames := 1, cells := 0, slots := 0, locals := 22 }
theorem np_Mo_op : NP yy_Mo_op 2 := by unfold NP; decide +kernel
abbrev rm_Mo_unit : Room := { frames := 0, cells := 0, slots := 0, locals := 0 }
theorem np_Mo_unit : NP yy_Mo_unit 2 := by unfold NP; decide +kernel
abbrev rm_Mo_sizeOf : Room := { frames := 1, cells := 0, slots := 0, locals := 20 }
theorem np_Mo_sizeOf : NP yy_Mo_sizeOf 1 := by unfold NP; decide +kernel
abbrev rm_Mo_converts : Room := { frames := 0, cells := 0, slots := 0, locals := 0 }
theorem np_Mo_converts : NP yy_Mo_converts 1 := by unfold NP; decide +kernel
abbrev rm_Mo_compares : Room := { frames := 0, cells := 0, slots := 0, locals := 0 }
theorem np_Mo_compares : NP yy_Mo_compares 1 := by unfold NP; decide +kernel
abbrev rm_Mo_joins : Room := { frames := 0, cells := 0, slots := 0, locals := 0 }
theorem np_Mo_joins : NP yy_Mo_joins 1 := by unfold NP; decide +kernel
abbrev rm_Mo_firstIllFormed : Room := { frames := 4, cells := 0, slots := 0, locals := 97 }
theorem np_Mo_firstIllFormed : NP yy_Mo_firstIllFormed 1 := by unfold NP; decide +kernel
abbrev rm_Mo_namesGood : Room := { frames := 3, cells := 0, slots := 0, locals := 73 }
theorem np_Mo_namesGood : NP yy_Mo_namesGood 2 := by unfold NP; decide +kernel
abbrev rm_Mo_regA : Room := { frames := 1, cells := 0, slots := 0, locals := 22 }
theorem np_Mo_regA : NP yy_Mo_regA 2 := by unfold NP; decide +kernel
abbrev rm_Mo_gives : Room := { frames := 0, cells := 0, slots := 0, locals := 0 }
theorem np_Mo_gives : NP yy_Mo_gives 1 := by unfold NP; decide +kernel
abbrev rm_Mo_has : Room := { frames := 1, cells := 0, slots := 0, locals := 20 }
theorem np_Mo_has : NP yy_Mo_has 3 := by unfold NP; decide +kernel
abbrev rm_Mo_regB : Room := { frames := 1, cells := 0, slots := 0, locals := 22 }
theorem np_Mo_regB : NP yy_Mo_regB 2 := by unfold NP; decide +kernel
abbrev rm_Mo_takes : Room := { frames := 0, cells := 0, slots := 0, locals := 0 }
theorem np_Mo_takes : NP yy_Mo_takes 1 := by unfold NP; decide +kernel
abbrev rm_Mo_joined : Room := { frames := 0, cells := 0, slots := 0, locals := 0 }
theorem np_Mo_joined : NP yy_Mo_joined 1 := by unfold NP; decide +kernel
abbrev rm_Mo_regAA : Room := { frames := 1, cells := 0, slots := 0, locals := 22 }
theorem np_Mo_regAA : NP yy_Mo_regAA 2 := by unfold NP; decide +kernel
abbrev rm_Mo_regC : Room := { frames := 1, cells := 0, slots := 0, locals := 22 }
theorem np_Mo_regC : NP yy_Mo_regC 2 := by unfold NP; decide +kernel
abbrev rm_Mo_regD : Room := { frames := 1, cells := 0, slots := 0, locals := 22 }
theorem np_Mo_regD : NP yy_Mo_regD 2 := by unfold NP; decide +kernel
abbrev rm_Mo_compared : Room := { frames := 0, cells := 0, slots := 0, locals := 0 }
theorem np_Mo_compared : NP yy_Mo_compared 1 := by unfold NP; decide +kernel
abbrev rm_Mo_number : Room := { frames := 1, cells := 0, slots := 0, locals := 22 }
theorem np_Mo_number : NP yy_Mo_number 2 := by unfold NP; decide +kernel
abbrev rm_Mo_argumentsThere : Room := { frames := 2, cells := 0, slots := 0, locals := 45 }
theorem np_Mo_argumentsThere : NP yy_Mo_argumentsThere 2 := by unfold NP; decide +kernel
abbrev rm_Mo_argument : Room := { frames := 1, cells := 0, slots := 0, locals := 22 }
theorem np_Mo_argument : NP yy_Mo_argument 3 := by unfold NP; decide +kernel
abbrev rm_Mo_kindGood : Room := { frames := 3, cells := 0, slots := 0, locals := 66 }
theorem np_Mo_kindGood : NP yy_Mo_kindGood 3 := by unfold NP; decide +kernel
abbrev rm_Mo_isResult : Room := { frames := 2, cells := 0, slots := 0, locals := 44 }
theorem np_Mo_isResult : NP yy_Mo_isResult 2 := by unfold NP; decide +kernel
abbrev rm_Mo_ends : Room := { frames := 0, cells := 0, slots := 0, locals := 0 }
theorem np_Mo_ends : NP yy_Mo_ends 1 := by unfold NP; decide +kernel
abbrev rm_Mo_mayGo : Room := { frames := 3, cells := 0, slots := 0, locals := 66 }
theorem np_Mo_mayGo : NP yy_Mo_mayGo 3 := by unfold NP; decide +kernel
abbrev rm_Mo_branches : Room := { frames := 0, cells := 0, slots := 0, locals := 0 }
theorem np_Mo_branches : NP yy_Mo_branches 1 := by unfold NP; decide +kernel
abbrev rm_Mo_target : Room := { frames := 2, cells := 0, slots := 0, locals := 45 }
theorem np_Mo_target : NP yy_Mo_target 2 := by unfold NP; decide +kernel
abbrev rm_Mo_begin : Room := { frames := 2, cells := 0, slots := 0, locals := 44 }
theorem np_Mo_begin : NP yy_Mo_begin 1 := by unfold NP; decide +kernel
abbrev rm_Mo_set : Room := { frames := 1, cells := 0, slots := 0, locals := 21 }
theorem np_Mo_set : NP yy_Mo_set 2 := by unfold NP; decide +kernel
abbrev rm_Mo_loosen : Room := { frames := 0, cells := 0, slots := 0, locals := 0 }
theorem np_Mo_loosen : NP yy_Mo_loosen 1 := by unfold NP; decide +kernel
abbrev rm_Mo_firstOf : Room := { frames := 0, cells := 0, slots := 0, locals := 0 }
theorem np_Mo_firstOf : NP yy_Mo_firstOf 1 := by unfold NP; decide +kernel
abbrev rm_Mo_flow : Room := { frames := 0, cells := 0, slots := 0, locals := 0 }
theorem np_Mo_flow : NP yy_Mo_flow 2 := by unfold NP; decide +kernel
abbrev rm_Mo_step1 : Room := { frames := 5, cells := 0, slots := 0, locals := 129 }
theorem np_Mo_step1 : NP yy_Mo_step1 3 := by unfold NP; decide +kernel
abbrev rm_Mo_pass1 : Room := { frames := 4, cells := 0, slots := 0, locals := 102 }
theorem np_Mo_pass1 : NP yy_Mo_pass1 3 := by unfold NP; decide +kernel
abbrev rm_Mo_typeAt : Room := { frames := 0, cells := 0, slots := 0, locals := 0 }
theorem np_Mo_typeAt : NP yy_Mo_typeAt 3 := by unfold NP; decide +kernel
abbrev rm_Mo_is : Room := { frames := 1, cells := 0, slots := 0, locals := 23 }
theorem np_Mo_is : NP yy_Mo_is 4 := by unfold NP; decide +kernel
abbrev rm_Mo_need : Room := { frames := 0, cells := 0, slots := 0, locals := 0 }
theorem np_Mo_need : NP yy_Mo_need 1 := by unfold NP; decide +kernel
abbrev rm_Mo_passOther : Room := { frames := 3, cells := 0, slots := 0, locals := 74 }
theorem np_Mo_passOther : NP yy_Mo_passOther 3 := by unfold NP; decide +kernel
abbrev rm_Mo_useArguments : Room := { frames := 2, cells := 0, slots := 0, locals := 48 }
theorem np_Mo_useArguments : NP yy_Mo_useArguments 2 := by unfold NP; decide +kernel
abbrev rm_Mo_idle : Room := { frames := 0, cells := 0, slots := 0, locals := 0 }
theorem np_Mo_idle : NP yy_Mo_idle 1 := by unfold NP; decide +kernel
abbrev rm_Mo_seal : Room := { frames := 9, cells := 0, slots := 0, locals := 217 }
theorem np_Mo_seal : NP yy_Mo_seal 0 := by unfold NP; decide +kernel
abbrev rm_Mo_place : Room := { frames := 0, cells := 0, slots := 0, locals := 0 }
theorem np_Mo_place : NP yy_Mo_place 0 := by unfold NP; decide +kernel
abbrev rm_Mo_verify : Room := { frames := 1, cells := 0, slots := 0, locals := 21 }
theorem np_Mo_verify : NP yy_Mo_verify 1 := by unfold NP; decide +kernel
abbrev rm_Mo_isMethod : Room := { frames := 0, cells := 0, slots := 0, locals := 0 }
theorem np_Mo_isMethod : NP yy_Mo_isMethod 1 := by unfold NP; decide +kernel
abbrev rm_Mo_type : Room := { frames := 1, cells := 0, slots := 0, locals := 23 }
theorem np_Mo_type : NP yy_Mo_type 3 := by unfold NP; decide +kernel
abbrev rm_Mo_pass : Room := { frames := 1, cells := 0, slots := 0, locals := 25 }
theorem np_Mo_pass : NP yy_Mo_pass 2 := by unfold NP; decide +kernel
abbrev rm_Mo_addArgument : Room := { frames := 0, cells := 0, slots := 0, locals := 0 }
theorem np_Mo_addArgument : NP yy_Mo_addArgument 3 := by unfold NP; decide +kernel
abbrev rm_Mo_passReal : Room := { frames := 1, cells := 0, slots := 0, locals := 25 }
theorem np_Mo_passReal : NP yy_Mo_passReal 2 := by unfold NP; decide +kernel
abbrev rm_Mo_call : Room := { frames := 2, cells := 0, slots := 0, locals := 43 }
theorem np_Mo_call : NP yy_Mo_call 1 := by unfold NP; decide +kernel
abbrev rm_Mo_enter : Room := { frames := 0, cells := 0, slots := 0, locals := 0 }
theorem np_Mo_enter : NP yy_Mo_enter 1 := by unfold NP; decide +kernel
abbrev rm_Mo_run : Room := { frames := 5, cells := 0, slots := 0, locals := 116 }
theorem np_Mo_run : NP yy_Mo_run 1 := by unfold NP; decide +kernel
abbrev rm_Mo_one : Room := { frames := 4, cells := 0, slots := 0, locals := 89 }
theorem np_Mo_one : NP yy_Mo_one 0 := by unfold NP; decide +kernel
abbrev rm_Mo_callFrom : Room := { frames := 2, cells := 0, slots := 0, locals := 45 }
theorem np_Mo_callFrom : NP yy_Mo_callFrom 2 := by unfold NP; decide +kernel
abbrev rm_Mo_base : Room := { frames := 0, cells := 0, slots := 0, locals := 0 }
theorem np_Mo_base : NP yy_Mo_base 0 := by unfold NP; decide +kernel
abbrev rm_Mo_giveBack : Room := { frames := 2, cells := 0, slots := 0, locals := 41 }
theorem np_Mo_giveBack : NP yy_Mo_giveBack 2 := by unfold NP; decide +kernel
abbrev rm_Mo_wholeOf : Room := { frames := 1, cells := 0, slots := 0, locals := 20 }
theorem np_Mo_wholeOf : NP yy_Mo_wholeOf 1 := by unfold NP; decide +kernel
abbrev rm_Mo_realOf : Room := { frames := 1, cells := 0, slots := 0, locals := 20 }
theorem np_Mo_realOf : NP yy_Mo_realOf 1 := by unfold NP; decide +kernel
abbrev rm_Mo_join : Room := { frames := 2, cells := 0, slots := 0, locals := 43 }
theorem np_Mo_join : NP yy_Mo_join 4 := by unfold NP; decide +kernel
abbrev rm_Mo_divides : Room := { frames := 0, cells := 0, slots := 0, locals := 0 }
theorem np_Mo_divides : NP yy_Mo_divides 1 := by unfold NP; decide +kernel
abbrev rm_Mo_joinInts : Room := { frames := 0, cells := 0, slots := 0, locals := 0 }
theorem np_Mo_joinInts : NP yy_Mo_joinInts 3 := by unfold NP; decide +kernel
abbrev rm_Mo_setWhole : Room := { frames := 1, cells := 0, slots := 0, locals := 20 }
theorem np_Mo_setWhole : NP yy_Mo_setWhole 2 := by unfold NP; decide +kernel
abbrev rm_Mo_joinLongs : Room := { frames := 0, cells := 0, slots := 0, locals := 0 }
theorem np_Mo_joinLongs : NP yy_Mo_joinLongs 3 := by unfold NP; decide +kernel
abbrev rm_Mo_joinFloats : Room := { frames := 0, cells := 0, slots := 0, locals := 0 }
theorem np_Mo_joinFloats : NP yy_Mo_joinFloats 3 := by unfold NP; decide +kernel
abbrev rm_Mo_setReal : Room := { frames := 1, cells := 0, slots := 0, locals := 20 }
theorem np_Mo_setReal : NP yy_Mo_setReal 2 := by unfold NP; decide +kernel
abbrev rm_Mo_joinDoubles : Room := { frames := 0, cells := 0, slots := 0, locals := 0 }
theorem np_Mo_joinDoubles : NP yy_Mo_joinDoubles 3 := by unfold NP; decide +kernel
abbrev rm_Mo_holds : Room := { frames := 0, cells := 0, slots := 0, locals := 0 }
theorem np_Mo_holds : NP yy_Mo_holds 3 := by unfold NP; decide +kernel
abbrev rm_Mo_convert : Room := { frames := 2, cells := 0, slots := 0, locals := 43 }
theorem np_Mo_convert : NP yy_Mo_convert 3 := by unfold NP; decide +kernel
abbrev rm_Mo_compare : Room := { frames := 2, cells := 0, slots := 0, locals := 43 }
theorem np_Mo_compare : NP yy_Mo_compare 4 := by unfold NP; decide +kernel
abbrev rm_Mo_simple : Room := { frames := 3, cells := 0, slots := 0, locals := 65 }
theorem np_Mo_simple : NP yy_Mo_simple 3 := by unfold NP; decide +kernel
abbrev rm_Mo_copy : Room := { frames := 2, cells := 0, slots := 0, locals := 43 }
theorem np_Mo_copy : NP yy_Mo_copy 2 := by unfold NP; decide +kernel
abbrev rm_Mo_state : Room := { frames := 0, cells := 0, slots := 0, locals := 0 }
theorem np_Mo_state : NP yy_Mo_state 0 := by unfold NP; decide +kernel
abbrev rm_Mo_value : Room := { frames := 0, cells := 0, slots := 0, locals := 0 }
theorem np_Mo_value : NP yy_Mo_value 0 := by unfold NP; decide +kernel
abbrev rm_Mo_real : Room := { frames := 0, cells := 0, slots := 0, locals := 0 }
theorem np_Mo_real : NP yy_Mo_real 0 := by unfold NP; decide +kernel
abbrev rm_Mo_calls : Room := { frames := 0, cells := 0, slots := 0, locals := 0 }
theorem np_Mo_calls : NP yy_Mo_calls 0 := by unfold NP; decide +kernel
abbrev rm_Mo_at : Room := { frames := 0, cells := 0, slots := 0, locals := 0 }
theorem np_Mo_at : NP yy_Mo_at 1 := by unfold NP; decide +kernel
abbrev rm_Mo_field : Room := { frames := 0, cells := 0, slots := 0, locals := 0 }
theorem np_Mo_field : NP yy_Mo_field 1 := by unfold NP; decide +kernel
theorem rk_V_init_Fb_init : RK rm_V_init rm_Fb_init yy_Fb_init 0 0 := ⟨rfl, rfl, Nat.le_of_ble_eq_true rfl, Nat.le_of_ble_eq_true rfl⟩
theorem rk_V_init_Ag_init : RK rm_V_init rm_Ag_init yy_Ag_init 0 0 := ⟨rfl, rfl, Nat.le_of_ble_eq_true rfl, Nat.le_of_ble_eq_true rfl⟩
theorem rk_V_init_Pg_init : RK rm_V_init rm_Pg_init yy_Pg_init 0 0 := ⟨rfl, rfl, Nat.le_of_ble_eq_true rfl, Nat.le_of_ble_eq_true rfl⟩
theorem rk_V_init_Mc_init : RK rm_V_init rm_Mc_init yy_Mc_init 0 0 := ⟨rfl, rfl, Nat.le_of_ble_eq_true rfl, Nat.le_of_ble_eq_true rfl⟩
theorem rk_Mc_init_Fr_init : RK rm_Mc_init rm_Fr_init yy_Fr_init 0 0 := ⟨rfl, rfl, Nat.le_of_ble_eq_true rfl, Nat.le_of_ble_eq_true rfl⟩
theorem rk_Pg_init_Me_init : RK rm_Pg_init rm_Me_init yy_Me_init 0 0 := ⟨rfl, rfl, Nat.le_of_ble_eq_true rfl, Nat.le_of_ble_eq_true rfl⟩
theorem rk_Pg_init_Fl_init : RK rm_Pg_init rm_Fl_init yy_Fl_init 0 0 := ⟨rfl, rfl, Nat.le_of_ble_eq_true rfl, Nat.le_of_ble_eq_true rfl⟩
theorem rk_Me_init_St_init : RK rm_Me_init rm_St_init yy_St_init 0 0 := ⟨rfl, rfl, Nat.le_of_ble_eq_true rfl, Nat.le_of_ble_eq_true rfl⟩
theorem rk_V_put_Fb_append : RK rm_V_put rm_Fb_append yy_Fb_append 0 0 := ⟨rfl, rfl, Nat.le_of_ble_eq_true rfl, Nat.le_of_ble_eq_true rfl⟩
theorem rk_V_verify_Pg_methodAt : RK rm_V_verify rm_Pg_methodAt yy_Pg_methodAt 0 0 := ⟨rfl, rfl, Nat.le_of_ble_eq_true rfl, Nat.le_of_ble_eq_true rfl⟩
theorem rk_V_type_Me_typeBefore : RK rm_V_type rm_Me_typeBefore yy_Me_typeBefore 0 0 := ⟨rfl, rfl, Nat.le_of_ble_eq_true rfl, Nat.le_of_ble_eq_true rfl⟩
theorem rk_V_type_Pg_methodAt : RK rm_V_type rm_Pg_methodAt yy_Pg_methodAt 0 0 := ⟨rfl, rfl, Nat.le_of_ble_eq_true rfl, Nat.le_of_ble_eq_true rfl⟩
theorem rk_Me_typeBefore_Me_stepAt : RK rm_Me_typeBefore rm_Me_stepAt yy_Me_stepAt 0 0 := ⟨rfl, rfl, Nat.le_of_ble_eq_true rfl, Nat.le_of_ble_eq_true rfl⟩
theorem rk_Me_typeBefore_St_typeOf : RK rm_Me_typeBefore rm_St_typeOf yy_St_typeOf 0 0 := ⟨rfl, rfl, Nat.le_of_ble_eq_true rfl, Nat.le_of_ble_eq_true rfl⟩
theorem rk_V_pass_Ag_add : RK rm_V_pass rm_Ag_add yy_Ag_add 0 0 := ⟨rfl, rfl, Nat.le_of_ble_eq_true rfl, Nat.le_of_ble_eq_true rfl⟩
theorem rk_V_passReal_Ag_add : RK rm_V_passReal rm_Ag_add yy_Ag_add 0 0 := ⟨rfl, rfl, Nat.le_of_ble_eq_true rfl, Nat.le_of_ble_eq_true rfl⟩
theorem rk_V_value_V_isReal : RK rm_V_value rm_V_isReal yy_V_isReal 0 0 := ⟨rfl, rfl, Nat.le_of_ble_eq_true rfl, Nat.le_of_ble_eq_true rfl⟩
theorem rk_V_value_Mc_wholeResult : RK rm_V_value rm_Mc_wholeResult yy_Mc_wholeResult 0 0 := ⟨rfl, rfl, Nat.le_of_ble_eq_true rfl, Nat.le_of_ble_eq_true rfl⟩
theorem rk_V_value_Mc_returnedType : RK rm_V_value rm_Mc_returnedType yy_Mc_returnedType 0 0 := ⟨rfl, rfl, Nat.le_of_ble_eq_true rfl, Nat.le_of_ble_eq_true rfl⟩
theorem rk_Mc_wholeResult_Mc_returnedType : RK rm_Mc_wholeResult rm_Mc_returnedType yy_Mc_returnedType 0 0 := ⟨rfl, rfl, Nat.le_of_ble_eq_true rfl, Nat.le_of_ble_eq_true rfl⟩
theorem rk_V_real_V_isReal : RK rm_V_real rm_V_isReal yy_V_isReal 0 0 := ⟨rfl, rfl, Nat.le_of_ble_eq_true rfl, Nat.le_of_ble_eq_true rfl⟩
theorem rk_V_real_Mc_wholeResult : RK rm_V_real rm_Mc_wholeResult yy_Mc_wholeResult 0 0 := ⟨rfl, rfl, Nat.le_of_ble_eq_true rfl, Nat.le_of_ble_eq_true rfl⟩
theorem rk_V_real_Mc_returnedType : RK rm_V_real rm_Mc_returnedType yy_Mc_returnedType 0 0 := ⟨rfl, rfl, Nat.le_of_ble_eq_true rfl, Nat.le_of_ble_eq_true rfl⟩
theorem rk_V_at_Mc_unitOf : RK rm_V_at rm_Mc_unitOf yy_Mc_unitOf 0 0 := ⟨rfl, rfl, Nat.le_of_ble_eq_true rfl, Nat.le_of_ble_eq_true rfl⟩
theorem rk_Mc_unitOf_Mc_frameAt : RK rm_Mc_unitOf rm_Mc_frameAt yy_Mc_frameAt 0 0 := ⟨rfl, rfl, Nat.le_of_ble_eq_true rfl, Nat.le_of_ble_eq_true rfl⟩
theorem rk_V_field_Pg_fieldAt : RK rm_V_field rm_Pg_fieldAt yy_Pg_fieldAt 0 0 := ⟨rfl, rfl, Nat.le_of_ble_eq_true rfl, Nat.le_of_ble_eq_true rfl⟩
theorem rk_Pg_fieldAt_Pg_hasField : RK rm_Pg_fieldAt rm_Pg_hasField yy_Pg_hasField 0 0 := ⟨rfl, rfl, Nat.le_of_ble_eq_true rfl, Nat.le_of_ble_eq_true rfl⟩
theorem rk_V_seal_Fb_putHead : RK rm_V_seal rm_Fb_putHead yy_Fb_putHead 0 0 := ⟨rfl, rfl, Nat.le_of_ble_eq_true rfl, Nat.le_of_ble_eq_true rfl⟩
theorem rk_V_seal_V_takeFile : RK rm_V_seal rm_V_takeFile yy_V_takeFile 0 0 := ⟨rfl, rfl, Nat.le_of_ble_eq_true rfl, Nat.le_of_ble_eq_true rfl⟩
theorem rk_Fb_putHead_Fb_dueCheck : RK rm_Fb_putHead rm_Fb_dueCheck yy_Fb_dueCheck 0 0 := ⟨rfl, rfl, Nat.le_of_ble_eq_true rfl, Nat.le_of_ble_eq_true rfl⟩
theorem rk_V_takeFile_Mc_rest : RK rm_V_takeFile rm_Mc_rest yy_Mc_rest 0 0 := ⟨rfl, rfl, Nat.le_of_ble_eq_true rfl, Nat.le_of_ble_eq_true rfl⟩
theorem rk_V_takeFile_Fb_clear : RK rm_V_takeFile rm_Fb_clear yy_Fb_clear 0 0 := ⟨rfl, rfl, Nat.le_of_ble_eq_true rfl, Nat.le_of_ble_eq_true rfl⟩
theorem rk_V_takeFile_Pg_judge : RK rm_V_takeFile rm_Pg_judge yy_Pg_judge 0 0 := ⟨rfl, rfl, Nat.le_of_ble_eq_true rfl, Nat.le_of_ble_eq_true rfl⟩
theorem rk_V_takeFile_Pg_readFrom : RK rm_V_takeFile rm_Pg_readFrom yy_Pg_readFrom 0 0 := ⟨rfl, rfl, Nat.le_of_ble_eq_true rfl, Nat.le_of_ble_eq_true rfl⟩
theorem rk_Pg_readFrom_Ja_fill : RK rm_Pg_readFrom rm_Ja_fill yy_Ja_fill 0 0 := ⟨rfl, rfl, Nat.le_of_ble_eq_true rfl, Nat.le_of_ble_eq_true rfl⟩
theorem rk_Pg_readFrom_Fb_take : RK rm_Pg_readFrom rm_Fb_take yy_Fb_take 0 0 := ⟨rfl, rfl, Nat.le_of_ble_eq_true rfl, Nat.le_of_ble_eq_true rfl⟩
theorem rk_Pg_readFrom_Fb_takeHead : RK rm_Pg_readFrom rm_Fb_takeHead yy_Fb_takeHead 0 0 := ⟨rfl, rfl, Nat.le_of_ble_eq_true rfl, Nat.le_of_ble_eq_true rfl⟩
theorem rk_Pg_readFrom_Me_readFrom : RK rm_Pg_readFrom rm_Me_readFrom yy_Me_readFrom 0 0 := ⟨rfl, rfl, Nat.le_of_ble_eq_true rfl, Nat.le_of_ble_eq_true rfl⟩
theorem rk_Pg_readFrom_Fb_takeEnd : RK rm_Pg_readFrom rm_Fb_takeEnd yy_Fb_takeEnd 0 0 := ⟨rfl, rfl, Nat.le_of_ble_eq_true rfl, Nat.le_of_ble_eq_true rfl⟩
theorem rk_Fb_takeHead_Fb_take : RK rm_Fb_takeHead rm_Fb_take yy_Fb_take 0 0 := ⟨rfl, rfl, Nat.le_of_ble_eq_true rfl, Nat.le_of_ble_eq_true rfl⟩
theorem rk_Me_readFrom_Fb_takeUnitCount : RK rm_Me_readFrom rm_Fb_takeUnitCount yy_Fb_takeUnitCount 0 0 := ⟨rfl, rfl, Nat.le_of_ble_eq_true rfl, Nat.le_of_ble_eq_true rfl⟩
theorem rk_Me_readFrom_Me_typeTold : RK rm_Me_readFrom rm_Me_typeTold yy_Me_typeTold 0 0 := ⟨rfl, rfl, Nat.le_of_ble_eq_true rfl, Nat.le_of_ble_eq_true rfl⟩
theorem rk_Me_readFrom_V_widthOf : RK rm_Me_readFrom rm_V_widthOf yy_V_widthOf 0 0 := ⟨rfl, rfl, Nat.le_of_ble_eq_true rfl, Nat.le_of_ble_eq_true rfl⟩
theorem rk_Me_readFrom_Fb_take : RK rm_Me_readFrom rm_Fb_take yy_Fb_take 0 0 := ⟨rfl, rfl, Nat.le_of_ble_eq_true rfl, Nat.le_of_ble_eq_true rfl⟩
theorem rk_Fb_takeUnitCount_Fb_take : RK rm_Fb_takeUnitCount rm_Fb_take yy_Fb_take 0 0 := ⟨rfl, rfl, Nat.le_of_ble_eq_true rfl, Nat.le_of_ble_eq_true rfl⟩
theorem rk_Fb_takeEnd_Fb_dueCheck : RK rm_Fb_takeEnd rm_Fb_dueCheck yy_Fb_dueCheck 0 0 := ⟨rfl, rfl, Nat.le_of_ble_eq_true rfl, Nat.le_of_ble_eq_true rfl⟩
theorem rk_Fb_takeEnd_Fb_toldCheck : RK rm_Fb_takeEnd rm_Fb_toldCheck yy_Fb_toldCheck 0 0 := ⟨rfl, rfl, Nat.le_of_ble_eq_true rfl, Nat.le_of_ble_eq_true rfl⟩
theorem rk_Pg_judge_Me_layOut : RK rm_Pg_judge rm_Me_layOut yy_Me_layOut 0 0 := ⟨rfl, rfl, Nat.le_of_ble_eq_true rfl, Nat.le_of_ble_eq_true rfl⟩
theorem rk_Pg_judge_Pg_giveTypes : RK rm_Pg_judge rm_Pg_giveTypes yy_Pg_giveTypes 0 0 := ⟨rfl, rfl, Nat.le_of_ble_eq_true rfl, Nat.le_of_ble_eq_true rfl⟩
theorem rk_Pg_judge_Fl_follow : RK rm_Pg_judge rm_Fl_follow yy_Fl_follow 0 0 := ⟨rfl, rfl, Nat.le_of_ble_eq_true rfl, Nat.le_of_ble_eq_true rfl⟩
theorem rk_Pg_judge_Fo_firstFault : RK rm_Pg_judge rm_Fo_firstFault yy_Fo_firstFault 0 0 := ⟨rfl, rfl, Nat.le_of_ble_eq_true rfl, Nat.le_of_ble_eq_true rfl⟩
theorem rk_Pg_judge_Fl_firstWrong : RK rm_Pg_judge rm_Fl_firstWrong yy_Fl_firstWrong 0 0 := ⟨rfl, rfl, Nat.le_of_ble_eq_true rfl, Nat.le_of_ble_eq_true rfl⟩
theorem rk_Me_layOut_Me_unitAt : RK rm_Me_layOut rm_Me_unitAt yy_Me_unitAt 0 0 := ⟨rfl, rfl, Nat.le_of_ble_eq_true rfl, Nat.le_of_ble_eq_true rfl⟩
theorem rk_Me_layOut_St_decode : RK rm_Me_layOut rm_St_decode yy_St_decode 0 0 := ⟨rfl, rfl, Nat.le_of_ble_eq_true rfl, Nat.le_of_ble_eq_true rfl⟩
theorem rk_St_decode_St_findOperation : RK rm_St_decode rm_St_findOperation yy_St_findOperation 0 0 := ⟨rfl, rfl, Nat.le_of_ble_eq_true rfl, Nat.le_of_ble_eq_true rfl⟩
theorem rk_St_decode_St_lengthOf : RK rm_St_decode rm_St_lengthOf yy_St_lengthOf 0 0 := ⟨rfl, rfl, Nat.le_of_ble_eq_true rfl, Nat.le_of_ble_eq_true rfl⟩
theorem rk_Fo_firstFault_Me_stepAt : RK rm_Fo_firstFault rm_Me_stepAt yy_Me_stepAt 0 0 := ⟨rfl, rfl, Nat.le_of_ble_eq_true rfl, Nat.le_of_ble_eq_true rfl⟩
theorem rk_Fo_firstFault_Fo_fits : RK rm_Fo_firstFault rm_Fo_fits yy_Fo_fits 0 0 := ⟨rfl, rfl, Nat.le_of_ble_eq_true rfl, Nat.le_of_ble_eq_true rfl⟩
theorem rk_Fo_fits_Fo_goesOnRightly : RK rm_Fo_fits rm_Fo_goesOnRightly yy_Fo_goesOnRightly 0 0 := ⟨rfl, rfl, Nat.le_of_ble_eq_true rfl, Nat.le_of_ble_eq_true rfl⟩
theorem rk_Fo_fits_Pg_returnedBefore : RK rm_Fo_fits rm_Pg_returnedBefore yy_Pg_returnedBefore 0 0 := ⟨rfl, rfl, Nat.le_of_ble_eq_true rfl, Nat.le_of_ble_eq_true rfl⟩
theorem rk_Fo_fits_Fo_isOfWidth : RK rm_Fo_fits rm_Fo_isOfWidth yy_Fo_isOfWidth 0 0 := ⟨rfl, rfl, Nat.le_of_ble_eq_true rfl, Nat.le_of_ble_eq_true rfl⟩
theorem rk_Fo_fits_Fo_callFits : RK rm_Fo_fits rm_Fo_callFits yy_Fo_callFits 0 0 := ⟨rfl, rfl, Nat.le_of_ble_eq_true rfl, Nat.le_of_ble_eq_true rfl⟩
theorem rk_Fo_fits_Fo_registersAreThere : RK rm_Fo_fits rm_Fo_registersAreThere yy_Fo_registersAreThere 0 0 := ⟨rfl, rfl, Nat.le_of_ble_eq_true rfl, Nat.le_of_ble_eq_true rfl⟩
theorem rk_Fo_fits_Pg_hasField : RK rm_Fo_fits rm_Pg_hasField yy_Pg_hasField 0 0 := ⟨rfl, rfl, Nat.le_of_ble_eq_true rfl, Nat.le_of_ble_eq_true rfl⟩
theorem rk_Fo_fits_Pg_methodAt : RK rm_Fo_fits rm_Pg_methodAt yy_Pg_methodAt 0 0 := ⟨rfl, rfl, Nat.le_of_ble_eq_true rfl, Nat.le_of_ble_eq_true rfl⟩
theorem rk_Fo_registersAreThere_V_widthOf : RK rm_Fo_registersAreThere rm_V_widthOf yy_V_widthOf 0 0 := ⟨rfl, rfl, Nat.le_of_ble_eq_true rfl, Nat.le_of_ble_eq_true rfl⟩
theorem rk_Fo_registersAreThere_Fo_isThere : RK rm_Fo_registersAreThere rm_Fo_isThere yy_Fo_isThere 0 0 := ⟨rfl, rfl, Nat.le_of_ble_eq_true rfl, Nat.le_of_ble_eq_true rfl⟩
theorem rk_Fo_goesOnRightly_St_goesOnBehind : RK rm_Fo_goesOnRightly rm_St_goesOnBehind yy_St_goesOnBehind 0 0 := ⟨rfl, rfl, Nat.le_of_ble_eq_true rfl, Nat.le_of_ble_eq_true rfl⟩
theorem rk_Fo_goesOnRightly_St_branches : RK rm_Fo_goesOnRightly rm_St_branches yy_St_branches 0 0 := ⟨rfl, rfl, Nat.le_of_ble_eq_true rfl, Nat.le_of_ble_eq_true rfl⟩
theorem rk_Fo_goesOnRightly_Me_stepAt : RK rm_Fo_goesOnRightly rm_Me_stepAt yy_Me_stepAt 0 0 := ⟨rfl, rfl, Nat.le_of_ble_eq_true rfl, Nat.le_of_ble_eq_true rfl⟩
theorem rk_Fo_callFits_Me_parameterAt : RK rm_Fo_callFits rm_Me_parameterAt yy_Me_parameterAt 0 0 := ⟨rfl, rfl, Nat.le_of_ble_eq_true rfl, Nat.le_of_ble_eq_true rfl⟩
theorem rk_Fo_callFits_V_widthOf : RK rm_Fo_callFits rm_V_widthOf yy_V_widthOf 0 0 := ⟨rfl, rfl, Nat.le_of_ble_eq_true rfl, Nat.le_of_ble_eq_true rfl⟩
theorem rk_Fo_callFits_St_named : RK rm_Fo_callFits rm_St_named yy_St_named 0 0 := ⟨rfl, rfl, Nat.le_of_ble_eq_true rfl, Nat.le_of_ble_eq_true rfl⟩
theorem rk_Fo_callFits_Fo_isThere : RK rm_Fo_callFits rm_Fo_isThere yy_Fo_isThere 0 0 := ⟨rfl, rfl, Nat.le_of_ble_eq_true rfl, Nat.le_of_ble_eq_true rfl⟩
theorem rk_Pg_returnedBefore_Me_stepAt : RK rm_Pg_returnedBefore rm_Me_stepAt yy_Me_stepAt 0 0 := ⟨rfl, rfl, Nat.le_of_ble_eq_true rfl, Nat.le_of_ble_eq_true rfl⟩
theorem rk_Pg_returnedBefore_Pg_methodAt : RK rm_Pg_returnedBefore rm_Pg_methodAt yy_Pg_methodAt 0 0 := ⟨rfl, rfl, Nat.le_of_ble_eq_true rfl, Nat.le_of_ble_eq_true rfl⟩
theorem rk_Fo_isOfWidth_V_widthOf : RK rm_Fo_isOfWidth rm_V_widthOf yy_V_widthOf 0 0 := ⟨rfl, rfl, Nat.le_of_ble_eq_true rfl, Nat.le_of_ble_eq_true rfl⟩
theorem rk_Pg_giveTypes_Pg_returnedBefore : RK rm_Pg_giveTypes rm_Pg_returnedBefore yy_Pg_returnedBefore 0 0 := ⟨rfl, rfl, Nat.le_of_ble_eq_true rfl, Nat.le_of_ble_eq_true rfl⟩
theorem rk_Pg_giveTypes_Me_stepAt : RK rm_Pg_giveTypes rm_Me_stepAt yy_Me_stepAt 0 0 := ⟨rfl, rfl, Nat.le_of_ble_eq_true rfl, Nat.le_of_ble_eq_true rfl⟩
theorem rk_Fl_follow_St_goesOnBehind : RK rm_Fl_follow rm_St_goesOnBehind yy_St_goesOnBehind 0 0 := ⟨rfl, rfl, Nat.le_of_ble_eq_true rfl, Nat.le_of_ble_eq_true rfl⟩
theorem rk_Fl_follow_Fl_begin : RK rm_Fl_follow rm_Fl_begin yy_Fl_begin 0 0 := ⟨rfl, rfl, Nat.le_of_ble_eq_true rfl, Nat.le_of_ble_eq_true rfl⟩
theorem rk_Fl_follow_Me_stepAt : RK rm_Fl_follow rm_Me_stepAt yy_Me_stepAt 0 0 := ⟨rfl, rfl, Nat.le_of_ble_eq_true rfl, Nat.le_of_ble_eq_true rfl⟩
theorem rk_Fl_follow_Fl_passOver : RK rm_Fl_follow rm_Fl_passOver yy_Fl_passOver 0 0 := ⟨rfl, rfl, Nat.le_of_ble_eq_true rfl, Nat.le_of_ble_eq_true rfl⟩
theorem rk_Fl_follow_St_branches : RK rm_Fl_follow rm_St_branches yy_St_branches 0 0 := ⟨rfl, rfl, Nat.le_of_ble_eq_true rfl, Nat.le_of_ble_eq_true rfl⟩
theorem rk_Fl_follow_Fl_join : RK rm_Fl_follow rm_Fl_join yy_Fl_join 0 0 := ⟨rfl, rfl, Nat.le_of_ble_eq_true rfl, Nat.le_of_ble_eq_true rfl⟩
theorem rk_Fl_begin_Ja_fill : RK rm_Fl_begin rm_Ja_fill yy_Ja_fill 0 0 := ⟨rfl, rfl, Nat.le_of_ble_eq_true rfl, Nat.le_of_ble_eq_true rfl⟩
theorem rk_Fl_begin_Me_parameterAt : RK rm_Fl_begin rm_Me_parameterAt yy_Me_parameterAt 0 0 := ⟨rfl, rfl, Nat.le_of_ble_eq_true rfl, Nat.le_of_ble_eq_true rfl⟩
theorem rk_Fl_begin_V_widthOf : RK rm_Fl_begin rm_V_widthOf yy_V_widthOf 0 0 := ⟨rfl, rfl, Nat.le_of_ble_eq_true rfl, Nat.le_of_ble_eq_true rfl⟩
theorem rk_Fl_begin_Me_firstArgument : RK rm_Fl_begin rm_Me_firstArgument yy_Me_firstArgument 0 0 := ⟨rfl, rfl, Nat.le_of_ble_eq_true rfl, Nat.le_of_ble_eq_true rfl⟩
theorem rk_Fl_begin_Fl_setTypes : RK rm_Fl_begin rm_Fl_setTypes yy_Fl_setTypes 0 0 := ⟨rfl, rfl, Nat.le_of_ble_eq_true rfl, Nat.le_of_ble_eq_true rfl⟩
theorem rk_Fl_begin_Me_stepAt : RK rm_Fl_begin rm_Me_stepAt yy_Me_stepAt 0 0 := ⟨rfl, rfl, Nat.le_of_ble_eq_true rfl, Nat.le_of_ble_eq_true rfl⟩
theorem rk_Fl_begin_Fl_join : RK rm_Fl_begin rm_Fl_join yy_Fl_join 0 0 := ⟨rfl, rfl, Nat.le_of_ble_eq_true rfl, Nat.le_of_ble_eq_true rfl⟩
theorem rk_Fl_setTypes_Fl_setOne : RK rm_Fl_setTypes rm_Fl_setOne yy_Fl_setOne 0 0 := ⟨rfl, rfl, Nat.le_of_ble_eq_true rfl, Nat.le_of_ble_eq_true rfl⟩
theorem rk_Fl_passOver_St_has : RK rm_Fl_passOver rm_St_has yy_St_has 0 0 := ⟨rfl, rfl, Nat.le_of_ble_eq_true rfl, Nat.le_of_ble_eq_true rfl⟩
theorem rk_Fl_passOver_St_typeOf : RK rm_Fl_passOver rm_St_typeOf yy_St_typeOf 0 0 := ⟨rfl, rfl, Nat.le_of_ble_eq_true rfl, Nat.le_of_ble_eq_true rfl⟩
theorem rk_Fl_passOver_V_widthOf : RK rm_Fl_passOver rm_V_widthOf yy_V_widthOf 0 0 := ⟨rfl, rfl, Nat.le_of_ble_eq_true rfl, Nat.le_of_ble_eq_true rfl⟩
theorem rk_Fl_passOver_Fl_setTypes : RK rm_Fl_passOver rm_Fl_setTypes yy_Fl_setTypes 0 0 := ⟨rfl, rfl, Nat.le_of_ble_eq_true rfl, Nat.le_of_ble_eq_true rfl⟩
theorem rk_St_has_St_typeOf : RK rm_St_has rm_St_typeOf yy_St_typeOf 0 0 := ⟨rfl, rfl, Nat.le_of_ble_eq_true rfl, Nat.le_of_ble_eq_true rfl⟩
theorem rk_Fl_firstWrong_Me_stepAt : RK rm_Fl_firstWrong rm_Me_stepAt yy_Me_stepAt 0 0 := ⟨rfl, rfl, Nat.le_of_ble_eq_true rfl, Nat.le_of_ble_eq_true rfl⟩
theorem rk_Fl_firstWrong_Fl_isRight : RK rm_Fl_firstWrong rm_Fl_isRight yy_Fl_isRight 0 0 := ⟨rfl, rfl, Nat.le_of_ble_eq_true rfl, Nat.le_of_ble_eq_true rfl⟩
theorem rk_Fl_isRight_St_has : RK rm_Fl_isRight rm_St_has yy_St_has 0 0 := ⟨rfl, rfl, Nat.le_of_ble_eq_true rfl, Nat.le_of_ble_eq_true rfl⟩
theorem rk_Fl_isRight_Fl_argumentsAreRight : RK rm_Fl_isRight rm_Fl_argumentsAreRight yy_Fl_argumentsAreRight 0 0 := ⟨rfl, rfl, Nat.le_of_ble_eq_true rfl, Nat.le_of_ble_eq_true rfl⟩
theorem rk_Fl_isRight_Pg_methodAt : RK rm_Fl_isRight rm_Pg_methodAt yy_Pg_methodAt 0 0 := ⟨rfl, rfl, Nat.le_of_ble_eq_true rfl, Nat.le_of_ble_eq_true rfl⟩
theorem rk_Fl_argumentsAreRight_Me_parameterAt : RK rm_Fl_argumentsAreRight rm_Me_parameterAt yy_Me_parameterAt 0 0 := ⟨rfl, rfl, Nat.le_of_ble_eq_true rfl, Nat.le_of_ble_eq_true rfl⟩
theorem rk_Fl_argumentsAreRight_St_has : RK rm_Fl_argumentsAreRight rm_St_has yy_St_has 0 0 := ⟨rfl, rfl, Nat.le_of_ble_eq_true rfl, Nat.le_of_ble_eq_true rfl⟩
theorem rk_Fl_argumentsAreRight_V_widthOf : RK rm_Fl_argumentsAreRight rm_V_widthOf yy_V_widthOf 0 0 := ⟨rfl, rfl, Nat.le_of_ble_eq_true rfl, Nat.le_of_ble_eq_true rfl⟩
theorem rk_Fl_argumentsAreRight_St_named : RK rm_Fl_argumentsAreRight rm_St_named yy_St_named 0 0 := ⟨rfl, rfl, Nat.le_of_ble_eq_true rfl, Nat.le_of_ble_eq_true rfl⟩
theorem rk_V_load_V_takeFile : RK rm_V_load rm_V_takeFile yy_V_takeFile 0 0 := ⟨rfl, rfl, Nat.le_of_ble_eq_true rfl, Nat.le_of_ble_eq_true rfl⟩
theorem rk_V_call_Ag_clear : RK rm_V_call rm_Ag_clear yy_Ag_clear 0 0 := ⟨rfl, rfl, Nat.le_of_ble_eq_true rfl, Nat.le_of_ble_eq_true rfl⟩
theorem rk_V_call_V_beginCall : RK rm_V_call rm_V_beginCall yy_V_beginCall 0 0 := ⟨rfl, rfl, Nat.le_of_ble_eq_true rfl, Nat.le_of_ble_eq_true rfl⟩
theorem rk_V_beginCall_Mc_begin : RK rm_V_beginCall rm_Mc_begin yy_Mc_begin 0 0 := ⟨rfl, rfl, Nat.le_of_ble_eq_true rfl, Nat.le_of_ble_eq_true rfl⟩
theorem rk_V_beginCall_Pg_methodAt : RK rm_V_beginCall rm_Pg_methodAt yy_Pg_methodAt 0 0 := ⟨rfl, rfl, Nat.le_of_ble_eq_true rfl, Nat.le_of_ble_eq_true rfl⟩
theorem rk_V_beginCall_Ag_suit : RK rm_V_beginCall rm_Ag_suit yy_Ag_suit 0 0 := ⟨rfl, rfl, Nat.le_of_ble_eq_true rfl, Nat.le_of_ble_eq_true rfl⟩
theorem rk_Ag_suit_Me_parameterAt : RK rm_Ag_suit rm_Me_parameterAt yy_Me_parameterAt 0 0 := ⟨rfl, rfl, Nat.le_of_ble_eq_true rfl, Nat.le_of_ble_eq_true rfl⟩
theorem rk_Mc_begin_Fr_enter : RK rm_Mc_begin rm_Fr_enter yy_Fr_enter 0 0 := ⟨rfl, rfl, Nat.le_of_ble_eq_true rfl, Nat.le_of_ble_eq_true rfl⟩
theorem rk_Mc_begin_Ag_copyTo : RK rm_Mc_begin rm_Ag_copyTo yy_Ag_copyTo 0 0 := ⟨rfl, rfl, Nat.le_of_ble_eq_true rfl, Nat.le_of_ble_eq_true rfl⟩
theorem rk_Ag_copyTo_V_widthOf : RK rm_Ag_copyTo rm_V_widthOf yy_V_widthOf 0 0 := ⟨rfl, rfl, Nat.le_of_ble_eq_true rfl, Nat.le_of_ble_eq_true rfl⟩
theorem rk_Ag_copyTo_Me_firstArgument : RK rm_Ag_copyTo rm_Me_firstArgument yy_Me_firstArgument 0 0 := ⟨rfl, rfl, Nat.le_of_ble_eq_true rfl, Nat.le_of_ble_eq_true rfl⟩
theorem rk_Ag_copyTo_Fr_set : RK rm_Ag_copyTo rm_Fr_set yy_Fr_set 0 0 := ⟨rfl, rfl, Nat.le_of_ble_eq_true rfl, Nat.le_of_ble_eq_true rfl⟩
theorem rk_V_run_Mc_advance : RK rm_V_run rm_Mc_advance yy_Mc_advance 0 0 := ⟨rfl, rfl, Nat.le_of_ble_eq_true rfl, Nat.le_of_ble_eq_true rfl⟩
theorem rk_Mc_advance_Mc_frameAt : RK rm_Mc_advance rm_Mc_frameAt yy_Mc_frameAt 0 0 := ⟨rfl, rfl, Nat.le_of_ble_eq_true rfl, Nat.le_of_ble_eq_true rfl⟩
theorem rk_Mc_advance_Mc_perform : RK rm_Mc_advance rm_Mc_perform yy_Mc_perform 0 0 := ⟨rfl, rfl, Nat.le_of_ble_eq_true rfl, Nat.le_of_ble_eq_true rfl⟩
theorem rk_Mc_advance_Fr_nextStep : RK rm_Mc_advance rm_Fr_nextStep yy_Fr_nextStep 0 0 := ⟨rfl, rfl, Nat.le_of_ble_eq_true rfl, Nat.le_of_ble_eq_true rfl⟩
theorem rk_Fr_nextStep_Me_stepAt : RK rm_Fr_nextStep rm_Me_stepAt yy_Me_stepAt 0 0 := ⟨rfl, rfl, Nat.le_of_ble_eq_true rfl, Nat.le_of_ble_eq_true rfl⟩
theorem rk_Mc_perform_Pg_fieldAt : RK rm_Mc_perform rm_Pg_fieldAt yy_Pg_fieldAt 0 0 := ⟨rfl, rfl, Nat.le_of_ble_eq_true rfl, Nat.le_of_ble_eq_true rfl⟩
theorem rk_Mc_perform_Mc_leave : RK rm_Mc_perform rm_Mc_leave yy_Mc_leave 0 0 := ⟨rfl, rfl, Nat.le_of_ble_eq_true rfl, Nat.le_of_ble_eq_true rfl⟩
theorem rk_Mc_perform_Mc_holds : RK rm_Mc_perform rm_Mc_holds yy_Mc_holds 0 0 := ⟨rfl, rfl, Nat.le_of_ble_eq_true rfl, Nat.le_of_ble_eq_true rfl⟩
theorem rk_Mc_perform_Fr_whole : RK rm_Mc_perform rm_Fr_whole yy_Fr_whole 0 0 := ⟨rfl, rfl, Nat.le_of_ble_eq_true rfl, Nat.le_of_ble_eq_true rfl⟩
theorem rk_Mc_perform_Mc_enter : RK rm_Mc_perform rm_Mc_enter yy_Mc_enter 0 0 := ⟨rfl, rfl, Nat.le_of_ble_eq_true rfl, Nat.le_of_ble_eq_true rfl⟩
theorem rk_Mc_perform_Mc_combine : RK rm_Mc_perform rm_Mc_combine yy_Mc_combine 0 0 := ⟨rfl, rfl, Nat.le_of_ble_eq_true rfl, Nat.le_of_ble_eq_true rfl⟩
theorem rk_Mc_perform_Fr_set : RK rm_Mc_perform rm_Fr_set yy_Fr_set 0 0 := ⟨rfl, rfl, Nat.le_of_ble_eq_true rfl, Nat.le_of_ble_eq_true rfl⟩
theorem rk_Mc_perform_Mc_convert : RK rm_Mc_perform rm_Mc_convert yy_Mc_convert 0 0 := ⟨rfl, rfl, Nat.le_of_ble_eq_true rfl, Nat.le_of_ble_eq_true rfl⟩
theorem rk_Mc_perform_Pg_methodAt : RK rm_Mc_perform rm_Pg_methodAt yy_Pg_methodAt 0 0 := ⟨rfl, rfl, Nat.le_of_ble_eq_true rfl, Nat.le_of_ble_eq_true rfl⟩
theorem rk_Mc_perform_Pg_setField : RK rm_Mc_perform rm_Pg_setField yy_Pg_setField 0 0 := ⟨rfl, rfl, Nat.le_of_ble_eq_true rfl, Nat.le_of_ble_eq_true rfl⟩
theorem rk_Mc_leave_Fr_whole : RK rm_Mc_leave rm_Fr_whole yy_Fr_whole 0 0 := ⟨rfl, rfl, Nat.le_of_ble_eq_true rfl, Nat.le_of_ble_eq_true rfl⟩
theorem rk_Mc_leave_Fr_realNumber : RK rm_Mc_leave rm_Fr_realNumber yy_Fr_realNumber 0 0 := ⟨rfl, rfl, Nat.le_of_ble_eq_true rfl, Nat.le_of_ble_eq_true rfl⟩
theorem rk_Mc_convert_Fr_whole : RK rm_Mc_convert rm_Fr_whole yy_Fr_whole 0 0 := ⟨rfl, rfl, Nat.le_of_ble_eq_true rfl, Nat.le_of_ble_eq_true rfl⟩
theorem rk_Mc_convert_Fr_set : RK rm_Mc_convert rm_Fr_set yy_Fr_set 0 0 := ⟨rfl, rfl, Nat.le_of_ble_eq_true rfl, Nat.le_of_ble_eq_true rfl⟩
theorem rk_Mc_convert_Fr_realNumber : RK rm_Mc_convert rm_Fr_realNumber yy_Fr_realNumber 0 0 := ⟨rfl, rfl, Nat.le_of_ble_eq_true rfl, Nat.le_of_ble_eq_true rfl⟩
theorem rk_Mc_combine_Jl_compare : RK rm_Mc_combine rm_Jl_compare yy_Jl_compare 0 0 := ⟨rfl, rfl, Nat.le_of_ble_eq_true rfl, Nat.le_of_ble_eq_true rfl⟩
theorem rk_Mc_combine_Ar_divides : RK rm_Mc_combine rm_Ar_divides yy_Ar_divides 0 0 := ⟨rfl, rfl, Nat.le_of_ble_eq_true rfl, Nat.le_of_ble_eq_true rfl⟩
theorem rk_Mc_combine_Fr_realNumber : RK rm_Mc_combine rm_Fr_realNumber yy_Fr_realNumber 0 0 := ⟨rfl, rfl, Nat.le_of_ble_eq_true rfl, Nat.le_of_ble_eq_true rfl⟩
theorem rk_Mc_combine_Fr_whole : RK rm_Mc_combine rm_Fr_whole yy_Fr_whole 0 0 := ⟨rfl, rfl, Nat.le_of_ble_eq_true rfl, Nat.le_of_ble_eq_true rfl⟩
theorem rk_Mc_combine_Ar_ofLongs : RK rm_Mc_combine rm_Ar_ofLongs yy_Ar_ofLongs 0 0 := ⟨rfl, rfl, Nat.le_of_ble_eq_true rfl, Nat.le_of_ble_eq_true rfl⟩
theorem rk_Mc_combine_Ar_compareReals : RK rm_Mc_combine rm_Ar_compareReals yy_Ar_compareReals 0 0 := ⟨rfl, rfl, Nat.le_of_ble_eq_true rfl, Nat.le_of_ble_eq_true rfl⟩
theorem rk_Mc_combine_Fr_set : RK rm_Mc_combine rm_Fr_set yy_Fr_set 0 0 := ⟨rfl, rfl, Nat.le_of_ble_eq_true rfl, Nat.le_of_ble_eq_true rfl⟩
theorem rk_Mc_combine_Ar_ofFloats : RK rm_Mc_combine rm_Ar_ofFloats yy_Ar_ofFloats 0 0 := ⟨rfl, rfl, Nat.le_of_ble_eq_true rfl, Nat.le_of_ble_eq_true rfl⟩
theorem rk_Mc_combine_Ar_held : RK rm_Mc_combine rm_Ar_held yy_Ar_held 0 0 := ⟨rfl, rfl, Nat.le_of_ble_eq_true rfl, Nat.le_of_ble_eq_true rfl⟩
theorem rk_Mc_combine_Ar_ofInts : RK rm_Mc_combine rm_Ar_ofInts yy_Ar_ofInts 0 0 := ⟨rfl, rfl, Nat.le_of_ble_eq_true rfl, Nat.le_of_ble_eq_true rfl⟩
theorem rk_Mc_combine_Mc_stop : RK rm_Mc_combine rm_Mc_stop yy_Mc_stop 0 0 := ⟨rfl, rfl, Nat.le_of_ble_eq_true rfl, Nat.le_of_ble_eq_true rfl⟩
theorem rk_Mc_combine_Ar_ofDoubles : RK rm_Mc_combine rm_Ar_ofDoubles yy_Ar_ofDoubles 0 0 := ⟨rfl, rfl, Nat.le_of_ble_eq_true rfl, Nat.le_of_ble_eq_true rfl⟩
theorem rk_Mc_holds_Fr_whole : RK rm_Mc_holds rm_Fr_whole yy_Fr_whole 0 0 := ⟨rfl, rfl, Nat.le_of_ble_eq_true rfl, Nat.le_of_ble_eq_true rfl⟩
theorem rk_Pg_setField_Pg_hasField : RK rm_Pg_setField rm_Pg_hasField yy_Pg_hasField 0 0 := ⟨rfl, rfl, Nat.le_of_ble_eq_true rfl, Nat.le_of_ble_eq_true rfl⟩
theorem rk_Mc_enter_Me_parameterAt : RK rm_Mc_enter rm_Me_parameterAt yy_Me_parameterAt 0 0 := ⟨rfl, rfl, Nat.le_of_ble_eq_true rfl, Nat.le_of_ble_eq_true rfl⟩
theorem rk_Mc_enter_V_widthOf : RK rm_Mc_enter rm_V_widthOf yy_V_widthOf 0 0 := ⟨rfl, rfl, Nat.le_of_ble_eq_true rfl, Nat.le_of_ble_eq_true rfl⟩
theorem rk_Mc_enter_Me_firstArgument : RK rm_Mc_enter rm_Me_firstArgument yy_Me_firstArgument 0 0 := ⟨rfl, rfl, Nat.le_of_ble_eq_true rfl, Nat.le_of_ble_eq_true rfl⟩
theorem rk_Mc_enter_Fr_realNumber : RK rm_Mc_enter rm_Fr_realNumber yy_Fr_realNumber 0 0 := ⟨rfl, rfl, Nat.le_of_ble_eq_true rfl, Nat.le_of_ble_eq_true rfl⟩
theorem rk_Mc_enter_Mc_frameAt : RK rm_Mc_enter rm_Mc_frameAt yy_Mc_frameAt 0 0 := ⟨rfl, rfl, Nat.le_of_ble_eq_true rfl, Nat.le_of_ble_eq_true rfl⟩
theorem rk_Mc_enter_Fr_enter : RK rm_Mc_enter rm_Fr_enter yy_Fr_enter 0 0 := ⟨rfl, rfl, Nat.le_of_ble_eq_true rfl, Nat.le_of_ble_eq_true rfl⟩
theorem rk_Mc_enter_Fr_whole : RK rm_Mc_enter rm_Fr_whole yy_Fr_whole 0 0 := ⟨rfl, rfl, Nat.le_of_ble_eq_true rfl, Nat.le_of_ble_eq_true rfl⟩
theorem rk_Mc_enter_Fr_set : RK rm_Mc_enter rm_Fr_set yy_Fr_set 0 0 := ⟨rfl, rfl, Nat.le_of_ble_eq_true rfl, Nat.le_of_ble_eq_true rfl⟩
theorem rk_Mc_enter_St_named : RK rm_Mc_enter rm_St_named yy_St_named 0 0 := ⟨rfl, rfl, Nat.le_of_ble_eq_true rfl, Nat.le_of_ble_eq_true rfl⟩
theorem rk_Mc_enter_Mc_stop : RK rm_Mc_enter rm_Mc_stop yy_Mc_stop 0 0 := ⟨rfl, rfl, Nat.le_of_ble_eq_true rfl, Nat.le_of_ble_eq_true rfl⟩
theorem rk_Mo_load_Mo_keepFile : RK rm_Mo_load rm_Mo_keepFile yy_Mo_keepFile 0 0 := ⟨rfl, rfl, Nat.le_of_ble_eq_true rfl, Nat.le_of_ble_eq_true rfl⟩
theorem rk_Mo_load_Mo_fail : RK rm_Mo_load rm_Mo_fail yy_Mo_fail 0 0 := ⟨rfl, rfl, Nat.le_of_ble_eq_true rfl, Nat.le_of_ble_eq_true rfl⟩
theorem rk_Mo_load_Mo_readFile : RK rm_Mo_load rm_Mo_readFile yy_Mo_readFile 0 0 := ⟨rfl, rfl, Nat.le_of_ble_eq_true rfl, Nat.le_of_ble_eq_true rfl⟩
theorem rk_Mo_readFile_Mo_readMethod : RK rm_Mo_readFile rm_Mo_readMethod yy_Mo_readMethod 0 0 := ⟨rfl, rfl, Nat.le_of_ble_eq_true rfl, Nat.le_of_ble_eq_true rfl⟩
theorem rk_Mo_readFile_Mo_checkOf : RK rm_Mo_readFile rm_Mo_checkOf yy_Mo_checkOf 0 0 := ⟨rfl, rfl, Nat.le_of_ble_eq_true rfl, Nat.le_of_ble_eq_true rfl⟩
theorem rk_Mo_readFile_Mo_next : RK rm_Mo_readFile rm_Mo_next yy_Mo_next 0 0 := ⟨rfl, rfl, Nat.le_of_ble_eq_true rfl, Nat.le_of_ble_eq_true rfl⟩
theorem rk_Mo_readMethod_Mo_paramWords : RK rm_Mo_readMethod rm_Mo_paramWords yy_Mo_paramWords 0 0 := ⟨rfl, rfl, Nat.le_of_ble_eq_true rfl, Nat.le_of_ble_eq_true rfl⟩
theorem rk_Mo_readMethod_Mo_next : RK rm_Mo_readMethod rm_Mo_next yy_Mo_next 0 0 := ⟨rfl, rfl, Nat.le_of_ble_eq_true rfl, Nat.le_of_ble_eq_true rfl⟩
theorem rk_Mo_paramWords_Mo_words : RK rm_Mo_paramWords rm_Mo_words yy_Mo_words 0 0 := ⟨rfl, rfl, Nat.le_of_ble_eq_true rfl, Nat.le_of_ble_eq_true rfl⟩
theorem rk_Mo_keepFile_Mo_verifyMethod : RK rm_Mo_keepFile rm_Mo_verifyMethod yy_Mo_verifyMethod 0 0 := ⟨rfl, rfl, Nat.le_of_ble_eq_true rfl, Nat.le_of_ble_eq_true rfl⟩
theorem rk_Mo_keepFile_Mo_idle : RK rm_Mo_keepFile rm_Mo_idle yy_Mo_idle 0 0 := ⟨rfl, rfl, Nat.le_of_ble_eq_true rfl, Nat.le_of_ble_eq_true rfl⟩
theorem rk_Mo_verifyMethod_Mo_findBeginnings : RK rm_Mo_verifyMethod rm_Mo_findBeginnings yy_Mo_findBeginnings 0 0 := ⟨rfl, rfl, Nat.le_of_ble_eq_true rfl, Nat.le_of_ble_eq_true rfl⟩
theorem rk_Mo_verifyMethod_Mo_step1 : RK rm_Mo_verifyMethod rm_Mo_step1 yy_Mo_step1 0 0 := ⟨rfl, rfl, Nat.le_of_ble_eq_true rfl, Nat.le_of_ble_eq_true rfl⟩
theorem rk_Mo_verifyMethod_Mo_begin : RK rm_Mo_verifyMethod rm_Mo_begin yy_Mo_begin 0 0 := ⟨rfl, rfl, Nat.le_of_ble_eq_true rfl, Nat.le_of_ble_eq_true rfl⟩
theorem rk_Mo_verifyMethod_Mo_firstIllFormed : RK rm_Mo_verifyMethod rm_Mo_firstIllFormed yy_Mo_firstIllFormed 0 0 := ⟨rfl, rfl, Nat.le_of_ble_eq_true rfl, Nat.le_of_ble_eq_true rfl⟩
theorem rk_Mo_findBeginnings_Mo_op : RK rm_Mo_findBeginnings rm_Mo_op yy_Mo_op 0 0 := ⟨rfl, rfl, Nat.le_of_ble_eq_true rfl, Nat.le_of_ble_eq_true rfl⟩
theorem rk_Mo_findBeginnings_Mo_sizeOf : RK rm_Mo_findBeginnings rm_Mo_sizeOf yy_Mo_sizeOf 0 0 := ⟨rfl, rfl, Nat.le_of_ble_eq_true rfl, Nat.le_of_ble_eq_true rfl⟩
theorem rk_Mo_op_Mo_unit : RK rm_Mo_op rm_Mo_unit yy_Mo_unit 0 0 := ⟨rfl, rfl, Nat.le_of_ble_eq_true rfl, Nat.le_of_ble_eq_true rfl⟩
theorem rk_Mo_sizeOf_Mo_compares : RK rm_Mo_sizeOf rm_Mo_compares yy_Mo_compares 0 0 := ⟨rfl, rfl, Nat.le_of_ble_eq_true rfl, Nat.le_of_ble_eq_true rfl⟩
theorem rk_Mo_sizeOf_Mo_joins : RK rm_Mo_sizeOf rm_Mo_joins yy_Mo_joins 0 0 := ⟨rfl, rfl, Nat.le_of_ble_eq_true rfl, Nat.le_of_ble_eq_true rfl⟩
theorem rk_Mo_sizeOf_Mo_converts : RK rm_Mo_sizeOf rm_Mo_converts yy_Mo_converts 0 0 := ⟨rfl, rfl, Nat.le_of_ble_eq_true rfl, Nat.le_of_ble_eq_true rfl⟩
theorem rk_Mo_firstIllFormed_Mo_op : RK rm_Mo_firstIllFormed rm_Mo_op yy_Mo_op 0 0 := ⟨rfl, rfl, Nat.le_of_ble_eq_true rfl, Nat.le_of_ble_eq_true rfl⟩
theorem rk_Mo_firstIllFormed_Mo_kindGood : RK rm_Mo_firstIllFormed rm_Mo_kindGood yy_Mo_kindGood 0 0 := ⟨rfl, rfl, Nat.le_of_ble_eq_true rfl, Nat.le_of_ble_eq_true rfl⟩
theorem rk_Mo_firstIllFormed_Mo_branches : RK rm_Mo_firstIllFormed rm_Mo_branches yy_Mo_branches 0 0 := ⟨rfl, rfl, Nat.le_of_ble_eq_true rfl, Nat.le_of_ble_eq_true rfl⟩
theorem rk_Mo_firstIllFormed_Mo_ends : RK rm_Mo_firstIllFormed rm_Mo_ends yy_Mo_ends 0 0 := ⟨rfl, rfl, Nat.le_of_ble_eq_true rfl, Nat.le_of_ble_eq_true rfl⟩
theorem rk_Mo_firstIllFormed_Mo_target : RK rm_Mo_firstIllFormed rm_Mo_target yy_Mo_target 0 0 := ⟨rfl, rfl, Nat.le_of_ble_eq_true rfl, Nat.le_of_ble_eq_true rfl⟩
theorem rk_Mo_firstIllFormed_Mo_sizeOf : RK rm_Mo_firstIllFormed rm_Mo_sizeOf yy_Mo_sizeOf 0 0 := ⟨rfl, rfl, Nat.le_of_ble_eq_true rfl, Nat.le_of_ble_eq_true rfl⟩
theorem rk_Mo_firstIllFormed_Mo_mayGo : RK rm_Mo_firstIllFormed rm_Mo_mayGo yy_Mo_mayGo 0 0 := ⟨rfl, rfl, Nat.le_of_ble_eq_true rfl, Nat.le_of_ble_eq_true rfl⟩
theorem rk_Mo_firstIllFormed_Mo_namesGood : RK rm_Mo_firstIllFormed rm_Mo_namesGood yy_Mo_namesGood 0 0 := ⟨rfl, rfl, Nat.le_of_ble_eq_true rfl, Nat.le_of_ble_eq_true rfl⟩
theorem rk_Mo_namesGood_Mo_op : RK rm_Mo_namesGood rm_Mo_op yy_Mo_op 0 0 := ⟨rfl, rfl, Nat.le_of_ble_eq_true rfl, Nat.le_of_ble_eq_true rfl⟩
theorem rk_Mo_namesGood_Mo_regB : RK rm_Mo_namesGood rm_Mo_regB yy_Mo_regB 0 0 := ⟨rfl, rfl, Nat.le_of_ble_eq_true rfl, Nat.le_of_ble_eq_true rfl⟩
theorem rk_Mo_namesGood_Mo_compared : RK rm_Mo_namesGood rm_Mo_compared yy_Mo_compared 0 0 := ⟨rfl, rfl, Nat.le_of_ble_eq_true rfl, Nat.le_of_ble_eq_true rfl⟩
theorem rk_Mo_namesGood_Mo_compares : RK rm_Mo_namesGood rm_Mo_compares yy_Mo_compares 0 0 := ⟨rfl, rfl, Nat.le_of_ble_eq_true rfl, Nat.le_of_ble_eq_true rfl⟩
theorem rk_Mo_namesGood_Mo_argumentsThere : RK rm_Mo_namesGood rm_Mo_argumentsThere yy_Mo_argumentsThere 0 0 := ⟨rfl, rfl, Nat.le_of_ble_eq_true rfl, Nat.le_of_ble_eq_true rfl⟩
theorem rk_Mo_namesGood_Mo_regAA : RK rm_Mo_namesGood rm_Mo_regAA yy_Mo_regAA 0 0 := ⟨rfl, rfl, Nat.le_of_ble_eq_true rfl, Nat.le_of_ble_eq_true rfl⟩
theorem rk_Mo_namesGood_Mo_has : RK rm_Mo_namesGood rm_Mo_has yy_Mo_has 0 0 := ⟨rfl, rfl, Nat.le_of_ble_eq_true rfl, Nat.le_of_ble_eq_true rfl⟩
theorem rk_Mo_namesGood_Mo_takes : RK rm_Mo_namesGood rm_Mo_takes yy_Mo_takes 0 0 := ⟨rfl, rfl, Nat.le_of_ble_eq_true rfl, Nat.le_of_ble_eq_true rfl⟩
theorem rk_Mo_namesGood_Mo_regA : RK rm_Mo_namesGood rm_Mo_regA yy_Mo_regA 0 0 := ⟨rfl, rfl, Nat.le_of_ble_eq_true rfl, Nat.le_of_ble_eq_true rfl⟩
theorem rk_Mo_namesGood_Mo_joined : RK rm_Mo_namesGood rm_Mo_joined yy_Mo_joined 0 0 := ⟨rfl, rfl, Nat.le_of_ble_eq_true rfl, Nat.le_of_ble_eq_true rfl⟩
theorem rk_Mo_namesGood_Mo_regD : RK rm_Mo_namesGood rm_Mo_regD yy_Mo_regD 0 0 := ⟨rfl, rfl, Nat.le_of_ble_eq_true rfl, Nat.le_of_ble_eq_true rfl⟩
theorem rk_Mo_namesGood_Mo_regC : RK rm_Mo_namesGood rm_Mo_regC yy_Mo_regC 0 0 := ⟨rfl, rfl, Nat.le_of_ble_eq_true rfl, Nat.le_of_ble_eq_true rfl⟩
theorem rk_Mo_namesGood_Mo_number : RK rm_Mo_namesGood rm_Mo_number yy_Mo_number 0 0 := ⟨rfl, rfl, Nat.le_of_ble_eq_true rfl, Nat.le_of_ble_eq_true rfl⟩
theorem rk_Mo_namesGood_Mo_gives : RK rm_Mo_namesGood rm_Mo_gives yy_Mo_gives 0 0 := ⟨rfl, rfl, Nat.le_of_ble_eq_true rfl, Nat.le_of_ble_eq_true rfl⟩
theorem rk_Mo_namesGood_Mo_joins : RK rm_Mo_namesGood rm_Mo_joins yy_Mo_joins 0 0 := ⟨rfl, rfl, Nat.le_of_ble_eq_true rfl, Nat.le_of_ble_eq_true rfl⟩
theorem rk_Mo_namesGood_Mo_converts : RK rm_Mo_namesGood rm_Mo_converts yy_Mo_converts 0 0 := ⟨rfl, rfl, Nat.le_of_ble_eq_true rfl, Nat.le_of_ble_eq_true rfl⟩
theorem rk_Mo_regA_Mo_unit : RK rm_Mo_regA rm_Mo_unit yy_Mo_unit 0 0 := ⟨rfl, rfl, Nat.le_of_ble_eq_true rfl, Nat.le_of_ble_eq_true rfl⟩
theorem rk_Mo_has_Mo_words : RK rm_Mo_has rm_Mo_words yy_Mo_words 0 0 := ⟨rfl, rfl, Nat.le_of_ble_eq_true rfl, Nat.le_of_ble_eq_true rfl⟩
theorem rk_Mo_regB_Mo_unit : RK rm_Mo_regB rm_Mo_unit yy_Mo_unit 0 0 := ⟨rfl, rfl, Nat.le_of_ble_eq_true rfl, Nat.le_of_ble_eq_true rfl⟩
theorem rk_Mo_regAA_Mo_unit : RK rm_Mo_regAA rm_Mo_unit yy_Mo_unit 0 0 := ⟨rfl, rfl, Nat.le_of_ble_eq_true rfl, Nat.le_of_ble_eq_true rfl⟩
theorem rk_Mo_regC_Mo_unit : RK rm_Mo_regC rm_Mo_unit yy_Mo_unit 0 0 := ⟨rfl, rfl, Nat.le_of_ble_eq_true rfl, Nat.le_of_ble_eq_true rfl⟩
theorem rk_Mo_regD_Mo_unit : RK rm_Mo_regD rm_Mo_unit yy_Mo_unit 0 0 := ⟨rfl, rfl, Nat.le_of_ble_eq_true rfl, Nat.le_of_ble_eq_true rfl⟩
theorem rk_Mo_number_Mo_unit : RK rm_Mo_number rm_Mo_unit yy_Mo_unit 0 0 := ⟨rfl, rfl, Nat.le_of_ble_eq_true rfl, Nat.le_of_ble_eq_true rfl⟩
theorem rk_Mo_argumentsThere_Mo_regB : RK rm_Mo_argumentsThere rm_Mo_regB yy_Mo_regB 0 0 := ⟨rfl, rfl, Nat.le_of_ble_eq_true rfl, Nat.le_of_ble_eq_true rfl⟩
theorem rk_Mo_argumentsThere_Mo_paramWords : RK rm_Mo_argumentsThere rm_Mo_paramWords yy_Mo_paramWords 0 0 := ⟨rfl, rfl, Nat.le_of_ble_eq_true rfl, Nat.le_of_ble_eq_true rfl⟩
theorem rk_Mo_argumentsThere_Mo_argument : RK rm_Mo_argumentsThere rm_Mo_argument yy_Mo_argument 0 0 := ⟨rfl, rfl, Nat.le_of_ble_eq_true rfl, Nat.le_of_ble_eq_true rfl⟩
theorem rk_Mo_argumentsThere_Mo_words : RK rm_Mo_argumentsThere rm_Mo_words yy_Mo_words 0 0 := ⟨rfl, rfl, Nat.le_of_ble_eq_true rfl, Nat.le_of_ble_eq_true rfl⟩
theorem rk_Mo_argumentsThere_Mo_number : RK rm_Mo_argumentsThere rm_Mo_number yy_Mo_number 0 0 := ⟨rfl, rfl, Nat.le_of_ble_eq_true rfl, Nat.le_of_ble_eq_true rfl⟩
theorem rk_Mo_argumentsThere_Mo_has : RK rm_Mo_argumentsThere rm_Mo_has yy_Mo_has 0 0 := ⟨rfl, rfl, Nat.le_of_ble_eq_true rfl, Nat.le_of_ble_eq_true rfl⟩
theorem rk_Mo_argument_Mo_unit : RK rm_Mo_argument rm_Mo_unit yy_Mo_unit 0 0 := ⟨rfl, rfl, Nat.le_of_ble_eq_true rfl, Nat.le_of_ble_eq_true rfl⟩
theorem rk_Mo_kindGood_Mo_op : RK rm_Mo_kindGood rm_Mo_op yy_Mo_op 0 0 := ⟨rfl, rfl, Nat.le_of_ble_eq_true rfl, Nat.le_of_ble_eq_true rfl⟩
theorem rk_Mo_kindGood_Mo_isResult : RK rm_Mo_kindGood rm_Mo_isResult yy_Mo_isResult 0 0 := ⟨rfl, rfl, Nat.le_of_ble_eq_true rfl, Nat.le_of_ble_eq_true rfl⟩
theorem rk_Mo_kindGood_Mo_number : RK rm_Mo_kindGood rm_Mo_number yy_Mo_number 0 0 := ⟨rfl, rfl, Nat.le_of_ble_eq_true rfl, Nat.le_of_ble_eq_true rfl⟩
theorem rk_Mo_kindGood_Mo_words : RK rm_Mo_kindGood rm_Mo_words yy_Mo_words 0 0 := ⟨rfl, rfl, Nat.le_of_ble_eq_true rfl, Nat.le_of_ble_eq_true rfl⟩
theorem rk_Mo_isResult_Mo_op : RK rm_Mo_isResult rm_Mo_op yy_Mo_op 0 0 := ⟨rfl, rfl, Nat.le_of_ble_eq_true rfl, Nat.le_of_ble_eq_true rfl⟩
theorem rk_Mo_mayGo_Mo_isResult : RK rm_Mo_mayGo rm_Mo_isResult yy_Mo_isResult 0 0 := ⟨rfl, rfl, Nat.le_of_ble_eq_true rfl, Nat.le_of_ble_eq_true rfl⟩
theorem rk_Mo_target_Mo_op : RK rm_Mo_target rm_Mo_op yy_Mo_op 0 0 := ⟨rfl, rfl, Nat.le_of_ble_eq_true rfl, Nat.le_of_ble_eq_true rfl⟩
theorem rk_Mo_target_Mo_number : RK rm_Mo_target rm_Mo_number yy_Mo_number 0 0 := ⟨rfl, rfl, Nat.le_of_ble_eq_true rfl, Nat.le_of_ble_eq_true rfl⟩
theorem rk_Mo_target_Mo_regAA : RK rm_Mo_target rm_Mo_regAA yy_Mo_regAA 0 0 := ⟨rfl, rfl, Nat.le_of_ble_eq_true rfl, Nat.le_of_ble_eq_true rfl⟩
theorem rk_Mo_begin_Mo_flow : RK rm_Mo_begin rm_Mo_flow yy_Mo_flow 0 0 := ⟨rfl, rfl, Nat.le_of_ble_eq_true rfl, Nat.le_of_ble_eq_true rfl⟩
theorem rk_Mo_begin_Mo_words : RK rm_Mo_begin rm_Mo_words yy_Mo_words 0 0 := ⟨rfl, rfl, Nat.le_of_ble_eq_true rfl, Nat.le_of_ble_eq_true rfl⟩
theorem rk_Mo_begin_Mo_set : RK rm_Mo_begin rm_Mo_set yy_Mo_set 0 0 := ⟨rfl, rfl, Nat.le_of_ble_eq_true rfl, Nat.le_of_ble_eq_true rfl⟩
theorem rk_Mo_begin_Mo_paramWords : RK rm_Mo_begin rm_Mo_paramWords yy_Mo_paramWords 0 0 := ⟨rfl, rfl, Nat.le_of_ble_eq_true rfl, Nat.le_of_ble_eq_true rfl⟩
theorem rk_Mo_set_Mo_loosen : RK rm_Mo_set rm_Mo_loosen yy_Mo_loosen 0 0 := ⟨rfl, rfl, Nat.le_of_ble_eq_true rfl, Nat.le_of_ble_eq_true rfl⟩
theorem rk_Mo_set_Mo_firstOf : RK rm_Mo_set rm_Mo_firstOf yy_Mo_firstOf 0 0 := ⟨rfl, rfl, Nat.le_of_ble_eq_true rfl, Nat.le_of_ble_eq_true rfl⟩
theorem rk_Mo_step1_Mo_op : RK rm_Mo_step1 rm_Mo_op yy_Mo_op 0 0 := ⟨rfl, rfl, Nat.le_of_ble_eq_true rfl, Nat.le_of_ble_eq_true rfl⟩
theorem rk_Mo_step1_Mo_branches : RK rm_Mo_step1 rm_Mo_branches yy_Mo_branches 0 0 := ⟨rfl, rfl, Nat.le_of_ble_eq_true rfl, Nat.le_of_ble_eq_true rfl⟩
theorem rk_Mo_step1_Mo_ends : RK rm_Mo_step1 rm_Mo_ends yy_Mo_ends 0 0 := ⟨rfl, rfl, Nat.le_of_ble_eq_true rfl, Nat.le_of_ble_eq_true rfl⟩
theorem rk_Mo_step1_Mo_target : RK rm_Mo_step1 rm_Mo_target yy_Mo_target 0 0 := ⟨rfl, rfl, Nat.le_of_ble_eq_true rfl, Nat.le_of_ble_eq_true rfl⟩
theorem rk_Mo_step1_Mo_pass1 : RK rm_Mo_step1 rm_Mo_pass1 yy_Mo_pass1 0 0 := ⟨rfl, rfl, Nat.le_of_ble_eq_true rfl, Nat.le_of_ble_eq_true rfl⟩
theorem rk_Mo_step1_Mo_flow : RK rm_Mo_step1 rm_Mo_flow yy_Mo_flow 0 0 := ⟨rfl, rfl, Nat.le_of_ble_eq_true rfl, Nat.le_of_ble_eq_true rfl⟩
theorem rk_Mo_step1_Mo_sizeOf : RK rm_Mo_step1 rm_Mo_sizeOf yy_Mo_sizeOf 0 0 := ⟨rfl, rfl, Nat.le_of_ble_eq_true rfl, Nat.le_of_ble_eq_true rfl⟩
theorem rk_Mo_pass1_Mo_op : RK rm_Mo_pass1 rm_Mo_op yy_Mo_op 0 0 := ⟨rfl, rfl, Nat.le_of_ble_eq_true rfl, Nat.le_of_ble_eq_true rfl⟩
theorem rk_Mo_pass1_Mo_regB : RK rm_Mo_pass1 rm_Mo_regB yy_Mo_regB 0 0 := ⟨rfl, rfl, Nat.le_of_ble_eq_true rfl, Nat.le_of_ble_eq_true rfl⟩
theorem rk_Mo_pass1_Mo_converts : RK rm_Mo_pass1 rm_Mo_converts yy_Mo_converts 0 0 := ⟨rfl, rfl, Nat.le_of_ble_eq_true rfl, Nat.le_of_ble_eq_true rfl⟩
theorem rk_Mo_pass1_Mo_compared : RK rm_Mo_pass1 rm_Mo_compared yy_Mo_compared 0 0 := ⟨rfl, rfl, Nat.le_of_ble_eq_true rfl, Nat.le_of_ble_eq_true rfl⟩
theorem rk_Mo_pass1_Mo_compares : RK rm_Mo_pass1 rm_Mo_compares yy_Mo_compares 0 0 := ⟨rfl, rfl, Nat.le_of_ble_eq_true rfl, Nat.le_of_ble_eq_true rfl⟩
theorem rk_Mo_pass1_Mo_takes : RK rm_Mo_pass1 rm_Mo_takes yy_Mo_takes 0 0 := ⟨rfl, rfl, Nat.le_of_ble_eq_true rfl, Nat.le_of_ble_eq_true rfl⟩
theorem rk_Mo_pass1_Mo_joined : RK rm_Mo_pass1 rm_Mo_joined yy_Mo_joined 0 0 := ⟨rfl, rfl, Nat.le_of_ble_eq_true rfl, Nat.le_of_ble_eq_true rfl⟩
theorem rk_Mo_pass1_Mo_regA : RK rm_Mo_pass1 rm_Mo_regA yy_Mo_regA 0 0 := ⟨rfl, rfl, Nat.le_of_ble_eq_true rfl, Nat.le_of_ble_eq_true rfl⟩
theorem rk_Mo_pass1_Mo_need : RK rm_Mo_pass1 rm_Mo_need yy_Mo_need 0 0 := ⟨rfl, rfl, Nat.le_of_ble_eq_true rfl, Nat.le_of_ble_eq_true rfl⟩
theorem rk_Mo_pass1_Mo_regD : RK rm_Mo_pass1 rm_Mo_regD yy_Mo_regD 0 0 := ⟨rfl, rfl, Nat.le_of_ble_eq_true rfl, Nat.le_of_ble_eq_true rfl⟩
theorem rk_Mo_pass1_Mo_regC : RK rm_Mo_pass1 rm_Mo_regC yy_Mo_regC 0 0 := ⟨rfl, rfl, Nat.le_of_ble_eq_true rfl, Nat.le_of_ble_eq_true rfl⟩
theorem rk_Mo_pass1_Mo_passOther : RK rm_Mo_pass1 rm_Mo_passOther yy_Mo_passOther 0 0 := ⟨rfl, rfl, Nat.le_of_ble_eq_true rfl, Nat.le_of_ble_eq_true rfl⟩
theorem rk_Mo_pass1_Mo_typeAt : RK rm_Mo_pass1 rm_Mo_typeAt yy_Mo_typeAt 0 0 := ⟨rfl, rfl, Nat.le_of_ble_eq_true rfl, Nat.le_of_ble_eq_true rfl⟩
theorem rk_Mo_pass1_Mo_set : RK rm_Mo_pass1 rm_Mo_set yy_Mo_set 0 0 := ⟨rfl, rfl, Nat.le_of_ble_eq_true rfl, Nat.le_of_ble_eq_true rfl⟩
theorem rk_Mo_pass1_Mo_is : RK rm_Mo_pass1 rm_Mo_is yy_Mo_is 0 0 := ⟨rfl, rfl, Nat.le_of_ble_eq_true rfl, Nat.le_of_ble_eq_true rfl⟩
theorem rk_Mo_pass1_Mo_gives : RK rm_Mo_pass1 rm_Mo_gives yy_Mo_gives 0 0 := ⟨rfl, rfl, Nat.le_of_ble_eq_true rfl, Nat.le_of_ble_eq_true rfl⟩
theorem rk_Mo_pass1_Mo_joins : RK rm_Mo_pass1 rm_Mo_joins yy_Mo_joins 0 0 := ⟨rfl, rfl, Nat.le_of_ble_eq_true rfl, Nat.le_of_ble_eq_true rfl⟩
theorem rk_Mo_pass1_Mo_regAA : RK rm_Mo_pass1 rm_Mo_regAA yy_Mo_regAA 0 0 := ⟨rfl, rfl, Nat.le_of_ble_eq_true rfl, Nat.le_of_ble_eq_true rfl⟩
theorem rk_Mo_is_Mo_firstOf : RK rm_Mo_is rm_Mo_firstOf yy_Mo_firstOf 0 0 := ⟨rfl, rfl, Nat.le_of_ble_eq_true rfl, Nat.le_of_ble_eq_true rfl⟩
theorem rk_Mo_is_Mo_typeAt : RK rm_Mo_is rm_Mo_typeAt yy_Mo_typeAt 0 0 := ⟨rfl, rfl, Nat.le_of_ble_eq_true rfl, Nat.le_of_ble_eq_true rfl⟩
theorem rk_Mo_passOther_Mo_op : RK rm_Mo_passOther rm_Mo_op yy_Mo_op 0 0 := ⟨rfl, rfl, Nat.le_of_ble_eq_true rfl, Nat.le_of_ble_eq_true rfl⟩
theorem rk_Mo_passOther_Mo_regB : RK rm_Mo_passOther rm_Mo_regB yy_Mo_regB 0 0 := ⟨rfl, rfl, Nat.le_of_ble_eq_true rfl, Nat.le_of_ble_eq_true rfl⟩
theorem rk_Mo_passOther_Mo_number : RK rm_Mo_passOther rm_Mo_number yy_Mo_number 0 0 := ⟨rfl, rfl, Nat.le_of_ble_eq_true rfl, Nat.le_of_ble_eq_true rfl⟩
theorem rk_Mo_passOther_Mo_regA : RK rm_Mo_passOther rm_Mo_regA yy_Mo_regA 0 0 := ⟨rfl, rfl, Nat.le_of_ble_eq_true rfl, Nat.le_of_ble_eq_true rfl⟩
theorem rk_Mo_passOther_Mo_need : RK rm_Mo_passOther rm_Mo_need yy_Mo_need 0 0 := ⟨rfl, rfl, Nat.le_of_ble_eq_true rfl, Nat.le_of_ble_eq_true rfl⟩
theorem rk_Mo_passOther_Mo_useArguments : RK rm_Mo_passOther rm_Mo_useArguments yy_Mo_useArguments 0 0 := ⟨rfl, rfl, Nat.le_of_ble_eq_true rfl, Nat.le_of_ble_eq_true rfl⟩
theorem rk_Mo_passOther_Mo_set : RK rm_Mo_passOther rm_Mo_set yy_Mo_set 0 0 := ⟨rfl, rfl, Nat.le_of_ble_eq_true rfl, Nat.le_of_ble_eq_true rfl⟩
theorem rk_Mo_passOther_Mo_is : RK rm_Mo_passOther rm_Mo_is yy_Mo_is 0 0 := ⟨rfl, rfl, Nat.le_of_ble_eq_true rfl, Nat.le_of_ble_eq_true rfl⟩
theorem rk_Mo_passOther_Mo_regAA : RK rm_Mo_passOther rm_Mo_regAA yy_Mo_regAA 0 0 := ⟨rfl, rfl, Nat.le_of_ble_eq_true rfl, Nat.le_of_ble_eq_true rfl⟩
theorem rk_Mo_useArguments_Mo_words : RK rm_Mo_useArguments rm_Mo_words yy_Mo_words 0 0 := ⟨rfl, rfl, Nat.le_of_ble_eq_true rfl, Nat.le_of_ble_eq_true rfl⟩
theorem rk_Mo_useArguments_Mo_argument : RK rm_Mo_useArguments rm_Mo_argument yy_Mo_argument 0 0 := ⟨rfl, rfl, Nat.le_of_ble_eq_true rfl, Nat.le_of_ble_eq_true rfl⟩
theorem rk_Mo_useArguments_Mo_number : RK rm_Mo_useArguments rm_Mo_number yy_Mo_number 0 0 := ⟨rfl, rfl, Nat.le_of_ble_eq_true rfl, Nat.le_of_ble_eq_true rfl⟩
theorem rk_Mo_useArguments_Mo_need : RK rm_Mo_useArguments rm_Mo_need yy_Mo_need 0 0 := ⟨rfl, rfl, Nat.le_of_ble_eq_true rfl, Nat.le_of_ble_eq_true rfl⟩
theorem rk_Mo_useArguments_Mo_is : RK rm_Mo_useArguments rm_Mo_is yy_Mo_is 0 0 := ⟨rfl, rfl, Nat.le_of_ble_eq_true rfl, Nat.le_of_ble_eq_true rfl⟩
theorem rk_Mo_seal_Mo_load : RK rm_Mo_seal rm_Mo_load yy_Mo_load 0 0 := ⟨rfl, rfl, Nat.le_of_ble_eq_true rfl, Nat.le_of_ble_eq_true rfl⟩
theorem rk_Mo_seal_Mo_fail : RK rm_Mo_seal rm_Mo_fail yy_Mo_fail 0 0 := ⟨rfl, rfl, Nat.le_of_ble_eq_true rfl, Nat.le_of_ble_eq_true rfl⟩
theorem rk_Mo_seal_Mo_checkOf : RK rm_Mo_seal rm_Mo_checkOf yy_Mo_checkOf 0 0 := ⟨rfl, rfl, Nat.le_of_ble_eq_true rfl, Nat.le_of_ble_eq_true rfl⟩
theorem rk_Mo_verify_Mo_isMethod : RK rm_Mo_verify rm_Mo_isMethod yy_Mo_isMethod 0 0 := ⟨rfl, rfl, Nat.le_of_ble_eq_true rfl, Nat.le_of_ble_eq_true rfl⟩
theorem rk_Mo_type_Mo_typeAt : RK rm_Mo_type rm_Mo_typeAt yy_Mo_typeAt 0 0 := ⟨rfl, rfl, Nat.le_of_ble_eq_true rfl, Nat.le_of_ble_eq_true rfl⟩
theorem rk_Mo_type_Mo_isMethod : RK rm_Mo_type rm_Mo_isMethod yy_Mo_isMethod 0 0 := ⟨rfl, rfl, Nat.le_of_ble_eq_true rfl, Nat.le_of_ble_eq_true rfl⟩
theorem rk_Mo_pass_Mo_addArgument : RK rm_Mo_pass rm_Mo_addArgument yy_Mo_addArgument 0 0 := ⟨rfl, rfl, Nat.le_of_ble_eq_true rfl, Nat.le_of_ble_eq_true rfl⟩
theorem rk_Mo_passReal_Mo_addArgument : RK rm_Mo_passReal rm_Mo_addArgument yy_Mo_addArgument 0 0 := ⟨rfl, rfl, Nat.le_of_ble_eq_true rfl, Nat.le_of_ble_eq_true rfl⟩
theorem rk_Mo_call_Mo_idle : RK rm_Mo_call rm_Mo_idle yy_Mo_idle 0 0 := ⟨rfl, rfl, Nat.le_of_ble_eq_true rfl, Nat.le_of_ble_eq_true rfl⟩
theorem rk_Mo_call_Mo_paramWords : RK rm_Mo_call rm_Mo_paramWords yy_Mo_paramWords 0 0 := ⟨rfl, rfl, Nat.le_of_ble_eq_true rfl, Nat.le_of_ble_eq_true rfl⟩
theorem rk_Mo_call_Mo_isMethod : RK rm_Mo_call rm_Mo_isMethod yy_Mo_isMethod 0 0 := ⟨rfl, rfl, Nat.le_of_ble_eq_true rfl, Nat.le_of_ble_eq_true rfl⟩
theorem rk_Mo_call_Mo_words : RK rm_Mo_call rm_Mo_words yy_Mo_words 0 0 := ⟨rfl, rfl, Nat.le_of_ble_eq_true rfl, Nat.le_of_ble_eq_true rfl⟩
theorem rk_Mo_call_Mo_enter : RK rm_Mo_call rm_Mo_enter yy_Mo_enter 0 0 := ⟨rfl, rfl, Nat.le_of_ble_eq_true rfl, Nat.le_of_ble_eq_true rfl⟩
theorem rk_Mo_run_Mo_idle : RK rm_Mo_run rm_Mo_idle yy_Mo_idle 0 0 := ⟨rfl, rfl, Nat.le_of_ble_eq_true rfl, Nat.le_of_ble_eq_true rfl⟩
theorem rk_Mo_run_Mo_fail : RK rm_Mo_run rm_Mo_fail yy_Mo_fail 0 0 := ⟨rfl, rfl, Nat.le_of_ble_eq_true rfl, Nat.le_of_ble_eq_true rfl⟩
theorem rk_Mo_run_Mo_one : RK rm_Mo_run rm_Mo_one yy_Mo_one 0 0 := ⟨rfl, rfl, Nat.le_of_ble_eq_true rfl, Nat.le_of_ble_eq_true rfl⟩
theorem rk_Mo_one_Mo_holds : RK rm_Mo_one rm_Mo_holds yy_Mo_holds 0 0 := ⟨rfl, rfl, Nat.le_of_ble_eq_true rfl, Nat.le_of_ble_eq_true rfl⟩
theorem rk_Mo_one_Mo_compares : RK rm_Mo_one rm_Mo_compares yy_Mo_compares 0 0 := ⟨rfl, rfl, Nat.le_of_ble_eq_true rfl, Nat.le_of_ble_eq_true rfl⟩
theorem rk_Mo_one_Mo_convert : RK rm_Mo_one rm_Mo_convert yy_Mo_convert 0 0 := ⟨rfl, rfl, Nat.le_of_ble_eq_true rfl, Nat.le_of_ble_eq_true rfl⟩
theorem rk_Mo_one_Mo_callFrom : RK rm_Mo_one rm_Mo_callFrom yy_Mo_callFrom 0 0 := ⟨rfl, rfl, Nat.le_of_ble_eq_true rfl, Nat.le_of_ble_eq_true rfl⟩
theorem rk_Mo_one_Mo_regC : RK rm_Mo_one rm_Mo_regC yy_Mo_regC 0 0 := ⟨rfl, rfl, Nat.le_of_ble_eq_true rfl, Nat.le_of_ble_eq_true rfl⟩
theorem rk_Mo_one_Mo_compare : RK rm_Mo_one rm_Mo_compare yy_Mo_compare 0 0 := ⟨rfl, rfl, Nat.le_of_ble_eq_true rfl, Nat.le_of_ble_eq_true rfl⟩
theorem rk_Mo_one_Mo_join : RK rm_Mo_one rm_Mo_join yy_Mo_join 0 0 := ⟨rfl, rfl, Nat.le_of_ble_eq_true rfl, Nat.le_of_ble_eq_true rfl⟩
theorem rk_Mo_one_Mo_regAA : RK rm_Mo_one rm_Mo_regAA yy_Mo_regAA 0 0 := ⟨rfl, rfl, Nat.le_of_ble_eq_true rfl, Nat.le_of_ble_eq_true rfl⟩
theorem rk_Mo_one_Mo_target : RK rm_Mo_one rm_Mo_target yy_Mo_target 0 0 := ⟨rfl, rfl, Nat.le_of_ble_eq_true rfl, Nat.le_of_ble_eq_true rfl⟩
theorem rk_Mo_one_Mo_regD : RK rm_Mo_one rm_Mo_regD yy_Mo_regD 0 0 := ⟨rfl, rfl, Nat.le_of_ble_eq_true rfl, Nat.le_of_ble_eq_true rfl⟩
theorem rk_Mo_one_Mo_giveBack : RK rm_Mo_one rm_Mo_giveBack yy_Mo_giveBack 0 0 := ⟨rfl, rfl, Nat.le_of_ble_eq_true rfl, Nat.le_of_ble_eq_true rfl⟩
theorem rk_Mo_one_Mo_simple : RK rm_Mo_one rm_Mo_simple yy_Mo_simple 0 0 := ⟨rfl, rfl, Nat.le_of_ble_eq_true rfl, Nat.le_of_ble_eq_true rfl⟩
theorem rk_Mo_one_Mo_converts : RK rm_Mo_one rm_Mo_converts yy_Mo_converts 0 0 := ⟨rfl, rfl, Nat.le_of_ble_eq_true rfl, Nat.le_of_ble_eq_true rfl⟩
theorem rk_Mo_one_Mo_op : RK rm_Mo_one rm_Mo_op yy_Mo_op 0 0 := ⟨rfl, rfl, Nat.le_of_ble_eq_true rfl, Nat.le_of_ble_eq_true rfl⟩
theorem rk_Mo_one_Mo_regB : RK rm_Mo_one rm_Mo_regB yy_Mo_regB 0 0 := ⟨rfl, rfl, Nat.le_of_ble_eq_true rfl, Nat.le_of_ble_eq_true rfl⟩
theorem rk_Mo_one_Mo_joins : RK rm_Mo_one rm_Mo_joins yy_Mo_joins 0 0 := ⟨rfl, rfl, Nat.le_of_ble_eq_true rfl, Nat.le_of_ble_eq_true rfl⟩
theorem rk_Mo_one_Mo_wholeOf : RK rm_Mo_one rm_Mo_wholeOf yy_Mo_wholeOf 0 0 := ⟨rfl, rfl, Nat.le_of_ble_eq_true rfl, Nat.le_of_ble_eq_true rfl⟩
theorem rk_Mo_one_Mo_regA : RK rm_Mo_one rm_Mo_regA yy_Mo_regA 0 0 := ⟨rfl, rfl, Nat.le_of_ble_eq_true rfl, Nat.le_of_ble_eq_true rfl⟩
theorem rk_Mo_one_Mo_sizeOf : RK rm_Mo_one rm_Mo_sizeOf yy_Mo_sizeOf 0 0 := ⟨rfl, rfl, Nat.le_of_ble_eq_true rfl, Nat.le_of_ble_eq_true rfl⟩
theorem rk_Mo_callFrom_Mo_paramWords : RK rm_Mo_callFrom rm_Mo_paramWords yy_Mo_paramWords 0 0 := ⟨rfl, rfl, Nat.le_of_ble_eq_true rfl, Nat.le_of_ble_eq_true rfl⟩
theorem rk_Mo_callFrom_Mo_base : RK rm_Mo_callFrom rm_Mo_base yy_Mo_base 0 0 := ⟨rfl, rfl, Nat.le_of_ble_eq_true rfl, Nat.le_of_ble_eq_true rfl⟩
theorem rk_Mo_callFrom_Mo_argument : RK rm_Mo_callFrom rm_Mo_argument yy_Mo_argument 0 0 := ⟨rfl, rfl, Nat.le_of_ble_eq_true rfl, Nat.le_of_ble_eq_true rfl⟩
theorem rk_Mo_callFrom_Mo_words : RK rm_Mo_callFrom rm_Mo_words yy_Mo_words 0 0 := ⟨rfl, rfl, Nat.le_of_ble_eq_true rfl, Nat.le_of_ble_eq_true rfl⟩
theorem rk_Mo_callFrom_Mo_number : RK rm_Mo_callFrom rm_Mo_number yy_Mo_number 0 0 := ⟨rfl, rfl, Nat.le_of_ble_eq_true rfl, Nat.le_of_ble_eq_true rfl⟩
theorem rk_Mo_callFrom_Mo_enter : RK rm_Mo_callFrom rm_Mo_enter yy_Mo_enter 0 0 := ⟨rfl, rfl, Nat.le_of_ble_eq_true rfl, Nat.le_of_ble_eq_true rfl⟩
theorem rk_Mo_giveBack_Mo_realOf : RK rm_Mo_giveBack rm_Mo_realOf yy_Mo_realOf 0 0 := ⟨rfl, rfl, Nat.le_of_ble_eq_true rfl, Nat.le_of_ble_eq_true rfl⟩
theorem rk_Mo_giveBack_Mo_wholeOf : RK rm_Mo_giveBack rm_Mo_wholeOf yy_Mo_wholeOf 0 0 := ⟨rfl, rfl, Nat.le_of_ble_eq_true rfl, Nat.le_of_ble_eq_true rfl⟩
theorem rk_Mo_wholeOf_Mo_base : RK rm_Mo_wholeOf rm_Mo_base yy_Mo_base 0 0 := ⟨rfl, rfl, Nat.le_of_ble_eq_true rfl, Nat.le_of_ble_eq_true rfl⟩
theorem rk_Mo_realOf_Mo_base : RK rm_Mo_realOf rm_Mo_base yy_Mo_base 0 0 := ⟨rfl, rfl, Nat.le_of_ble_eq_true rfl, Nat.le_of_ble_eq_true rfl⟩
theorem rk_Mo_join_Mo_setReal : RK rm_Mo_join rm_Mo_setReal yy_Mo_setReal 0 0 := ⟨rfl, rfl, Nat.le_of_ble_eq_true rfl, Nat.le_of_ble_eq_true rfl⟩
theorem rk_Mo_join_Mo_wholeOf : RK rm_Mo_join rm_Mo_wholeOf yy_Mo_wholeOf 0 0 := ⟨rfl, rfl, Nat.le_of_ble_eq_true rfl, Nat.le_of_ble_eq_true rfl⟩
theorem rk_Mo_join_Mo_joinLongs : RK rm_Mo_join rm_Mo_joinLongs yy_Mo_joinLongs 0 0 := ⟨rfl, rfl, Nat.le_of_ble_eq_true rfl, Nat.le_of_ble_eq_true rfl⟩
theorem rk_Mo_join_Mo_joinInts : RK rm_Mo_join rm_Mo_joinInts yy_Mo_joinInts 0 0 := ⟨rfl, rfl, Nat.le_of_ble_eq_true rfl, Nat.le_of_ble_eq_true rfl⟩
theorem rk_Mo_join_Mo_joinFloats : RK rm_Mo_join rm_Mo_joinFloats yy_Mo_joinFloats 0 0 := ⟨rfl, rfl, Nat.le_of_ble_eq_true rfl, Nat.le_of_ble_eq_true rfl⟩
theorem rk_Mo_join_Mo_realOf : RK rm_Mo_join rm_Mo_realOf yy_Mo_realOf 0 0 := ⟨rfl, rfl, Nat.le_of_ble_eq_true rfl, Nat.le_of_ble_eq_true rfl⟩
theorem rk_Mo_join_Mo_setWhole : RK rm_Mo_join rm_Mo_setWhole yy_Mo_setWhole 0 0 := ⟨rfl, rfl, Nat.le_of_ble_eq_true rfl, Nat.le_of_ble_eq_true rfl⟩
theorem rk_Mo_join_Mo_joinDoubles : RK rm_Mo_join rm_Mo_joinDoubles yy_Mo_joinDoubles 0 0 := ⟨rfl, rfl, Nat.le_of_ble_eq_true rfl, Nat.le_of_ble_eq_true rfl⟩
theorem rk_Mo_join_Mo_divides : RK rm_Mo_join rm_Mo_divides yy_Mo_divides 0 0 := ⟨rfl, rfl, Nat.le_of_ble_eq_true rfl, Nat.le_of_ble_eq_true rfl⟩
theorem rk_Mo_join_Mo_joined : RK rm_Mo_join rm_Mo_joined yy_Mo_joined 0 0 := ⟨rfl, rfl, Nat.le_of_ble_eq_true rfl, Nat.le_of_ble_eq_true rfl⟩
theorem rk_Mo_setWhole_Mo_base : RK rm_Mo_setWhole rm_Mo_base yy_Mo_base 0 0 := ⟨rfl, rfl, Nat.le_of_ble_eq_true rfl, Nat.le_of_ble_eq_true rfl⟩
theorem rk_Mo_setReal_Mo_base : RK rm_Mo_setReal rm_Mo_base yy_Mo_base 0 0 := ⟨rfl, rfl, Nat.le_of_ble_eq_true rfl, Nat.le_of_ble_eq_true rfl⟩
theorem rk_Mo_convert_Mo_setReal : RK rm_Mo_convert rm_Mo_setReal yy_Mo_setReal 0 0 := ⟨rfl, rfl, Nat.le_of_ble_eq_true rfl, Nat.le_of_ble_eq_true rfl⟩
theorem rk_Mo_convert_Mo_realOf : RK rm_Mo_convert rm_Mo_realOf yy_Mo_realOf 0 0 := ⟨rfl, rfl, Nat.le_of_ble_eq_true rfl, Nat.le_of_ble_eq_true rfl⟩
theorem rk_Mo_convert_Mo_wholeOf : RK rm_Mo_convert rm_Mo_wholeOf yy_Mo_wholeOf 0 0 := ⟨rfl, rfl, Nat.le_of_ble_eq_true rfl, Nat.le_of_ble_eq_true rfl⟩
theorem rk_Mo_convert_Mo_setWhole : RK rm_Mo_convert rm_Mo_setWhole yy_Mo_setWhole 0 0 := ⟨rfl, rfl, Nat.le_of_ble_eq_true rfl, Nat.le_of_ble_eq_true rfl⟩
theorem rk_Mo_compare_Mo_realOf : RK rm_Mo_compare rm_Mo_realOf yy_Mo_realOf 0 0 := ⟨rfl, rfl, Nat.le_of_ble_eq_true rfl, Nat.le_of_ble_eq_true rfl⟩
theorem rk_Mo_compare_Mo_wholeOf : RK rm_Mo_compare rm_Mo_wholeOf yy_Mo_wholeOf 0 0 := ⟨rfl, rfl, Nat.le_of_ble_eq_true rfl, Nat.le_of_ble_eq_true rfl⟩
theorem rk_Mo_compare_Mo_setWhole : RK rm_Mo_compare rm_Mo_setWhole yy_Mo_setWhole 0 0 := ⟨rfl, rfl, Nat.le_of_ble_eq_true rfl, Nat.le_of_ble_eq_true rfl⟩
theorem rk_Mo_simple_Mo_setReal : RK rm_Mo_simple rm_Mo_setReal yy_Mo_setReal 0 0 := ⟨rfl, rfl, Nat.le_of_ble_eq_true rfl, Nat.le_of_ble_eq_true rfl⟩
theorem rk_Mo_simple_Mo_regB : RK rm_Mo_simple rm_Mo_regB yy_Mo_regB 0 0 := ⟨rfl, rfl, Nat.le_of_ble_eq_true rfl, Nat.le_of_ble_eq_true rfl⟩
theorem rk_Mo_simple_Mo_wholeOf : RK rm_Mo_simple rm_Mo_wholeOf yy_Mo_wholeOf 0 0 := ⟨rfl, rfl, Nat.le_of_ble_eq_true rfl, Nat.le_of_ble_eq_true rfl⟩
theorem rk_Mo_simple_Mo_number : RK rm_Mo_simple rm_Mo_number yy_Mo_number 0 0 := ⟨rfl, rfl, Nat.le_of_ble_eq_true rfl, Nat.le_of_ble_eq_true rfl⟩
theorem rk_Mo_simple_Mo_regA : RK rm_Mo_simple rm_Mo_regA yy_Mo_regA 0 0 := ⟨rfl, rfl, Nat.le_of_ble_eq_true rfl, Nat.le_of_ble_eq_true rfl⟩
theorem rk_Mo_simple_Mo_copy : RK rm_Mo_simple rm_Mo_copy yy_Mo_copy 0 0 := ⟨rfl, rfl, Nat.le_of_ble_eq_true rfl, Nat.le_of_ble_eq_true rfl⟩
theorem rk_Mo_simple_Mo_setWhole : RK rm_Mo_simple rm_Mo_setWhole yy_Mo_setWhole 0 0 := ⟨rfl, rfl, Nat.le_of_ble_eq_true rfl, Nat.le_of_ble_eq_true rfl⟩
theorem rk_Mo_simple_Mo_regAA : RK rm_Mo_simple rm_Mo_regAA yy_Mo_regAA 0 0 := ⟨rfl, rfl, Nat.le_of_ble_eq_true rfl, Nat.le_of_ble_eq_true rfl⟩
theorem rk_Mo_copy_Mo_setReal : RK rm_Mo_copy rm_Mo_setReal yy_Mo_setReal 0 0 := ⟨rfl, rfl, Nat.le_of_ble_eq_true rfl, Nat.le_of_ble_eq_true rfl⟩
theorem rk_Mo_copy_Mo_realOf : RK rm_Mo_copy rm_Mo_realOf yy_Mo_realOf 0 0 := ⟨rfl, rfl, Nat.le_of_ble_eq_true rfl, Nat.le_of_ble_eq_true rfl⟩
theorem rk_Mo_copy_Mo_wholeOf : RK rm_Mo_copy rm_Mo_wholeOf yy_Mo_wholeOf 0 0 := ⟨rfl, rfl, Nat.le_of_ble_eq_true rfl, Nat.le_of_ble_eq_true rfl⟩
theorem rk_Mo_copy_Mo_setWhole : RK rm_Mo_copy rm_Mo_setWhole yy_Mo_setWhole 0 0 := ⟨rfl, rfl, Nat.le_of_ble_eq_true rfl, Nat.le_of_ble_eq_true rfl⟩
