theorem k0 : Cond.selects RX4 yX4_lowest yX4_lowest ∈ GW := gm 0 (by decide +kernel) (by decide +kernel)
theorem k5 : Cond.selects RX4 yX4_amountFrom yX4_amountFrom ∈ GW := gm 5 (by decide +kernel) (by decide +kernel)
theorem k6 : Cond.selects RX4 yX4_limbAt yX4_limbAt ∈ GW := gm 6 (by decide +kernel) (by decide +kernel)
theorem k7 : Cond.selects RX4 yX4_isAnyBitBelow yX4_isAnyBitBelow ∈ GW := gm 7 (by decide +kernel) (by decide +kernel)
theorem k8 : Cond.selects RX5 yX5_beginTrial yX5_beginTrial ∈ GW := gm 8 (by decide +kernel) (by decide +kernel)
theorem k10 : Cond.selects RX1 yX1_predictInto yX1_predictInto ∈ GW := gm 10 (by decide +kernel) (by decide +kernel)
theorem k17 : Cond.selects RX3 yX3_pass yX3_pass ∈ GW := gm 17 (by decide +kernel) (by decide +kernel)
theorem k20 : Cond.selects RX3 yX3_readSettings yX3_readSettings ∈ GW := gm 20 (by decide +kernel) (by decide +kernel)
theorem k21 : Cond.selects RX3 yX3_settingHere yX3_settingHere ∈ GW := gm 21 (by decide +kernel) (by decide +kernel)
theorem k22 : Cond.selects RX3 yX3_isWord yX3_isWord ∈ GW := gm 22 (by decide +kernel) (by decide +kernel)
theorem k23 : Cond.selects RX3 yX3_isWrong yX3_isWrong ∈ GW := gm 23 (by decide +kernel) (by decide +kernel)
theorem k27 : Cond.selects RX3 yX3_readSamples yX3_readSamples ∈ GW := gm 27 (by decide +kernel) (by decide +kernel)
theorem k30 : Cond.selects RX5 yX5_refuse yX5_refuse ∈ GW := gm 30 (by decide +kernel) (by decide +kernel)
theorem k32 : Cond.selects RX1 yX1_differenceInto yX1_differenceInto ∈ GW := gm 32 (by decide +kernel) (by decide +kernel)
theorem k33 : Cond.selects RX5 yX5_errorOfCut yX5_errorOfCut ∈ GW := gm 33 (by decide +kernel) (by decide +kernel)
theorem k35 : Cond.selects RX6 yX6_anew yX6_anew ∈ GW := gm 35 (by decide +kernel) (by decide +kernel)
theorem k36 : Cond.selects RX6 yX6_four yX6_four ∈ GW := gm 36 (by decide +kernel) (by decide +kernel)
theorem k37 : Cond.selects RX6 yX6_fails yX6_fails ∈ GW := gm 37 (by decide +kernel) (by decide +kernel)
theorem k38 : Cond.selects RX6 yX6_reads yX6_reads ∈ GW := gm 38 (by decide +kernel) (by decide +kernel)
theorem k39 : Cond.selects RX6 yX6_setting yX6_setting ∈ GW := gm 39 (by decide +kernel) (by decide +kernel)
theorem k40 : Cond.selects RX6 yX6_isWord yX6_isWord ∈ GW := gm 40 (by decide +kernel) (by decide +kernel)
theorem k41 : Cond.selects RX6 yX6_word yX6_word ∈ GW := gm 41 (by decide +kernel) (by decide +kernel)
theorem k42 : Cond.selects RX6 yX6_here yX6_here ∈ GW := gm 42 (by decide +kernel) (by decide +kernel)
theorem k45 : Cond.selects RX6 yX6_wrong yX6_wrong ∈ GW := gm 45 (by decide +kernel) (by decide +kernel)
theorem k51 : Cond.selects RX6 yX6_presents yX6_presents ∈ GW := gm 51 (by decide +kernel) (by decide +kernel)
theorem k52 : Cond.selects RX6 yX6_steps yX6_steps ∈ GW := gm 52 (by decide +kernel) (by decide +kernel)
theorem k53 : Cond.selects RX6 yX6_zeros yX6_zeros ∈ GW := gm 53 (by decide +kernel) (by decide +kernel)
theorem k55 : Cond.selects RX6 yX6_weights yX6_weights ∈ GW := gm 55 (by decide +kernel) (by decide +kernel)
theorem k56 : Cond.selects RX6 yX6_isPresent yX6_isPresent ∈ GW := gm 56 (by decide +kernel) (by decide +kernel)
theorem k57 : Cond.selects RX6 yX6_isSample yX6_isSample ∈ GW := gm 57 (by decide +kernel) (by decide +kernel)
theorem k58 : Cond.selects RX6 yX6_beside yX6_beside ∈ GW := gm 58 (by decide +kernel) (by decide +kernel)
theorem k59 : Cond.selects RX6 yX6_isStep yX6_isStep ∈ GW := gm 59 (by decide +kernel) (by decide +kernel)
theorem k60 : Cond.selects RX6 yX6_whole yX6_whole ∈ GW := gm 60 (by decide +kernel) (by decide +kernel)
theorem k61 : Cond.selects RX6 yX6_bitsNow yX6_bitsNow ∈ GW := gm 61 (by decide +kernel) (by decide +kernel)
theorem k63 : Cond.selects RX6 yX6_nextOne yX6_nextOne ∈ GW := gm 63 (by decide +kernel) (by decide +kernel)
theorem k64 : Cond.selects RX6 yX6_isInner yX6_isInner ∈ GW := gm 64 (by decide +kernel) (by decide +kernel)
theorem k69 : Cond.selects RX6 yX6_sets yX6_sets ∈ GW := gm 69 (by decide +kernel) (by decide +kernel)
theorem k70 : Cond.selects RX6 yX6_stateFails yX6_stateFails ∈ GW := gm 70 (by decide +kernel) (by decide +kernel)
theorem k71 : Cond.selects RX6 yX6_goesOn yX6_goesOn ∈ GW := gm 71 (by decide +kernel) (by decide +kernel)
theorem k77 : Cond.selects RX6 yX6_cuts yX6_cuts ∈ GW := gm 77 (by decide +kernel) (by decide +kernel)
theorem k78 : Cond.selects RX6 yX6_puts yX6_puts ∈ GW := gm 78 (by decide +kernel) (by decide +kernel)
theorem k79 : Cond.selects RX6 yX6_errorOf yX6_errorOf ∈ GW := gm 79 (by decide +kernel) (by decide +kernel)
theorem k80 : Cond.selects RX6 yX6_takesBack yX6_takesBack ∈ GW := gm 80 (by decide +kernel) (by decide +kernel)
theorem k81 : Cond.selects RX6 yX6_errorBy yX6_errorBy ∈ GW := gm 81 (by decide +kernel) (by decide +kernel)
theorem k82 : Cond.selects RX6 yX6_bitsOf yX6_bitsOf ∈ GW := gm 82 (by decide +kernel) (by decide +kernel)
theorem k84 : Cond.initialized RX5 ∈ GW := gm 84 (by decide +kernel) (by decide +kernel)
theorem k85 : Cond.initialized RX3 ∈ GW := gm 85 (by decide +kernel) (by decide +kernel)
theorem k86 : Cond.initialized RX0 ∈ GW := gm 86 (by decide +kernel) (by decide +kernel)
theorem k87 : Cond.initialized RX1 ∈ GW := gm 87 (by decide +kernel) (by decide +kernel)
theorem k88 : Cond.initialized RX4 ∈ GW := gm 88 (by decide +kernel) (by decide +kernel)
theorem k89 : Cond.initialized RX2 ∈ GW := gm 89 (by decide +kernel) (by decide +kernel)
theorem k90 : Cond.initialized RJ9 ∈ GW := gm 90 (by decide +kernel) (by decide +kernel)
theorem k91 : Cond.initialized RJ10 ∈ GW := gm 91 (by decide +kernel) (by decide +kernel)
theorem k92 : Cond.initialized RX6 ∈ GW := gm 92 (by decide +kernel) (by decide +kernel)
theorem k96 : Cond.initialized "java/lang/IndexOutOfBoundsException" ∈ GW := gm 96 (by decide +kernel) (by decide +kernel)
theorem k101 : Cond.initialized "java/lang/IllegalArgumentException" ∈ GW := gm 101 (by decide +kernel) (by decide +kernel)
theorem k103 : Cond.initialized "java/util/NoSuchElementException" ∈ GW := gm 103 (by decide +kernel) (by decide +kernel)
theorem k104 : Cond.initialized "java/lang/IllegalStateException" ∈ GW := gm 104 (by decide +kernel) (by decide +kernel)
theorem k110 : Cond.methodLink RX5 3 objectInit ∈ GW := gm 110 (by decide +kernel) (by decide +kernel)
theorem k111 : Cond.instanceMethod objectInit ∈ GW := gm 111 (by decide +kernel) (by decide +kernel)
theorem k112 : Cond.code objectInit ⟨#[0xb1]⟩ 1 none ∈ GW := gm 112 (by decide +kernel) (by decide +kernel)
theorem k113 : Cond.classLink RX5 9 RX3 ∈ GW := gm 113 (by decide +kernel) (by decide +kernel)
theorem k114 : Cond.instantiable RX3 8 ∈ GW := gm 114 (by decide +kernel) (by decide +kernel)
theorem k118 : Cond.methodLink RX3 3 objectInit ∈ GW := gm 118 (by decide +kernel) (by decide +kernel)
theorem k119 : Cond.fieldLink RX3 11 "LiftingSignal$Text" "bytes" "[B" ∈ GW := gm 119 (by decide +kernel) (by decide +kernel)
theorem k120 : Cond.fieldLink RX3 15 "LiftingSignal$Text" "length" "I" ∈ GW := gm 120 (by decide +kernel) (by decide +kernel)
theorem k121 : Cond.fieldLink RX5 74 "LiftingSignal$Text" "length" "I" ∈ GW := gm 121 (by decide +kernel) (by decide +kernel)
theorem k122 : Cond.fieldLink RX3 19 "LiftingSignal$Text" "errorCode" "I" ∈ GW := gm 122 (by decide +kernel) (by decide +kernel)
theorem k123 : Cond.fieldLink RX5 97 "LiftingSignal$Text" "errorCode" "I" ∈ GW := gm 123 (by decide +kernel) (by decide +kernel)
theorem k124 : Cond.fieldLink RX3 22 "LiftingSignal$Text" "errorPosition" "I" ∈ GW := gm 124 (by decide +kernel) (by decide +kernel)
theorem k125 : Cond.fieldLink RX5 100 "LiftingSignal$Text" "errorPosition" "I" ∈ GW := gm 125 (by decide +kernel) (by decide +kernel)
theorem k126 : Cond.fieldLink RX3 25 "LiftingSignal$Text" "kind" "I" ∈ GW := gm 126 (by decide +kernel) (by decide +kernel)
theorem k127 : Cond.fieldLink RX3 28 "LiftingSignal$Text" "start" "I" ∈ GW := gm 127 (by decide +kernel) (by decide +kernel)
theorem k128 : Cond.fieldLink RX3 31 "LiftingSignal$Text" "end" "I" ∈ GW := gm 128 (by decide +kernel) (by decide +kernel)
theorem k129 : Cond.fieldLink RX3 34 "LiftingSignal$Text" "number" "I" ∈ GW := gm 129 (by decide +kernel) (by decide +kernel)
theorem k147 : Cond.arrayClass .byte ∈ GW := gm 147 (by decide +kernel) (by decide +kernel)
theorem k148 : Cond.classLink RX5 16 RX0 ∈ GW := gm 148 (by decide +kernel) (by decide +kernel)
theorem k149 : Cond.instantiable RX0 7 ∈ GW := gm 149 (by decide +kernel) (by decide +kernel)
theorem k153 : Cond.methodLink RX0 3 objectInit ∈ GW := gm 153 (by decide +kernel) (by decide +kernel)
theorem k154 : Cond.fieldLink RX0 9 "LiftingSignal$Source" "position" "[I" ∈ GW := gm 154 (by decide +kernel) (by decide +kernel)
theorem k155 : Cond.fieldLink RX5 132 "LiftingSignal$Source" "position" "[I" ∈ GW := gm 155 (by decide +kernel) (by decide +kernel)
theorem k157 : Cond.fieldLink RX1 108 "LiftingSignal$Source" "position" "[I" ∈ GW := gm 157 (by decide +kernel) (by decide +kernel)
theorem k158 : Cond.fieldLink RX0 15 "LiftingSignal$Source" "original" "[I" ∈ GW := gm 158 (by decide +kernel) (by decide +kernel)
theorem k159 : Cond.fieldLink RX1 63 "LiftingSignal$Source" "original" "[I" ∈ GW := gm 159 (by decide +kernel) (by decide +kernel)
theorem k160 : Cond.fieldLink RX5 136 "LiftingSignal$Source" "original" "[I" ∈ GW := gm 160 (by decide +kernel) (by decide +kernel)
theorem k161 : Cond.fieldLink RX0 18 "LiftingSignal$Source" "count" "I" ∈ GW := gm 161 (by decide +kernel) (by decide +kernel)
theorem k162 : Cond.fieldLink RX1 58 "LiftingSignal$Source" "count" "I" ∈ GW := gm 162 (by decide +kernel) (by decide +kernel)
theorem k163 : Cond.fieldLink RX5 94 "LiftingSignal$Source" "count" "I" ∈ GW := gm 163 (by decide +kernel) (by decide +kernel)
theorem k165 : Cond.fieldLink RX0 22 "LiftingSignal$Source" "split" "I" ∈ GW := gm 165 (by decide +kernel) (by decide +kernel)
theorem k166 : Cond.fieldLink RX1 74 "LiftingSignal$Source" "split" "I" ∈ GW := gm 166 (by decide +kernel) (by decide +kernel)
theorem k168 : Cond.fieldLink RX0 25 "LiftingSignal$Source" "predict" "I" ∈ GW := gm 168 (by decide +kernel) (by decide +kernel)
theorem k169 : Cond.fieldLink RX1 78 "LiftingSignal$Source" "predict" "I" ∈ GW := gm 169 (by decide +kernel) (by decide +kernel)
theorem k171 : Cond.fieldLink RX0 28 "LiftingSignal$Source" "isKeep" "Z" ∈ GW := gm 171 (by decide +kernel) (by decide +kernel)
theorem k172 : Cond.fieldLink RX1 82 "LiftingSignal$Source" "isKeep" "Z" ∈ GW := gm 172 (by decide +kernel) (by decide +kernel)
theorem k174 : Cond.fieldLink RX0 32 "LiftingSignal$Source" "least" "I" ∈ GW := gm 174 (by decide +kernel) (by decide +kernel)
theorem k175 : Cond.fieldLink RX5 123 "LiftingSignal$Source" "least" "I" ∈ GW := gm 175 (by decide +kernel) (by decide +kernel)
theorem k177 : Cond.fieldLink RX1 120 "LiftingSignal$Source" "least" "I" ∈ GW := gm 177 (by decide +kernel) (by decide +kernel)
theorem k193 : Cond.arrayClass .int ∈ GW := gm 193 (by decide +kernel) (by decide +kernel)
theorem k194 : Cond.classLink RX5 26 RX1 ∈ GW := gm 194 (by decide +kernel) (by decide +kernel)
theorem k195 : Cond.instantiable RX1 13 ∈ GW := gm 195 (by decide +kernel) (by decide +kernel)
theorem k199 : Cond.methodLink RX1 3 objectInit ∈ GW := gm 199 (by decide +kernel) (by decide +kernel)
theorem k200 : Cond.classLink RX1 9 RX4 ∈ GW := gm 200 (by decide +kernel) (by decide +kernel)
theorem k202 : Cond.classLink RX1 25 RX2 ∈ GW := gm 202 (by decide +kernel) (by decide +kernel)
theorem k204 : Cond.instantiable RX4 3 ∈ GW := gm 204 (by decide +kernel) (by decide +kernel)
theorem k208 : Cond.methodLink RX4 1 objectInit ∈ GW := gm 208 (by decide +kernel) (by decide +kernel)
theorem k209 : Cond.fieldLink RX4 7 "LiftingSignal$Whole" "limbs" "[I" ∈ GW := gm 209 (by decide +kernel) (by decide +kernel)
theorem k210 : Cond.fieldLink RX4 13 "LiftingSignal$Whole" "used" "I" ∈ GW := gm 210 (by decide +kernel) (by decide +kernel)
theorem k211 : Cond.fieldLink RX4 17 "LiftingSignal$Whole" "isNegative" "Z" ∈ GW := gm 211 (by decide +kernel) (by decide +kernel)
theorem k219 : Cond.arrayClass .long ∈ GW := gm 219 (by decide +kernel) (by decide +kernel)
theorem k220 : Cond.instantiable RX2 10 ∈ GW := gm 220 (by decide +kernel) (by decide +kernel)
theorem k224 : Cond.methodLink RX2 1 objectInit ∈ GW := gm 224 (by decide +kernel) (by decide +kernel)
theorem k225 : Cond.classLink RX2 7 RX4 ∈ GW := gm 225 (by decide +kernel) (by decide +kernel)
theorem k250 : Cond.fieldLink RX2 10 "LiftingSignal$Step" "detail" "LLiftingSignal$Whole;" ∈ GW := gm 250 (by decide +kernel) (by decide +kernel)
theorem k274 : Cond.methodLink RX1 54 yX4_become ∈ GW := gm 274 (by decide +kernel) (by decide +kernel)
theorem k275 : Cond.instanceMethod yX4_become ∈ GW := gm 275 (by decide +kernel) (by decide +kernel)
theorem k276 : Cond.selects RX4 yX4_become yX4_become ∈ GW := gm 276 (by decide +kernel) (by decide +kernel)
theorem k277 : Cond.code yX4_become cX4_become 5 none ∈ GW := gm 277 (by decide +kernel) (by decide +kernel)
theorem k278 : Cond.fieldLink RX1 49 "LiftingSignal$State" "source" "LLiftingSignal$Source;" ∈ GW := gm 278 (by decide +kernel) (by decide +kernel)
theorem k279 : Cond.fieldLink RX1 11 "LiftingSignal$State" "value" "[LLiftingSignal$Whole;" ∈ GW := gm 279 (by decide +kernel) (by decide +kernel)
theorem k280 : Cond.fieldLink RX5 143 "LiftingSignal$State" "value" "[LLiftingSignal$Whole;" ∈ GW := gm 280 (by decide +kernel) (by decide +kernel)
theorem k281 : Cond.fieldLink RX1 17 "LiftingSignal$State" "weight" "[J" ∈ GW := gm 281 (by decide +kernel) (by decide +kernel)
theorem k282 : Cond.fieldLink RX5 154 "LiftingSignal$State" "weight" "[J" ∈ GW := gm 282 (by decide +kernel) (by decide +kernel)
theorem k283 : Cond.fieldLink RX1 21 "LiftingSignal$State" "stepOf" "[I" ∈ GW := gm 283 (by decide +kernel) (by decide +kernel)
theorem k284 : Cond.fieldLink RX5 158 "LiftingSignal$State" "stepOf" "[I" ∈ GW := gm 284 (by decide +kernel) (by decide +kernel)
theorem k285 : Cond.fieldLink RX1 27 "LiftingSignal$State" "steps" "[LLiftingSignal$Step;" ∈ GW := gm 285 (by decide +kernel) (by decide +kernel)
theorem k287 : Cond.fieldLink RX1 31 "LiftingSignal$State" "stepCount" "I" ∈ GW := gm 287 (by decide +kernel) (by decide +kernel)
theorem k288 : Cond.fieldLink RX5 107 "LiftingSignal$State" "stepCount" "I" ∈ GW := gm 288 (by decide +kernel) (by decide +kernel)
theorem k289 : Cond.fieldLink RX1 36 "LiftingSignal$State" "integral" "LLiftingSignal$Whole;" ∈ GW := gm 289 (by decide +kernel) (by decide +kernel)
theorem k290 : Cond.fieldLink RX5 205 "LiftingSignal$State" "integral" "LLiftingSignal$Whole;" ∈ GW := gm 290 (by decide +kernel) (by decide +kernel)
theorem k291 : Cond.fieldLink RX1 77 "LiftingSignal$State" "split" "I" ∈ GW := gm 291 (by decide +kernel) (by decide +kernel)
theorem k292 : Cond.fieldLink RX5 113 "LiftingSignal$State" "split" "I" ∈ GW := gm 292 (by decide +kernel) (by decide +kernel)
theorem k293 : Cond.fieldLink RX1 81 "LiftingSignal$State" "predict" "I" ∈ GW := gm 293 (by decide +kernel) (by decide +kernel)
theorem k294 : Cond.fieldLink RX5 116 "LiftingSignal$State" "predict" "I" ∈ GW := gm 294 (by decide +kernel) (by decide +kernel)
theorem k295 : Cond.fieldLink RX1 86 "LiftingSignal$State" "isKeep" "Z" ∈ GW := gm 295 (by decide +kernel) (by decide +kernel)
theorem k296 : Cond.fieldLink RX5 119 "LiftingSignal$State" "isKeep" "Z" ∈ GW := gm 296 (by decide +kernel) (by decide +kernel)
theorem k297 : Cond.fieldLink RX1 40 "LiftingSignal$State" "one" "LLiftingSignal$Whole;" ∈ GW := gm 297 (by decide +kernel) (by decide +kernel)
theorem k298 : Cond.fieldLink RX1 43 "LiftingSignal$State" "part" "LLiftingSignal$Whole;" ∈ GW := gm 298 (by decide +kernel) (by decide +kernel)
theorem k299 : Cond.fieldLink RX1 46 "LiftingSignal$State" "result" "LLiftingSignal$Whole;" ∈ GW := gm 299 (by decide +kernel) (by decide +kernel)
theorem k332 : Cond.methodLink RX5 60 yX1_begin ∈ GW := gm 332 (by decide +kernel) (by decide +kernel)
theorem k333 : Cond.instanceMethod yX1_begin ∈ GW := gm 333 (by decide +kernel) (by decide +kernel)
theorem k334 : Cond.selects RX1 yX1_begin yX1_begin ∈ GW := gm 334 (by decide +kernel) (by decide +kernel)
theorem k335 : Cond.code yX1_begin cX1_begin 2 none ∈ GW := gm 335 (by decide +kernel) (by decide +kernel)
theorem k336 : Cond.methodLink RX1 66 yX0_firstWeight ∈ GW := gm 336 (by decide +kernel) (by decide +kernel)
theorem k337 : Cond.instanceMethod yX0_firstWeight ∈ GW := gm 337 (by decide +kernel) (by decide +kernel)
theorem k338 : Cond.selects RX0 yX0_firstWeight yX0_firstWeight ∈ GW := gm 338 (by decide +kernel) (by decide +kernel)
theorem k339 : Cond.code yX0_firstWeight cX0_firstWeight 4 (some .int) ∈ GW := gm 339 (by decide +kernel) (by decide +kernel)
theorem k340 : Cond.methodLink RX1 70 yX4_add ∈ GW := gm 340 (by decide +kernel) (by decide +kernel)
theorem k341 : Cond.instanceMethod yX4_add ∈ GW := gm 341 (by decide +kernel) (by decide +kernel)
theorem k342 : Cond.selects RX4 yX4_add yX4_add ∈ GW := gm 342 (by decide +kernel) (by decide +kernel)
theorem k343 : Cond.code yX4_add cX4_add 7 none ∈ GW := gm 343 (by decide +kernel) (by decide +kernel)
theorem k344 : Cond.methodLink RX4 31 yX4_lowest ∈ GW := gm 344 (by decide +kernel) (by decide +kernel)
theorem k346 : Cond.instanceMethod yX4_lowest ∈ GW := gm 346 (by decide +kernel) (by decide +kernel)
theorem k347 : Cond.code yX4_lowest cX4_lowest 1 (some .long) ∈ GW := gm 347 (by decide +kernel) (by decide +kernel)
theorem k348 : Cond.constantLong RX4 66 4294967295 ∈ GW := gm 348 (by decide +kernel) (by decide +kernel)
theorem k349 : Cond.methodLink RX4 35 yX4_become ∈ GW := gm 349 (by decide +kernel) (by decide +kernel)
theorem k350 : Cond.methodLink RX4 39 yJ9_max_7cf53 ∈ GW := gm 350 (by decide +kernel) (by decide +kernel)
theorem k351 : Cond.static yJ9_max_7cf53 ∈ GW := gm 351 (by decide +kernel) (by decide +kernel)
theorem k352 : Cond.code yJ9_max_7cf53 cJ9_max_7cf53 2 (some .int) ∈ GW := gm 352 (by decide +kernel) (by decide +kernel)
theorem k361 : Cond.static arraycopyName ∈ GW := gm 361 (by decide +kernel) (by decide +kernel)
theorem k362 : Cond.native arraycopyName ∈ GW := gm 362 (by decide +kernel) (by decide +kernel)
theorem k379 : Cond.fieldLink RX5 12 "LiftingSignal" "text" "LLiftingSignal$Text;" ∈ GW := gm 379 (by decide +kernel) (by decide +kernel)
theorem k380 : Cond.fieldLink RX5 19 "LiftingSignal" "source" "LLiftingSignal$Source;" ∈ GW := gm 380 (by decide +kernel) (by decide +kernel)
theorem k381 : Cond.fieldLink RX5 23 "LiftingSignal" "draft" "LLiftingSignal$Source;" ∈ GW := gm 381 (by decide +kernel) (by decide +kernel)
theorem k382 : Cond.fieldLink RX5 31 "LiftingSignal" "now" "LLiftingSignal$State;" ∈ GW := gm 382 (by decide +kernel) (by decide +kernel)
theorem k383 : Cond.fieldLink RX5 35 "LiftingSignal" "trial" "LLiftingSignal$State;" ∈ GW := gm 383 (by decide +kernel) (by decide +kernel)
theorem k384 : Cond.fieldLink RX5 38 "LiftingSignal" "slots" "[LLiftingSignal$State;" ∈ GW := gm 384 (by decide +kernel) (by decide +kernel)
theorem k385 : Cond.fieldLink RX5 42 "LiftingSignal" "isSaved" "[Z" ∈ GW := gm 385 (by decide +kernel) (by decide +kernel)
theorem k386 : Cond.fieldLink RX5 46 "LiftingSignal" "reasonCode" "I" ∈ GW := gm 386 (by decide +kernel) (by decide +kernel)
theorem k387 : Cond.fieldLink RX5 50 "LiftingSignal" "causeCode" "I" ∈ GW := gm 387 (by decide +kernel) (by decide +kernel)
theorem k388 : Cond.fieldLink RX5 53 "LiftingSignal" "refusedSample" "I" ∈ GW := gm 388 (by decide +kernel) (by decide +kernel)
theorem k410 : Cond.arrayClass .boolean ∈ GW := gm 410 (by decide +kernel) (by decide +kernel)
theorem k415 : Cond.methodLink RX5 66 yX3_hasRoom ∈ GW := gm 415 (by decide +kernel) (by decide +kernel)
theorem k416 : Cond.instanceMethod yX3_hasRoom ∈ GW := gm 416 (by decide +kernel) (by decide +kernel)
theorem k417 : Cond.selects RX3 yX3_hasRoom yX3_hasRoom ∈ GW := gm 417 (by decide +kernel) (by decide +kernel)
theorem k418 : Cond.code yX3_hasRoom cX3_hasRoom 1 (some .boolean) ∈ GW := gm 418 (by decide +kernel) (by decide +kernel)
theorem k419 : Cond.methodLink RX5 70 yX3_addInt ∈ GW := gm 419 (by decide +kernel) (by decide +kernel)
theorem k420 : Cond.instanceMethod yX3_addInt ∈ GW := gm 420 (by decide +kernel) (by decide +kernel)
theorem k421 : Cond.selects RX3 yX3_addInt yX3_addInt ∈ GW := gm 421 (by decide +kernel) (by decide +kernel)
theorem k422 : Cond.code yX3_addInt cX3_addInt 3 none ∈ GW := gm 422 (by decide +kernel) (by decide +kernel)
theorem k435 : Cond.methodLink RX5 147 yX4_toLong ∈ GW := gm 435 (by decide +kernel) (by decide +kernel)
theorem k436 : Cond.instanceMethod yX4_toLong ∈ GW := gm 436 (by decide +kernel) (by decide +kernel)
theorem k437 : Cond.selects RX4 yX4_toLong yX4_toLong ∈ GW := gm 437 (by decide +kernel) (by decide +kernel)
theorem k438 : Cond.code yX4_toLong cX4_toLong 1 (some .long) ∈ GW := gm 438 (by decide +kernel) (by decide +kernel)
theorem k439 : Cond.methodLink RX4 73 yX4_amountFrom ∈ GW := gm 439 (by decide +kernel) (by decide +kernel)
theorem k441 : Cond.instanceMethod yX4_amountFrom ∈ GW := gm 441 (by decide +kernel) (by decide +kernel)
theorem k442 : Cond.code yX4_amountFrom cX4_amountFrom 6 (some .long) ∈ GW := gm 442 (by decide +kernel) (by decide +kernel)
theorem k443 : Cond.methodLink RX4 87 yX4_limbAt ∈ GW := gm 443 (by decide +kernel) (by decide +kernel)
theorem k445 : Cond.instanceMethod yX4_limbAt ∈ GW := gm 445 (by decide +kernel) (by decide +kernel)
theorem k446 : Cond.code yX4_limbAt cX4_limbAt 2 (some .long) ∈ GW := gm 446 (by decide +kernel) (by decide +kernel)
theorem k451 : Cond.methodLink RX5 208 yX1_driftNow ∈ GW := gm 451 (by decide +kernel) (by decide +kernel)
theorem k452 : Cond.instanceMethod yX1_driftNow ∈ GW := gm 452 (by decide +kernel) (by decide +kernel)
theorem k453 : Cond.selects RX1 yX1_driftNow yX1_driftNow ∈ GW := gm 453 (by decide +kernel) (by decide +kernel)
theorem k454 : Cond.code yX1_driftNow cX1_driftNow 2 (some (.object "LiftingSignal$Whole")) ∈ GW := gm 454 (by decide +kernel) (by decide +kernel)
theorem k455 : Cond.methodLink RX1 87 yX4_copyFrom ∈ GW := gm 455 (by decide +kernel) (by decide +kernel)
theorem k456 : Cond.instanceMethod yX4_copyFrom ∈ GW := gm 456 (by decide +kernel) (by decide +kernel)
theorem k457 : Cond.selects RX4 yX4_copyFrom yX4_copyFrom ∈ GW := gm 457 (by decide +kernel) (by decide +kernel)
theorem k458 : Cond.code yX4_copyFrom cX4_copyFrom 2 none ∈ GW := gm 458 (by decide +kernel) (by decide +kernel)
theorem k459 : Cond.methodLink RX1 100 yX1_isPresent ∈ GW := gm 459 (by decide +kernel) (by decide +kernel)
theorem k460 : Cond.instanceMethod yX1_isPresent ∈ GW := gm 460 (by decide +kernel) (by decide +kernel)
theorem k461 : Cond.selects RX1 yX1_isPresent yX1_isPresent ∈ GW := gm 461 (by decide +kernel) (by decide +kernel)
theorem k462 : Cond.code yX1_isPresent cX1_isPresent 2 (some .boolean) ∈ GW := gm 462 (by decide +kernel) (by decide +kernel)
theorem k467 : Cond.methodLink RX5 228 yX1_valueSum ∈ GW := gm 467 (by decide +kernel) (by decide +kernel)
theorem k468 : Cond.instanceMethod yX1_valueSum ∈ GW := gm 468 (by decide +kernel) (by decide +kernel)
theorem k469 : Cond.selects RX1 yX1_valueSum yX1_valueSum ∈ GW := gm 469 (by decide +kernel) (by decide +kernel)
theorem k470 : Cond.code yX1_valueSum cX1_valueSum 2 (some (.object "LiftingSignal$Whole")) ∈ GW := gm 470 (by decide +kernel) (by decide +kernel)
theorem k471 : Cond.methodLink RX5 231 yX4_toDouble ∈ GW := gm 471 (by decide +kernel) (by decide +kernel)
theorem k472 : Cond.instanceMethod yX4_toDouble ∈ GW := gm 472 (by decide +kernel) (by decide +kernel)
theorem k473 : Cond.selects RX4 yX4_toDouble yX4_toDouble ∈ GW := gm 473 (by decide +kernel) (by decide +kernel)
theorem k474 : Cond.code yX4_toDouble cX4_toDouble 7 (some .double) ∈ GW := gm 474 (by decide +kernel) (by decide +kernel)
theorem k475 : Cond.methodLink RX4 77 yX4_bitsOfAmount ∈ GW := gm 475 (by decide +kernel) (by decide +kernel)
theorem k476 : Cond.instanceMethod yX4_bitsOfAmount ∈ GW := gm 476 (by decide +kernel) (by decide +kernel)
theorem k477 : Cond.selects RX4 yX4_bitsOfAmount yX4_bitsOfAmount ∈ GW := gm 477 (by decide +kernel) (by decide +kernel)
theorem k478 : Cond.code yX4_bitsOfAmount cX4_bitsOfAmount 1 (some .int) ∈ GW := gm 478 (by decide +kernel) (by decide +kernel)
theorem k483 : Cond.methodLink RX4 81 yX4_isAnyBitBelow ∈ GW := gm 483 (by decide +kernel) (by decide +kernel)
theorem k485 : Cond.instanceMethod yX4_isAnyBitBelow ∈ GW := gm 485 (by decide +kernel) (by decide +kernel)
theorem k486 : Cond.code yX4_isAnyBitBelow cX4_isAnyBitBelow 4 (some .boolean) ∈ GW := gm 486 (by decide +kernel) (by decide +kernel)
theorem k488 : Cond.methodLink RX5 103 yX1_presentCount ∈ GW := gm 488 (by decide +kernel) (by decide +kernel)
theorem k489 : Cond.instanceMethod yX1_presentCount ∈ GW := gm 489 (by decide +kernel) (by decide +kernel)
theorem k490 : Cond.selects RX1 yX1_presentCount yX1_presentCount ∈ GW := gm 490 (by decide +kernel) (by decide +kernel)
theorem k491 : Cond.code yX1_presentCount cX1_presentCount 1 (some .int) ∈ GW := gm 491 (by decide +kernel) (by decide +kernel)
theorem k496 : Cond.methodLink RX5 235 yX1_energyOfDetails ∈ GW := gm 496 (by decide +kernel) (by decide +kernel)
theorem k497 : Cond.instanceMethod yX1_energyOfDetails ∈ GW := gm 497 (by decide +kernel) (by decide +kernel)
theorem k498 : Cond.selects RX1 yX1_energyOfDetails yX1_energyOfDetails ∈ GW := gm 498 (by decide +kernel) (by decide +kernel)
theorem k499 : Cond.code yX1_energyOfDetails cX1_energyOfDetails 6 (some .long) ∈ GW := gm 499 (by decide +kernel) (by decide +kernel)
theorem k505 : Cond.methodLink RX5 238 yX1_bitsOfDetails ∈ GW := gm 505 (by decide +kernel) (by decide +kernel)
theorem k506 : Cond.instanceMethod yX1_bitsOfDetails ∈ GW := gm 506 (by decide +kernel) (by decide +kernel)
theorem k507 : Cond.selects RX1 yX1_bitsOfDetails yX1_bitsOfDetails ∈ GW := gm 507 (by decide +kernel) (by decide +kernel)
theorem k508 : Cond.code yX1_bitsOfDetails cX1_bitsOfDetails 3 (some .int) ∈ GW := gm 508 (by decide +kernel) (by decide +kernel)
theorem k522 : Cond.methodLink RX5 314 yX5_beginTrial ∈ GW := gm 522 (by decide +kernel) (by decide +kernel)
theorem k524 : Cond.instanceMethod yX5_beginTrial ∈ GW := gm 524 (by decide +kernel) (by decide +kernel)
theorem k525 : Cond.code yX5_beginTrial cX5_beginTrial 3 none ∈ GW := gm 525 (by decide +kernel) (by decide +kernel)
theorem k526 : Cond.methodLink RX5 261 yX1_liftChosen ∈ GW := gm 526 (by decide +kernel) (by decide +kernel)
theorem k527 : Cond.instanceMethod yX1_liftChosen ∈ GW := gm 527 (by decide +kernel) (by decide +kernel)
theorem k528 : Cond.selects RX1 yX1_liftChosen yX1_liftChosen ∈ GW := gm 528 (by decide +kernel) (by decide +kernel)
theorem k529 : Cond.code yX1_liftChosen cX1_liftChosen 4 (some .int) ∈ GW := gm 529 (by decide +kernel) (by decide +kernel)
theorem k530 : Cond.methodLink RX1 142 yX1_chosenSample ∈ GW := gm 530 (by decide +kernel) (by decide +kernel)
theorem k531 : Cond.instanceMethod yX1_chosenSample ∈ GW := gm 531 (by decide +kernel) (by decide +kernel)
theorem k532 : Cond.selects RX1 yX1_chosenSample yX1_chosenSample ∈ GW := gm 532 (by decide +kernel) (by decide +kernel)
theorem k533 : Cond.code yX1_chosenSample cX1_chosenSample 7 (some .int) ∈ GW := gm 533 (by decide +kernel) (by decide +kernel)
theorem k534 : Cond.methodLink RX1 116 yX1_presentCount ∈ GW := gm 534 (by decide +kernel) (by decide +kernel)
theorem k542 : Cond.methodLink RX1 111 yX1_predictInto ∈ GW := gm 542 (by decide +kernel) (by decide +kernel)
theorem k544 : Cond.instanceMethod yX1_predictInto ∈ GW := gm 544 (by decide +kernel) (by decide +kernel)
theorem k545 : Cond.code yX1_predictInto cX1_predictInto 6 none ∈ GW := gm 545 (by decide +kernel) (by decide +kernel)
theorem k550 : Cond.constantLong RX1 136 (-1) ∈ GW := gm 550 (by decide +kernel) (by decide +kernel)
theorem k551 : Cond.methodLink RX1 104 yX4_scale ∈ GW := gm 551 (by decide +kernel) (by decide +kernel)
theorem k552 : Cond.instanceMethod yX4_scale ∈ GW := gm 552 (by decide +kernel) (by decide +kernel)
theorem k553 : Cond.selects RX4 yX4_scale yX4_scale ∈ GW := gm 553 (by decide +kernel) (by decide +kernel)
theorem k554 : Cond.code yX4_scale cX4_scale 6 none ∈ GW := gm 554 (by decide +kernel) (by decide +kernel)
theorem k555 : Cond.methodLink RX4 55 yJ9_floorDiv_f86c9 ∈ GW := gm 555 (by decide +kernel) (by decide +kernel)
theorem k556 : Cond.static yJ9_floorDiv_f86c9 ∈ GW := gm 556 (by decide +kernel) (by decide +kernel)
theorem k557 : Cond.code yJ9_floorDiv_f86c9 cJ9_floorDiv_f86c9 6 (some .long) ∈ GW := gm 557 (by decide +kernel) (by decide +kernel)
theorem k566 : Cond.methodLink RX1 127 yX4_compareAmount ∈ GW := gm 566 (by decide +kernel) (by decide +kernel)
theorem k567 : Cond.instanceMethod yX4_compareAmount ∈ GW := gm 567 (by decide +kernel) (by decide +kernel)
theorem k568 : Cond.selects RX4 yX4_compareAmount yX4_compareAmount ∈ GW := gm 568 (by decide +kernel) (by decide +kernel)
theorem k569 : Cond.code yX4_compareAmount cX4_compareAmount 3 (some .int) ∈ GW := gm 569 (by decide +kernel) (by decide +kernel)
theorem k575 : Cond.instanceMethod yX1_leftOf ∈ GW := gm 575 (by decide +kernel) (by decide +kernel)
theorem k576 : Cond.selects RX1 yX1_leftOf yX1_leftOf ∈ GW := gm 576 (by decide +kernel) (by decide +kernel)
theorem k577 : Cond.code yX1_leftOf cX1_leftOf 3 (some .int) ∈ GW := gm 577 (by decide +kernel) (by decide +kernel)
theorem k579 : Cond.instanceMethod yX1_rightOf ∈ GW := gm 579 (by decide +kernel) (by decide +kernel)
theorem k580 : Cond.selects RX1 yX1_rightOf yX1_rightOf ∈ GW := gm 580 (by decide +kernel) (by decide +kernel)
theorem k581 : Cond.code yX1_rightOf cX1_rightOf 3 (some .int) ∈ GW := gm 581 (by decide +kernel) (by decide +kernel)
theorem k610 : Cond.methodLink RX5 77 yX5_needIndex ∈ GW := gm 610 (by decide +kernel) (by decide +kernel)
theorem k611 : Cond.static yX5_needIndex ∈ GW := gm 611 (by decide +kernel) (by decide +kernel)
theorem k612 : Cond.code yX5_needIndex cX5_needIndex 2 none ∈ GW := gm 612 (by decide +kernel) (by decide +kernel)
theorem k613 : Cond.classLink RX5 196 "java/lang/IndexOutOfBoundsException" ∈ GW := gm 613 (by decide +kernel) (by decide +kernel)
theorem k689 : Cond.methodLink RX5 80 yX3_readInto ∈ GW := gm 689 (by decide +kernel) (by decide +kernel)
theorem k690 : Cond.instanceMethod yX3_readInto ∈ GW := gm 690 (by decide +kernel) (by decide +kernel)
theorem k691 : Cond.selects RX3 yX3_readInto yX3_readInto ∈ GW := gm 691 (by decide +kernel) (by decide +kernel)
theorem k692 : Cond.code yX3_readInto cX3_readInto 2 (some .boolean) ∈ GW := gm 692 (by decide +kernel) (by decide +kernel)
theorem k693 : Cond.methodLink RX3 37 yX0_clear ∈ GW := gm 693 (by decide +kernel) (by decide +kernel)
theorem k694 : Cond.instanceMethod yX0_clear ∈ GW := gm 694 (by decide +kernel) (by decide +kernel)
theorem k695 : Cond.selects RX0 yX0_clear yX0_clear ∈ GW := gm 695 (by decide +kernel) (by decide +kernel)
theorem k696 : Cond.code yX0_clear cX0_clear 1 none ∈ GW := gm 696 (by decide +kernel) (by decide +kernel)
theorem k697 : Cond.methodLink RX3 42 yX3_pass ∈ GW := gm 697 (by decide +kernel) (by decide +kernel)
theorem k699 : Cond.instanceMethod yX3_pass ∈ GW := gm 699 (by decide +kernel) (by decide +kernel)
theorem k700 : Cond.code yX3_pass cX3_pass 1 (some .boolean) ∈ GW := gm 700 (by decide +kernel) (by decide +kernel)
theorem k715 : Cond.methodLink RX3 46 yX3_readSettings ∈ GW := gm 715 (by decide +kernel) (by decide +kernel)
theorem k717 : Cond.instanceMethod yX3_readSettings ∈ GW := gm 717 (by decide +kernel) (by decide +kernel)
theorem k718 : Cond.code yX3_readSettings cX3_readSettings 5 (some .boolean) ∈ GW := gm 718 (by decide +kernel) (by decide +kernel)
theorem k719 : Cond.methodLink RX3 53 yX3_settingHere ∈ GW := gm 719 (by decide +kernel) (by decide +kernel)
theorem k721 : Cond.instanceMethod yX3_settingHere ∈ GW := gm 721 (by decide +kernel) (by decide +kernel)
theorem k722 : Cond.code yX3_settingHere cX3_settingHere 1 (some .int) ∈ GW := gm 722 (by decide +kernel) (by decide +kernel)
theorem k724 : Cond.methodLink RX3 70 yX3_isWord ∈ GW := gm 724 (by decide +kernel) (by decide +kernel)
theorem k726 : Cond.instanceMethod yX3_isWord ∈ GW := gm 726 (by decide +kernel) (by decide +kernel)
theorem k727 : Cond.code yX3_isWord cX3_isWord 3 (some .boolean) ∈ GW := gm 727 (by decide +kernel) (by decide +kernel)
theorem k779 : Cond.methodLink RX3 57 yX3_isWrong ∈ GW := gm 779 (by decide +kernel) (by decide +kernel)
theorem k781 : Cond.instanceMethod yX3_isWrong ∈ GW := gm 781 (by decide +kernel) (by decide +kernel)
theorem k782 : Cond.code yX3_isWrong cX3_isWrong 2 (some .boolean) ∈ GW := gm 782 (by decide +kernel) (by decide +kernel)
theorem k803 : Cond.methodLink RX3 50 yX3_readSamples ∈ GW := gm 803 (by decide +kernel) (by decide +kernel)
theorem k805 : Cond.instanceMethod yX3_readSamples ∈ GW := gm 805 (by decide +kernel) (by decide +kernel)
theorem k806 : Cond.code yX3_readSamples cX3_readSamples 3 (some .boolean) ∈ GW := gm 806 (by decide +kernel) (by decide +kernel)
theorem k813 : Cond.classLink RX5 84 "java/lang/IllegalArgumentException" ∈ GW := gm 813 (by decide +kernel) (by decide +kernel)
theorem k841 : Cond.methodLink RX5 110 yX1_zeroDetails ∈ GW := gm 841 (by decide +kernel) (by decide +kernel)
theorem k842 : Cond.instanceMethod yX1_zeroDetails ∈ GW := gm 842 (by decide +kernel) (by decide +kernel)
theorem k843 : Cond.selects RX1 yX1_zeroDetails yX1_zeroDetails ∈ GW := gm 843 (by decide +kernel) (by decide +kernel)
theorem k844 : Cond.code yX1_zeroDetails cX1_zeroDetails 3 (some .int) ∈ GW := gm 844 (by decide +kernel) (by decide +kernel)
theorem k845 : Cond.methodLink RX1 202 yX4_isZero ∈ GW := gm 845 (by decide +kernel) (by decide +kernel)
theorem k846 : Cond.instanceMethod yX4_isZero ∈ GW := gm 846 (by decide +kernel) (by decide +kernel)
theorem k847 : Cond.selects RX4 yX4_isZero yX4_isZero ∈ GW := gm 847 (by decide +kernel) (by decide +kernel)
theorem k848 : Cond.code yX4_isZero cX4_isZero 1 (some .boolean) ∈ GW := gm 848 (by decide +kernel) (by decide +kernel)
theorem k849 : Cond.methodLink RX5 126 yX1_weightSum ∈ GW := gm 849 (by decide +kernel) (by decide +kernel)
theorem k850 : Cond.instanceMethod yX1_weightSum ∈ GW := gm 850 (by decide +kernel) (by decide +kernel)
theorem k851 : Cond.selects RX1 yX1_weightSum yX1_weightSum ∈ GW := gm 851 (by decide +kernel) (by decide +kernel)
theorem k852 : Cond.code yX1_weightSum cX1_weightSum 4 (some .long) ∈ GW := gm 852 (by decide +kernel) (by decide +kernel)
theorem k861 : Cond.methodLink RX5 139 yX1_isPresent ∈ GW := gm 861 (by decide +kernel) (by decide +kernel)
theorem k870 : Cond.methodLink RX5 161 yX1_presentAt ∈ GW := gm 870 (by decide +kernel) (by decide +kernel)
theorem k871 : Cond.instanceMethod yX1_presentAt ∈ GW := gm 871 (by decide +kernel) (by decide +kernel)
theorem k872 : Cond.selects RX1 yX1_presentAt yX1_presentAt ∈ GW := gm 872 (by decide +kernel) (by decide +kernel)
theorem k873 : Cond.code yX1_presentAt cX1_presentAt 4 (some .int) ∈ GW := gm 873 (by decide +kernel) (by decide +kernel)
theorem k881 : Cond.methodLink RX5 165 yX1_rightOf ∈ GW := gm 881 (by decide +kernel) (by decide +kernel)
theorem k882 : Cond.methodLink RX5 168 yX1_leftOf ∈ GW := gm 882 (by decide +kernel) (by decide +kernel)
theorem k898 : Cond.methodLink RX5 201 yX1_lineAt ∈ GW := gm 898 (by decide +kernel) (by decide +kernel)
theorem k899 : Cond.instanceMethod yX1_lineAt ∈ GW := gm 899 (by decide +kernel) (by decide +kernel)
theorem k900 : Cond.selects RX1 yX1_lineAt yX1_lineAt ∈ GW := gm 900 (by decide +kernel) (by decide +kernel)
theorem k901 : Cond.code yX1_lineAt cX1_lineAt 4 (some (.object "LiftingSignal$Whole")) ∈ GW := gm 901 (by decide +kernel) (by decide +kernel)
theorem k909 : Cond.methodLink RX5 212 yX5_needRange ∈ GW := gm 909 (by decide +kernel) (by decide +kernel)
theorem k910 : Cond.static yX5_needRange ∈ GW := gm 910 (by decide +kernel) (by decide +kernel)
theorem k911 : Cond.code yX5_needRange cX5_needRange 3 none ∈ GW := gm 911 (by decide +kernel) (by decide +kernel)
theorem k913 : Cond.methodLink RX5 216 yX4_restOfAmount ∈ GW := gm 913 (by decide +kernel) (by decide +kernel)
theorem k914 : Cond.instanceMethod yX4_restOfAmount ∈ GW := gm 914 (by decide +kernel) (by decide +kernel)
theorem k915 : Cond.selects RX4 yX4_restOfAmount yX4_restOfAmount ∈ GW := gm 915 (by decide +kernel) (by decide +kernel)
theorem k916 : Cond.code yX4_restOfAmount cX4_restOfAmount 6 (some .long) ∈ GW := gm 916 (by decide +kernel) (by decide +kernel)
theorem k917 : Cond.methodLink RX5 220 yX5_commonDivisor ∈ GW := gm 917 (by decide +kernel) (by decide +kernel)
theorem k918 : Cond.static yX5_commonDivisor ∈ GW := gm 918 (by decide +kernel) (by decide +kernel)
theorem k919 : Cond.code yX5_commonDivisor cX5_commonDivisor 11 (some .long) ∈ GW := gm 919 (by decide +kernel) (by decide +kernel)
theorem k920 : Cond.methodLink RX5 328 yJ9_max_f86c9 ∈ GW := gm 920 (by decide +kernel) (by decide +kernel)
theorem k921 : Cond.static yJ9_max_f86c9 ∈ GW := gm 921 (by decide +kernel) (by decide +kernel)
theorem k922 : Cond.code yJ9_max_f86c9 cJ9_max_f86c9 4 (some .long) ∈ GW := gm 922 (by decide +kernel) (by decide +kernel)
theorem k923 : Cond.methodLink RX5 224 yX1_integralBy ∈ GW := gm 923 (by decide +kernel) (by decide +kernel)
theorem k924 : Cond.instanceMethod yX1_integralBy ∈ GW := gm 924 (by decide +kernel) (by decide +kernel)
theorem k925 : Cond.selects RX1 yX1_integralBy yX1_integralBy ∈ GW := gm 925 (by decide +kernel) (by decide +kernel)
theorem k926 : Cond.code yX1_integralBy cX1_integralBy 3 (some (.object "LiftingSignal$Whole")) ∈ GW := gm 926 (by decide +kernel) (by decide +kernel)
theorem k935 : Cond.instanceMethod yX1_stepOfRank ∈ GW := gm 935 (by decide +kernel) (by decide +kernel)
theorem k936 : Cond.selects RX1 yX1_stepOfRank yX1_stepOfRank ∈ GW := gm 936 (by decide +kernel) (by decide +kernel)
theorem k937 : Cond.code yX1_stepOfRank cX1_stepOfRank 3 (some .int) ∈ GW := gm 937 (by decide +kernel) (by decide +kernel)
theorem k950 : Cond.methodLink RX5 244 yX1_chosenSample ∈ GW := gm 950 (by decide +kernel) (by decide +kernel)
theorem k951 : Cond.classLink RX5 247 "java/util/NoSuchElementException" ∈ GW := gm 951 (by decide +kernel) (by decide +kernel)
theorem k989 : Cond.methodLink RX5 252 yX5_refuse ∈ GW := gm 989 (by decide +kernel) (by decide +kernel)
theorem k991 : Cond.instanceMethod yX5_refuse ∈ GW := gm 991 (by decide +kernel) (by decide +kernel)
theorem k992 : Cond.code yX5_refuse cX5_refuse 4 none ∈ GW := gm 992 (by decide +kernel) (by decide +kernel)
theorem k993 : Cond.classLink RX5 323 "java/lang/IllegalStateException" ∈ GW := gm 993 (by decide +kernel) (by decide +kernel)
theorem k1009 : Cond.methodLink RX5 255 yX1_changeValue ∈ GW := gm 1009 (by decide +kernel) (by decide +kernel)
theorem k1010 : Cond.instanceMethod yX1_changeValue ∈ GW := gm 1010 (by decide +kernel) (by decide +kernel)
theorem k1011 : Cond.selects RX1 yX1_changeValue yX1_changeValue ∈ GW := gm 1011 (by decide +kernel) (by decide +kernel)
theorem k1012 : Cond.code yX1_changeValue cX1_changeValue 3 none ∈ GW := gm 1012 (by decide +kernel) (by decide +kernel)
theorem k1047 : Cond.methodLink RX5 268 yX1_invertLatest ∈ GW := gm 1047 (by decide +kernel) (by decide +kernel)
theorem k1048 : Cond.instanceMethod yX1_invertLatest ∈ GW := gm 1048 (by decide +kernel) (by decide +kernel)
theorem k1049 : Cond.selects RX1 yX1_invertLatest yX1_invertLatest ∈ GW := gm 1049 (by decide +kernel) (by decide +kernel)
theorem k1050 : Cond.code yX1_invertLatest cX1_invertLatest 3 (some .int) ∈ GW := gm 1050 (by decide +kernel) (by decide +kernel)
theorem k1063 : Cond.constant RX5 272 99999 ∈ GW := gm 1063 (by decide +kernel) (by decide +kernel)
theorem k1072 : Cond.methodLink RX5 277 yX1_cutDetails ∈ GW := gm 1072 (by decide +kernel) (by decide +kernel)
theorem k1073 : Cond.instanceMethod yX1_cutDetails ∈ GW := gm 1073 (by decide +kernel) (by decide +kernel)
theorem k1074 : Cond.selects RX1 yX1_cutDetails yX1_cutDetails ∈ GW := gm 1074 (by decide +kernel) (by decide +kernel)
theorem k1075 : Cond.code yX1_cutDetails cX1_cutDetails 5 none ∈ GW := gm 1075 (by decide +kernel) (by decide +kernel)
theorem k1077 : Cond.instanceMethod yX4_isAmountBelow ∈ GW := gm 1077 (by decide +kernel) (by decide +kernel)
theorem k1078 : Cond.selects RX4 yX4_isAmountBelow yX4_isAmountBelow ∈ GW := gm 1078 (by decide +kernel) (by decide +kernel)
theorem k1079 : Cond.code yX4_isAmountBelow cX4_isAmountBelow 3 (some .boolean) ∈ GW := gm 1079 (by decide +kernel) (by decide +kernel)
theorem k1091 : Cond.methodLink RX5 281 yX1_quantizeDetails ∈ GW := gm 1091 (by decide +kernel) (by decide +kernel)
theorem k1092 : Cond.instanceMethod yX1_quantizeDetails ∈ GW := gm 1092 (by decide +kernel) (by decide +kernel)
theorem k1093 : Cond.selects RX1 yX1_quantizeDetails yX1_quantizeDetails ∈ GW := gm 1093 (by decide +kernel) (by decide +kernel)
theorem k1094 : Cond.code yX1_quantizeDetails cX1_quantizeDetails 10 (some .long) ∈ GW := gm 1094 (by decide +kernel) (by decide +kernel)
theorem k1107 : Cond.methodLink RX5 284 yX1_dropFromRank ∈ GW := gm 1107 (by decide +kernel) (by decide +kernel)
theorem k1108 : Cond.instanceMethod yX1_dropFromRank ∈ GW := gm 1108 (by decide +kernel) (by decide +kernel)
theorem k1109 : Cond.selects RX1 yX1_dropFromRank yX1_dropFromRank ∈ GW := gm 1109 (by decide +kernel) (by decide +kernel)
theorem k1110 : Cond.code yX1_dropFromRank cX1_dropFromRank 6 (some (.object "LiftingSignal$Whole")) ∈ GW := gm 1110 (by decide +kernel) (by decide +kernel)
theorem k1111 : Cond.methodLink RX1 230 yX1_stepOfRank ∈ GW := gm 1111 (by decide +kernel) (by decide +kernel)
theorem k1112 : Cond.methodLink RX1 233 yX4_dropSign ∈ GW := gm 1112 (by decide +kernel) (by decide +kernel)
theorem k1113 : Cond.instanceMethod yX4_dropSign ∈ GW := gm 1113 (by decide +kernel) (by decide +kernel)
theorem k1114 : Cond.selects RX4 yX4_dropSign yX4_dropSign ∈ GW := gm 1114 (by decide +kernel) (by decide +kernel)
theorem k1115 : Cond.code yX4_dropSign cX4_dropSign 1 none ∈ GW := gm 1115 (by decide +kernel) (by decide +kernel)
theorem k1123 : Cond.methodLink RX5 287 yX1_copyFrom ∈ GW := gm 1123 (by decide +kernel) (by decide +kernel)
theorem k1124 : Cond.instanceMethod yX1_copyFrom ∈ GW := gm 1124 (by decide +kernel) (by decide +kernel)
theorem k1125 : Cond.selects RX1 yX1_copyFrom yX1_copyFrom ∈ GW := gm 1125 (by decide +kernel) (by decide +kernel)
theorem k1126 : Cond.code yX1_copyFrom cX1_copyFrom 3 none ∈ GW := gm 1126 (by decide +kernel) (by decide +kernel)
theorem k1127 : Cond.methodLink RX1 91 arraycopyName ∈ GW := gm 1127 (by decide +kernel) (by decide +kernel)
theorem k1133 : Cond.methodLink RX5 290 yX1_greatestDifference ∈ GW := gm 1133 (by decide +kernel) (by decide +kernel)
theorem k1134 : Cond.instanceMethod yX1_greatestDifference ∈ GW := gm 1134 (by decide +kernel) (by decide +kernel)
theorem k1135 : Cond.selects RX1 yX1_greatestDifference yX1_greatestDifference ∈ GW := gm 1135 (by decide +kernel) (by decide +kernel)
theorem k1136 : Cond.code yX1_greatestDifference cX1_greatestDifference 2 (some (.object "LiftingSignal$Whole")) ∈ GW := gm 1136 (by decide +kernel) (by decide +kernel)
theorem k1137 : Cond.methodLink RX1 240 yX1_differenceInto ∈ GW := gm 1137 (by decide +kernel) (by decide +kernel)
theorem k1139 : Cond.instanceMethod yX1_differenceInto ∈ GW := gm 1139 (by decide +kernel) (by decide +kernel)
theorem k1140 : Cond.code yX1_differenceInto cX1_differenceInto 3 none ∈ GW := gm 1140 (by decide +kernel) (by decide +kernel)
theorem k1141 : Cond.methodLink RX5 293 yX1_differenceSum ∈ GW := gm 1141 (by decide +kernel) (by decide +kernel)
theorem k1142 : Cond.instanceMethod yX1_differenceSum ∈ GW := gm 1142 (by decide +kernel) (by decide +kernel)
theorem k1143 : Cond.selects RX1 yX1_differenceSum yX1_differenceSum ∈ GW := gm 1143 (by decide +kernel) (by decide +kernel)
theorem k1144 : Cond.code yX1_differenceSum cX1_differenceSum 2 (some (.object "LiftingSignal$Whole")) ∈ GW := gm 1144 (by decide +kernel) (by decide +kernel)
theorem k1145 : Cond.methodLink RX5 296 yX1_differenceCount ∈ GW := gm 1145 (by decide +kernel) (by decide +kernel)
theorem k1146 : Cond.instanceMethod yX1_differenceCount ∈ GW := gm 1146 (by decide +kernel) (by decide +kernel)
theorem k1147 : Cond.selects RX1 yX1_differenceCount yX1_differenceCount ∈ GW := gm 1147 (by decide +kernel) (by decide +kernel)
theorem k1148 : Cond.code yX1_differenceCount cX1_differenceCount 3 (some .int) ∈ GW := gm 1148 (by decide +kernel) (by decide +kernel)
theorem k1156 : Cond.methodLink RX5 299 yX5_errorOfCut ∈ GW := gm 1156 (by decide +kernel) (by decide +kernel)
theorem k1158 : Cond.instanceMethod yX5_errorOfCut ∈ GW := gm 1158 (by decide +kernel) (by decide +kernel)
theorem k1159 : Cond.code yX5_errorOfCut cX5_errorOfCut 3 (some (.object "LiftingSignal$Whole")) ∈ GW := gm 1159 (by decide +kernel) (by decide +kernel)
theorem k1167 : Cond.constantLong RX5 303 1000 ∈ GW := gm 1167 (by decide +kernel) (by decide +kernel)
theorem k1168 : Cond.methodLink RX5 305 yX4_isAmountBelow ∈ GW := gm 1168 (by decide +kernel) (by decide +kernel)
theorem k1209 : Cond.methodLink RX6 1 objectInit ∈ GW := gm 1209 (by decide +kernel) (by decide +kernel)
theorem k1214 : Cond.methodLink RX6 191 yX6_anew ∈ GW := gm 1214 (by decide +kernel) (by decide +kernel)
theorem k1216 : Cond.instanceMethod yX6_anew ∈ GW := gm 1216 (by decide +kernel) (by decide +kernel)
theorem k1217 : Cond.code yX6_anew cX6_anew 4 none ∈ GW := gm 1217 (by decide +kernel) (by decide +kernel)
theorem k1218 : Cond.constantLong RX6 197 (-1) ∈ GW := gm 1218 (by decide +kernel) (by decide +kernel)
theorem k1219 : Cond.fieldLink RX6 64 "LiftingSignalModel" "raised" "I" ∈ GW := gm 1219 (by decide +kernel) (by decide +kernel)
theorem k1220 : Cond.fieldLink RX6 7 "LiftingSignalModel" "w" "[J" ∈ GW := gm 1220 (by decide +kernel) (by decide +kernel)
theorem k1221 : Cond.fieldLink RX6 13 "LiftingSignalModel" "aside" "[J" ∈ GW := gm 1221 (by decide +kernel) (by decide +kernel)
theorem k1222 : Cond.fieldLink RX6 16 "LiftingSignalModel" "slots" "[J" ∈ GW := gm 1222 (by decide +kernel) (by decide +kernel)
theorem k1223 : Cond.fieldLink RX6 19 "LiftingSignalModel" "areKept" "[Z" ∈ GW := gm 1223 (by decide +kernel) (by decide +kernel)
theorem k1224 : Cond.fieldLink RX6 23 "LiftingSignalModel" "place" "[I" ∈ GW := gm 1224 (by decide +kernel) (by decide +kernel)
theorem k1225 : Cond.fieldLink RX6 27 "LiftingSignalModel" "first" "[I" ∈ GW := gm 1225 (by decide +kernel) (by decide +kernel)
theorem k1226 : Cond.fieldLink RX6 185 "LiftingSignalModel" "samples" "I" ∈ GW := gm 1226 (by decide +kernel) (by decide +kernel)
theorem k1227 : Cond.fieldLink RX6 188 "LiftingSignalModel" "least" "I" ∈ GW := gm 1227 (by decide +kernel) (by decide +kernel)
theorem k1228 : Cond.fieldLink RX6 67 "LiftingSignalModel" "reasonAt" "I" ∈ GW := gm 1228 (by decide +kernel) (by decide +kernel)
theorem k1229 : Cond.fieldLink RX6 70 "LiftingSignalModel" "causeAt" "I" ∈ GW := gm 1229 (by decide +kernel) (by decide +kernel)
theorem k1230 : Cond.fieldLink RX6 30 "LiftingSignalModel" "aboutAt" "I" ∈ GW := gm 1230 (by decide +kernel) (by decide +kernel)
theorem k1231 : Cond.fieldLink RX6 34 "LiftingSignalModel" "text" "[I" ∈ GW := gm 1231 (by decide +kernel) (by decide +kernel)
theorem k1232 : Cond.fieldLink RX6 77 "LiftingSignalModel" "length" "I" ∈ GW := gm 1232 (by decide +kernel) (by decide +kernel)
theorem k1233 : Cond.fieldLink RX6 88 "LiftingSignalModel" "at" "I" ∈ GW := gm 1233 (by decide +kernel) (by decide +kernel)
theorem k1234 : Cond.fieldLink RX6 95 "LiftingSignalModel" "errorCode" "I" ∈ GW := gm 1234 (by decide +kernel) (by decide +kernel)
theorem k1235 : Cond.fieldLink RX6 37 "LiftingSignalModel" "errorPosition" "I" ∈ GW := gm 1235 (by decide +kernel) (by decide +kernel)
theorem k1236 : Cond.fieldLink RX6 91 "LiftingSignalModel" "isBad" "Z" ∈ GW := gm 1236 (by decide +kernel) (by decide +kernel)
theorem k1237 : Cond.fieldLink RX6 46 "LiftingSignalModel" "newSamples" "I" ∈ GW := gm 1237 (by decide +kernel) (by decide +kernel)
theorem k1238 : Cond.fieldLink RX6 49 "LiftingSignalModel" "newLeast" "I" ∈ GW := gm 1238 (by decide +kernel) (by decide +kernel)
theorem k1239 : Cond.fieldLink RX6 52 "LiftingSignalModel" "newSplit" "I" ∈ GW := gm 1239 (by decide +kernel) (by decide +kernel)
theorem k1240 : Cond.fieldLink RX6 55 "LiftingSignalModel" "newPredict" "I" ∈ GW := gm 1240 (by decide +kernel) (by decide +kernel)
theorem k1241 : Cond.fieldLink RX6 58 "LiftingSignalModel" "newUpdate" "I" ∈ GW := gm 1241 (by decide +kernel) (by decide +kernel)
theorem k1242 : Cond.fieldLink RX6 135 "LiftingSignalModel" "told" "I" ∈ GW := gm 1242 (by decide +kernel) (by decide +kernel)
theorem k1244 : Cond.fieldLink RX6 40 "LiftingSignalModel" "newPlace" "[I" ∈ GW := gm 1244 (by decide +kernel) (by decide +kernel)
theorem k1245 : Cond.fieldLink RX6 43 "LiftingSignalModel" "newValue" "[I" ∈ GW := gm 1245 (by decide +kernel) (by decide +kernel)
theorem k1309 : Cond.methodLink RX6 80 yX6_four ∈ GW := gm 1309 (by decide +kernel) (by decide +kernel)
theorem k1311 : Cond.instanceMethod yX6_four ∈ GW := gm 1311 (by decide +kernel) (by decide +kernel)
theorem k1312 : Cond.code yX6_four cX6_four 3 none ∈ GW := gm 1312 (by decide +kernel) (by decide +kernel)
theorem k1317 : Cond.methodLink RX6 84 yX6_in ∈ GW := gm 1317 (by decide +kernel) (by decide +kernel)
theorem k1318 : Cond.static yX6_in ∈ GW := gm 1318 (by decide +kernel) (by decide +kernel)
theorem k1319 : Cond.code yX6_in cX6_in 6 (some .boolean) ∈ GW := gm 1319 (by decide +kernel) (by decide +kernel)
theorem k1320 : Cond.methodLink RX6 73 yX6_fails ∈ GW := gm 1320 (by decide +kernel) (by decide +kernel)
theorem k1322 : Cond.instanceMethod yX6_fails ∈ GW := gm 1322 (by decide +kernel) (by decide +kernel)
theorem k1323 : Cond.code yX6_fails cX6_fails 2 (some .int) ∈ GW := gm 1323 (by decide +kernel) (by decide +kernel)
theorem k1328 : Cond.methodLink RX6 194 yX6_reads ∈ GW := gm 1328 (by decide +kernel) (by decide +kernel)
theorem k1330 : Cond.instanceMethod yX6_reads ∈ GW := gm 1330 (by decide +kernel) (by decide +kernel)
theorem k1331 : Cond.code yX6_reads cX6_reads 3 none ∈ GW := gm 1331 (by decide +kernel) (by decide +kernel)
theorem k1332 : Cond.methodLink RX6 176 yX6_setting ∈ GW := gm 1332 (by decide +kernel) (by decide +kernel)
theorem k1334 : Cond.instanceMethod yX6_setting ∈ GW := gm 1334 (by decide +kernel) (by decide +kernel)
theorem k1335 : Cond.code yX6_setting cX6_setting 1 (some .boolean) ∈ GW := gm 1335 (by decide +kernel) (by decide +kernel)
theorem k1336 : Cond.constantLong RX6 138 10421318 ∈ GW := gm 1336 (by decide +kernel) (by decide +kernel)
theorem k1337 : Cond.methodLink RX6 117 yX6_isWord ∈ GW := gm 1337 (by decide +kernel) (by decide +kernel)
theorem k1339 : Cond.instanceMethod yX6_isWord ∈ GW := gm 1339 (by decide +kernel) (by decide +kernel)
theorem k1340 : Cond.code yX6_isWord cX6_isWord 3 (some .boolean) ∈ GW := gm 1340 (by decide +kernel) (by decide +kernel)
theorem k1341 : Cond.methodLink RX6 113 yX6_word ∈ GW := gm 1341 (by decide +kernel) (by decide +kernel)
theorem k1343 : Cond.instanceMethod yX6_word ∈ GW := gm 1343 (by decide +kernel) (by decide +kernel)
theorem k1344 : Cond.code yX6_word cX6_word 5 (some .long) ∈ GW := gm 1344 (by decide +kernel) (by decide +kernel)
theorem k1345 : Cond.methodLink RX6 102 yX6_here ∈ GW := gm 1345 (by decide +kernel) (by decide +kernel)
theorem k1347 : Cond.instanceMethod yX6_here ∈ GW := gm 1347 (by decide +kernel) (by decide +kernel)
theorem k1348 : Cond.code yX6_here cX6_here 1 (some .int) ∈ GW := gm 1348 (by decide +kernel) (by decide +kernel)
theorem k1361 : Cond.methodLink RX6 128 yX6_wrong ∈ GW := gm 1361 (by decide +kernel) (by decide +kernel)
theorem k1363 : Cond.instanceMethod yX6_wrong ∈ GW := gm 1363 (by decide +kernel) (by decide +kernel)
theorem k1364 : Cond.code yX6_wrong cX6_wrong 3 none ∈ GW := gm 1364 (by decide +kernel) (by decide +kernel)
theorem k1376 : Cond.constantLong RX6 154 6459750749 ∈ GW := gm 1376 (by decide +kernel) (by decide +kernel)
theorem k1380 : Cond.constantLong RX6 162 309910109 ∈ GW := gm 1380 (by decide +kernel) (by decide +kernel)
theorem k1383 : Cond.constantLong RX6 168 6476969 ∈ GW := gm 1383 (by decide +kernel) (by decide +kernel)
theorem k1394 : Cond.constantLong RX6 180 47 ∈ GW := gm 1394 (by decide +kernel) (by decide +kernel)
theorem k1411 : Cond.constantLong RX6 212 8 ∈ GW := gm 1411 (by decide +kernel) (by decide +kernel)
theorem k1412 : Cond.methodLink RX6 214 yX6_presents ∈ GW := gm 1412 (by decide +kernel) (by decide +kernel)
theorem k1414 : Cond.instanceMethod yX6_presents ∈ GW := gm 1414 (by decide +kernel) (by decide +kernel)
theorem k1415 : Cond.code yX6_presents cX6_presents 1 (some .int) ∈ GW := gm 1415 (by decide +kernel) (by decide +kernel)
theorem k1416 : Cond.methodLink RX6 199 yX6_steps ∈ GW := gm 1416 (by decide +kernel) (by decide +kernel)
theorem k1418 : Cond.instanceMethod yX6_steps ∈ GW := gm 1418 (by decide +kernel) (by decide +kernel)
theorem k1419 : Cond.code yX6_steps cX6_steps 1 (some .int) ∈ GW := gm 1419 (by decide +kernel) (by decide +kernel)
theorem k1420 : Cond.methodLink RX6 217 yX6_zeros ∈ GW := gm 1420 (by decide +kernel) (by decide +kernel)
theorem k1422 : Cond.instanceMethod yX6_zeros ∈ GW := gm 1422 (by decide +kernel) (by decide +kernel)
theorem k1423 : Cond.code yX6_zeros cX6_zeros 3 (some .int) ∈ GW := gm 1423 (by decide +kernel) (by decide +kernel)
theorem k1428 : Cond.methodLink RX6 220 yX6_weights ∈ GW := gm 1428 (by decide +kernel) (by decide +kernel)
theorem k1430 : Cond.instanceMethod yX6_weights ∈ GW := gm 1430 (by decide +kernel) (by decide +kernel)
theorem k1431 : Cond.code yX6_weights cX6_weights 4 (some .long) ∈ GW := gm 1431 (by decide +kernel) (by decide +kernel)
theorem k1432 : Cond.methodLink RX6 202 yX6_isPresent ∈ GW := gm 1432 (by decide +kernel) (by decide +kernel)
theorem k1434 : Cond.instanceMethod yX6_isPresent ∈ GW := gm 1434 (by decide +kernel) (by decide +kernel)
theorem k1435 : Cond.code yX6_isPresent cX6_isPresent 2 (some .boolean) ∈ GW := gm 1435 (by decide +kernel) (by decide +kernel)
theorem k1440 : Cond.methodLink RX6 205 yX6_isSample ∈ GW := gm 1440 (by decide +kernel) (by decide +kernel)
theorem k1442 : Cond.instanceMethod yX6_isSample ∈ GW := gm 1442 (by decide +kernel) (by decide +kernel)
theorem k1443 : Cond.code yX6_isSample cX6_isSample 2 (some .boolean) ∈ GW := gm 1443 (by decide +kernel) (by decide +kernel)
theorem k1444 : Cond.constantLong RX6 223 5 ∈ GW := gm 1444 (by decide +kernel) (by decide +kernel)
theorem k1449 : Cond.methodLink RX6 225 yX6_beside ∈ GW := gm 1449 (by decide +kernel) (by decide +kernel)
theorem k1451 : Cond.instanceMethod yX6_beside ∈ GW := gm 1451 (by decide +kernel) (by decide +kernel)
theorem k1452 : Cond.code yX6_beside cX6_beside 4 (some .int) ∈ GW := gm 1452 (by decide +kernel) (by decide +kernel)
theorem k1461 : Cond.methodLink RX6 229 yX6_isStep ∈ GW := gm 1461 (by decide +kernel) (by decide +kernel)
theorem k1463 : Cond.instanceMethod yX6_isStep ∈ GW := gm 1463 (by decide +kernel) (by decide +kernel)
theorem k1464 : Cond.code yX6_isStep cX6_isStep 2 (some .boolean) ∈ GW := gm 1464 (by decide +kernel) (by decide +kernel)
theorem k1469 : Cond.methodLink RX6 232 yX6_floor ∈ GW := gm 1469 (by decide +kernel) (by decide +kernel)
theorem k1470 : Cond.static yX6_floor ∈ GW := gm 1470 (by decide +kernel) (by decide +kernel)
theorem k1471 : Cond.code yX6_floor cX6_floor 6 (some .long) ∈ GW := gm 1471 (by decide +kernel) (by decide +kernel)
theorem k1476 : Cond.methodLink RX6 236 yX6_whole ∈ GW := gm 1476 (by decide +kernel) (by decide +kernel)
theorem k1478 : Cond.instanceMethod yX6_whole ∈ GW := gm 1478 (by decide +kernel) (by decide +kernel)
theorem k1479 : Cond.code yX6_whole cX6_whole 4 (some .long) ∈ GW := gm 1479 (by decide +kernel) (by decide +kernel)
theorem k1488 : Cond.methodLink RX6 239 yX6_amount ∈ GW := gm 1488 (by decide +kernel) (by decide +kernel)
theorem k1489 : Cond.static yX6_amount ∈ GW := gm 1489 (by decide +kernel) (by decide +kernel)
theorem k1490 : Cond.code yX6_amount cX6_amount 2 (some .long) ∈ GW := gm 1490 (by decide +kernel) (by decide +kernel)
theorem k1491 : Cond.methodLink RX6 243 yX6_common ∈ GW := gm 1491 (by decide +kernel) (by decide +kernel)
theorem k1492 : Cond.static yX6_common ∈ GW := gm 1492 (by decide +kernel) (by decide +kernel)
theorem k1493 : Cond.code yX6_common cX6_common 10 (some .long) ∈ GW := gm 1493 (by decide +kernel) (by decide +kernel)
theorem k1506 : Cond.methodLink RX6 248 yX6_bitsNow ∈ GW := gm 1506 (by decide +kernel) (by decide +kernel)
theorem k1508 : Cond.instanceMethod yX6_bitsNow ∈ GW := gm 1508 (by decide +kernel) (by decide +kernel)
theorem k1509 : Cond.code yX6_bitsNow cX6_bitsNow 5 (some .int) ∈ GW := gm 1509 (by decide +kernel) (by decide +kernel)
theorem k1510 : Cond.constantLong RX6 246 2 ∈ GW := gm 1510 (by decide +kernel) (by decide +kernel)
theorem k1523 : Cond.methodLink RX6 283 yX6_nextOne ∈ GW := gm 1523 (by decide +kernel) (by decide +kernel)
theorem k1525 : Cond.instanceMethod yX6_nextOne ∈ GW := gm 1525 (by decide +kernel) (by decide +kernel)
theorem k1526 : Cond.code yX6_nextOne cX6_nextOne 3 (some .int) ∈ GW := gm 1526 (by decide +kernel) (by decide +kernel)
theorem k1527 : Cond.methodLink RX6 277 yX6_isInner ∈ GW := gm 1527 (by decide +kernel) (by decide +kernel)
theorem k1529 : Cond.instanceMethod yX6_isInner ∈ GW := gm 1529 (by decide +kernel) (by decide +kernel)
theorem k1530 : Cond.code yX6_isInner cX6_isInner 2 (some .boolean) ∈ GW := gm 1530 (by decide +kernel) (by decide +kernel)
theorem k1551 : Cond.methodLink RX6 286 yX6_sets ∈ GW := gm 1551 (by decide +kernel) (by decide +kernel)
theorem k1553 : Cond.instanceMethod yX6_sets ∈ GW := gm 1553 (by decide +kernel) (by decide +kernel)
theorem k1554 : Cond.code yX6_sets cX6_sets 5 (some .int) ∈ GW := gm 1554 (by decide +kernel) (by decide +kernel)
theorem k1567 : Cond.constantLong RX6 290 (-9999) ∈ GW := gm 1567 (by decide +kernel) (by decide +kernel)
theorem k1568 : Cond.constantLong RX6 292 9999 ∈ GW := gm 1568 (by decide +kernel) (by decide +kernel)
theorem k1569 : Cond.methodLink RX6 294 yX6_stateFails ∈ GW := gm 1569 (by decide +kernel) (by decide +kernel)
theorem k1571 : Cond.instanceMethod yX6_stateFails ∈ GW := gm 1571 (by decide +kernel) (by decide +kernel)
theorem k1572 : Cond.code yX6_stateFails cX6_stateFails 5 (some .int) ∈ GW := gm 1572 (by decide +kernel) (by decide +kernel)
theorem k1577 : Cond.constantLong RX6 298 999 ∈ GW := gm 1577 (by decide +kernel) (by decide +kernel)
theorem k1578 : Cond.constant RX6 300 1103515245 ∈ GW := gm 1578 (by decide +kernel) (by decide +kernel)
theorem k1587 : Cond.constantLong RX6 304 46 ∈ GW := gm 1587 (by decide +kernel) (by decide +kernel)
theorem k1588 : Cond.methodLink RX6 306 yX6_goesOn ∈ GW := gm 1588 (by decide +kernel) (by decide +kernel)
theorem k1590 : Cond.instanceMethod yX6_goesOn ∈ GW := gm 1590 (by decide +kernel) (by decide +kernel)
theorem k1591 : Cond.code yX6_goesOn cX6_goesOn 4 (some .int) ∈ GW := gm 1591 (by decide +kernel) (by decide +kernel)
theorem k1625 : Cond.constantLong RX6 314 99999 ∈ GW := gm 1625 (by decide +kernel) (by decide +kernel)
theorem k1630 : Cond.methodLink RX6 316 yX6_cuts ∈ GW := gm 1630 (by decide +kernel) (by decide +kernel)
theorem k1632 : Cond.instanceMethod yX6_cuts ∈ GW := gm 1632 (by decide +kernel) (by decide +kernel)
theorem k1633 : Cond.code yX6_cuts cX6_cuts 8 none ∈ GW := gm 1633 (by decide +kernel) (by decide +kernel)
theorem k1646 : Cond.methodLink RX6 323 yX6_puts ∈ GW := gm 1646 (by decide +kernel) (by decide +kernel)
theorem k1648 : Cond.instanceMethod yX6_puts ∈ GW := gm 1648 (by decide +kernel) (by decide +kernel)
theorem k1649 : Cond.code yX6_puts cX6_puts 2 none ∈ GW := gm 1649 (by decide +kernel) (by decide +kernel)
theorem k1650 : Cond.methodLink RX6 326 yX6_errorOf ∈ GW := gm 1650 (by decide +kernel) (by decide +kernel)
theorem k1652 : Cond.instanceMethod yX6_errorOf ∈ GW := gm 1652 (by decide +kernel) (by decide +kernel)
theorem k1653 : Cond.code yX6_errorOf cX6_errorOf 7 (some .long) ∈ GW := gm 1653 (by decide +kernel) (by decide +kernel)
theorem k1654 : Cond.methodLink RX6 320 yX6_takesBack ∈ GW := gm 1654 (by decide +kernel) (by decide +kernel)
theorem k1656 : Cond.instanceMethod yX6_takesBack ∈ GW := gm 1656 (by decide +kernel) (by decide +kernel)
theorem k1657 : Cond.code yX6_takesBack cX6_takesBack 2 none ∈ GW := gm 1657 (by decide +kernel) (by decide +kernel)
theorem k1662 : Cond.methodLink RX6 329 yX6_errorBy ∈ GW := gm 1662 (by decide +kernel) (by decide +kernel)
theorem k1664 : Cond.instanceMethod yX6_errorBy ∈ GW := gm 1664 (by decide +kernel) (by decide +kernel)
theorem k1665 : Cond.code yX6_errorBy cX6_errorBy 3 (some .long) ∈ GW := gm 1665 (by decide +kernel) (by decide +kernel)
theorem k1674 : Cond.methodLink RX6 333 yX6_bitsOf ∈ GW := gm 1674 (by decide +kernel) (by decide +kernel)
theorem k1676 : Cond.instanceMethod yX6_bitsOf ∈ GW := gm 1676 (by decide +kernel) (by decide +kernel)
theorem k1677 : Cond.code yX6_bitsOf cX6_bitsOf 4 (some .int) ∈ GW := gm 1677 (by decide +kernel) (by decide +kernel)
theorem dJ9_floorDiv_f86c9_0 : decode cJ9_floorDiv_f86c9 0 = .ok (.lload_n 0, 1) := by decide +kernel
theorem dJ9_floorDiv_f86c9_1 : decode cJ9_floorDiv_f86c9 1 = .ok (.lload_n 2, 1) := by decide +kernel
theorem dJ9_floorDiv_f86c9_2 : decode cJ9_floorDiv_f86c9 2 = .ok (.ldiv, 1) := by decide +kernel
theorem dJ9_floorDiv_f86c9_3 : decode cJ9_floorDiv_f86c9 3 = .ok (.lstore 4, 2) := by decide +kernel
theorem dJ9_floorDiv_f86c9_5 : decode cJ9_floorDiv_f86c9 5 = .ok (.lload_n 0, 1) := by decide +kernel
theorem dJ9_floorDiv_f86c9_6 : decode cJ9_floorDiv_f86c9 6 = .ok (.lload_n 2, 1) := by decide +kernel
theorem dJ9_floorDiv_f86c9_7 : decode cJ9_floorDiv_f86c9 7 = .ok (.lxor, 1) := by decide +kernel
theorem dJ9_floorDiv_f86c9_8 : decode cJ9_floorDiv_f86c9 8 = .ok (.lconst 0, 1) := by decide +kernel
theorem dJ9_floorDiv_f86c9_9 : decode cJ9_floorDiv_f86c9 9 = .ok (.lcmp, 1) := by decide +kernel
theorem dJ9_floorDiv_f86c9_10 : decode cJ9_floorDiv_f86c9 10 = .ok (.ifCond .ge 17, 3) := by decide +kernel
theorem dJ9_floorDiv_f86c9_27 : decode cJ9_floorDiv_f86c9 27 = .ok (.lload 4, 2) := by decide +kernel
theorem dJ9_floorDiv_f86c9_29 : decode cJ9_floorDiv_f86c9 29 = .ok (.lreturn, 1) := by decide +kernel
theorem dX0_clear_0 : decode cX0_clear 0 = .ok (.aload_n 0, 1) := by decide +kernel
theorem dX0_clear_1 : decode cX0_clear 1 = .ok (.iconst 0, 1) := by decide +kernel
theorem dX0_clear_2 : decode cX0_clear 2 = .ok (.putfield 18, 3) := by decide +kernel
theorem dX0_clear_5 : decode cX0_clear 5 = .ok (.aload_n 0, 1) := by decide +kernel
theorem dX0_clear_6 : decode cX0_clear 6 = .ok (.iconst 0, 1) := by decide +kernel
theorem dX0_clear_7 : decode cX0_clear 7 = .ok (.putfield 22, 3) := by decide +kernel
theorem dX0_clear_10 : decode cX0_clear 10 = .ok (.aload_n 0, 1) := by decide +kernel
theorem dX0_clear_11 : decode cX0_clear 11 = .ok (.iconst 2, 1) := by decide +kernel
theorem dX0_clear_12 : decode cX0_clear 12 = .ok (.putfield 25, 3) := by decide +kernel
theorem dX0_clear_15 : decode cX0_clear 15 = .ok (.aload_n 0, 1) := by decide +kernel
theorem dX0_clear_16 : decode cX0_clear 16 = .ok (.iconst 1, 1) := by decide +kernel
theorem dX0_clear_17 : decode cX0_clear 17 = .ok (.putfield 28, 3) := by decide +kernel
theorem dX0_clear_20 : decode cX0_clear 20 = .ok (.aload_n 0, 1) := by decide +kernel
theorem dX0_clear_21 : decode cX0_clear 21 = .ok (.iconst 2, 1) := by decide +kernel
theorem dX0_clear_22 : decode cX0_clear 22 = .ok (.putfield 32, 3) := by decide +kernel
theorem dX0_clear_25 : decode cX0_clear 25 = .ok (.return_, 1) := by decide +kernel
theorem dX0_firstWeight_0 : decode cX0_firstWeight 0 = .ok (.iload_n 1, 1) := by decide +kernel
theorem dX0_firstWeight_1 : decode cX0_firstWeight 1 = .ok (.ifCond .le 9, 3) := by decide +kernel
theorem dX0_firstWeight_4 : decode cX0_firstWeight 4 = .ok (.iload_n 1, 1) := by decide +kernel
theorem dX0_firstWeight_5 : decode cX0_firstWeight 5 = .ok (.iconst 1, 1) := by decide +kernel
theorem dX0_firstWeight_6 : decode cX0_firstWeight 6 = .ok (.isub, 1) := by decide +kernel
theorem dX0_firstWeight_7 : decode cX0_firstWeight 7 = .ok (.goto 4, 3) := by decide +kernel
theorem dX0_firstWeight_10 : decode cX0_firstWeight 10 = .ok (.iconst 0, 1) := by decide +kernel
theorem dX0_firstWeight_11 : decode cX0_firstWeight 11 = .ok (.istore_n 2, 1) := by decide +kernel
theorem dX0_firstWeight_12 : decode cX0_firstWeight 12 = .ok (.iload_n 1, 1) := by decide +kernel
theorem dX0_firstWeight_13 : decode cX0_firstWeight 13 = .ok (.aload_n 0, 1) := by decide +kernel
theorem dX0_firstWeight_14 : decode cX0_firstWeight 14 = .ok (.getfield 18, 3) := by decide +kernel
theorem dX0_firstWeight_17 : decode cX0_firstWeight 17 = .ok (.iconst 1, 1) := by decide +kernel
theorem dX0_firstWeight_18 : decode cX0_firstWeight 18 = .ok (.isub, 1) := by decide +kernel
theorem dX0_firstWeight_19 : decode cX0_firstWeight 19 = .ok (.if_icmp .ge 9, 3) := by decide +kernel
theorem dX0_firstWeight_22 : decode cX0_firstWeight 22 = .ok (.iload_n 1, 1) := by decide +kernel
theorem dX0_firstWeight_23 : decode cX0_firstWeight 23 = .ok (.iconst 1, 1) := by decide +kernel
theorem dX0_firstWeight_24 : decode cX0_firstWeight 24 = .ok (.iadd, 1) := by decide +kernel
theorem dX0_firstWeight_25 : decode cX0_firstWeight 25 = .ok (.goto 9, 3) := by decide +kernel
theorem dX0_firstWeight_28 : decode cX0_firstWeight 28 = .ok (.aload_n 0, 1) := by decide +kernel
theorem dX0_firstWeight_29 : decode cX0_firstWeight 29 = .ok (.getfield 18, 3) := by decide +kernel
theorem dX0_firstWeight_32 : decode cX0_firstWeight 32 = .ok (.iconst 1, 1) := by decide +kernel
theorem dX0_firstWeight_33 : decode cX0_firstWeight 33 = .ok (.isub, 1) := by decide +kernel
theorem dX0_firstWeight_34 : decode cX0_firstWeight 34 = .ok (.istore_n 3, 1) := by decide +kernel
theorem dX0_firstWeight_35 : decode cX0_firstWeight 35 = .ok (.aload_n 0, 1) := by decide +kernel
theorem dX0_firstWeight_36 : decode cX0_firstWeight 36 = .ok (.getfield 9, 3) := by decide +kernel
theorem dX0_firstWeight_39 : decode cX0_firstWeight 39 = .ok (.iload_n 3, 1) := by decide +kernel
theorem dX0_firstWeight_40 : decode cX0_firstWeight 40 = .ok (.iaload, 1) := by decide +kernel
theorem dX0_firstWeight_41 : decode cX0_firstWeight 41 = .ok (.aload_n 0, 1) := by decide +kernel
theorem dX0_firstWeight_42 : decode cX0_firstWeight 42 = .ok (.getfield 9, 3) := by decide +kernel
theorem dX0_firstWeight_45 : decode cX0_firstWeight 45 = .ok (.iload_n 2, 1) := by decide +kernel
theorem dX0_firstWeight_46 : decode cX0_firstWeight 46 = .ok (.iaload, 1) := by decide +kernel
theorem dX0_firstWeight_47 : decode cX0_firstWeight 47 = .ok (.isub, 1) := by decide +kernel
theorem dX0_firstWeight_48 : decode cX0_firstWeight 48 = .ok (.ireturn, 1) := by decide +kernel
theorem dX1_begin_0 : decode cX1_begin 0 = .ok (.aload_n 0, 1) := by decide +kernel
theorem dX1_begin_1 : decode cX1_begin 1 = .ok (.getfield 36, 3) := by decide +kernel
theorem dX1_begin_4 : decode cX1_begin 4 = .ok (.lconst 0, 1) := by decide +kernel
theorem dX1_begin_5 : decode cX1_begin 5 = .ok (.invokevirtual 54, 3) := by decide +kernel
theorem dX1_begin_8 : decode cX1_begin 8 = .ok (.iconst 0, 1) := by decide +kernel
theorem dX1_begin_9 : decode cX1_begin 9 = .ok (.istore_n 1, 1) := by decide +kernel
theorem dX1_begin_10 : decode cX1_begin 10 = .ok (.iload_n 1, 1) := by decide +kernel
theorem dX1_begin_11 : decode cX1_begin 11 = .ok (.aload_n 0, 1) := by decide +kernel
theorem dX1_begin_12 : decode cX1_begin 12 = .ok (.getfield 49, 3) := by decide +kernel
theorem dX1_begin_15 : decode cX1_begin 15 = .ok (.getfield 58, 3) := by decide +kernel
theorem dX1_begin_18 : decode cX1_begin 18 = .ok (.if_icmp .ge 69, 3) := by decide +kernel
theorem dX1_begin_21 : decode cX1_begin 21 = .ok (.aload_n 0, 1) := by decide +kernel
theorem dX1_begin_22 : decode cX1_begin 22 = .ok (.getfield 11, 3) := by decide +kernel
theorem dX1_begin_25 : decode cX1_begin 25 = .ok (.iload_n 1, 1) := by decide +kernel
theorem dX1_begin_26 : decode cX1_begin 26 = .ok (.aaload, 1) := by decide +kernel
theorem dX1_begin_27 : decode cX1_begin 27 = .ok (.aload_n 0, 1) := by decide +kernel
theorem dX1_begin_28 : decode cX1_begin 28 = .ok (.getfield 49, 3) := by decide +kernel
theorem dX1_begin_31 : decode cX1_begin 31 = .ok (.getfield 63, 3) := by decide +kernel
theorem dX1_begin_34 : decode cX1_begin 34 = .ok (.iload_n 1, 1) := by decide +kernel
theorem dX1_begin_35 : decode cX1_begin 35 = .ok (.iaload, 1) := by decide +kernel
theorem dX1_begin_36 : decode cX1_begin 36 = .ok (.i2l, 1) := by decide +kernel
theorem dX1_begin_37 : decode cX1_begin 37 = .ok (.invokevirtual 54, 3) := by decide +kernel
theorem dX1_begin_40 : decode cX1_begin 40 = .ok (.aload_n 0, 1) := by decide +kernel
theorem dX1_begin_41 : decode cX1_begin 41 = .ok (.getfield 17, 3) := by decide +kernel
theorem dX1_begin_44 : decode cX1_begin 44 = .ok (.iload_n 1, 1) := by decide +kernel
theorem dX1_begin_45 : decode cX1_begin 45 = .ok (.aload_n 0, 1) := by decide +kernel
theorem dX1_begin_46 : decode cX1_begin 46 = .ok (.getfield 49, 3) := by decide +kernel
theorem dX1_begin_49 : decode cX1_begin 49 = .ok (.iload_n 1, 1) := by decide +kernel
theorem dX1_begin_50 : decode cX1_begin 50 = .ok (.invokevirtual 66, 3) := by decide +kernel
theorem dX1_begin_53 : decode cX1_begin 53 = .ok (.i2l, 1) := by decide +kernel
theorem dX1_begin_54 : decode cX1_begin 54 = .ok (.lastore, 1) := by decide +kernel
theorem dX1_begin_55 : decode cX1_begin 55 = .ok (.aload_n 0, 1) := by decide +kernel
theorem dX1_begin_56 : decode cX1_begin 56 = .ok (.getfield 21, 3) := by decide +kernel
theorem dX1_begin_59 : decode cX1_begin 59 = .ok (.iload_n 1, 1) := by decide +kernel
theorem dX1_begin_60 : decode cX1_begin 60 = .ok (.iconst (-1), 1) := by decide +kernel
theorem dX1_begin_61 : decode cX1_begin 61 = .ok (.iastore, 1) := by decide +kernel
theorem dX1_begin_62 : decode cX1_begin 62 = .ok (.aload_n 0, 1) := by decide +kernel
theorem dX1_begin_63 : decode cX1_begin 63 = .ok (.getfield 36, 3) := by decide +kernel
theorem dX1_begin_66 : decode cX1_begin 66 = .ok (.aload_n 0, 1) := by decide +kernel
theorem dX1_begin_67 : decode cX1_begin 67 = .ok (.getfield 11, 3) := by decide +kernel
theorem dX1_begin_70 : decode cX1_begin 70 = .ok (.iload_n 1, 1) := by decide +kernel
theorem dX1_begin_71 : decode cX1_begin 71 = .ok (.aaload, 1) := by decide +kernel
theorem dX1_begin_72 : decode cX1_begin 72 = .ok (.aload_n 0, 1) := by decide +kernel
theorem dX1_begin_73 : decode cX1_begin 73 = .ok (.getfield 17, 3) := by decide +kernel
theorem dX1_begin_76 : decode cX1_begin 76 = .ok (.iload_n 1, 1) := by decide +kernel
theorem dX1_begin_77 : decode cX1_begin 77 = .ok (.laload, 1) := by decide +kernel
theorem dX1_begin_78 : decode cX1_begin 78 = .ok (.invokevirtual 70, 3) := by decide +kernel
theorem dX1_begin_81 : decode cX1_begin 81 = .ok (.iinc 1 1, 3) := by decide +kernel
theorem dX1_begin_84 : decode cX1_begin 84 = .ok (.goto (-74), 3) := by decide +kernel
theorem dX1_begin_87 : decode cX1_begin 87 = .ok (.aload_n 0, 1) := by decide +kernel
theorem dX1_begin_88 : decode cX1_begin 88 = .ok (.iconst 0, 1) := by decide +kernel
theorem dX1_begin_89 : decode cX1_begin 89 = .ok (.putfield 31, 3) := by decide +kernel
theorem dX1_begin_92 : decode cX1_begin 92 = .ok (.return_, 1) := by decide +kernel
theorem dX1_bitsOfDetails_0 : decode cX1_bitsOfDetails 0 = .ok (.iconst 0, 1) := by decide +kernel
theorem dX1_bitsOfDetails_1 : decode cX1_bitsOfDetails 1 = .ok (.istore_n 1, 1) := by decide +kernel
theorem dX1_bitsOfDetails_2 : decode cX1_bitsOfDetails 2 = .ok (.iconst 0, 1) := by decide +kernel
theorem dX1_bitsOfDetails_3 : decode cX1_bitsOfDetails 3 = .ok (.istore_n 2, 1) := by decide +kernel
theorem dX1_bitsOfDetails_4 : decode cX1_bitsOfDetails 4 = .ok (.iload_n 2, 1) := by decide +kernel
theorem dX1_bitsOfDetails_5 : decode cX1_bitsOfDetails 5 = .ok (.aload_n 0, 1) := by decide +kernel
theorem dX1_bitsOfDetails_6 : decode cX1_bitsOfDetails 6 = .ok (.getfield 31, 3) := by decide +kernel
theorem dX1_bitsOfDetails_9 : decode cX1_bitsOfDetails 9 = .ok (.if_icmp .ge 26, 3) := by decide +kernel
theorem dX1_bitsOfDetails_35 : decode cX1_bitsOfDetails 35 = .ok (.iload_n 1, 1) := by decide +kernel
theorem dX1_bitsOfDetails_36 : decode cX1_bitsOfDetails 36 = .ok (.ireturn, 1) := by decide +kernel
theorem dX1_changeValue_0 : decode cX1_changeValue 0 = .ok (.aload_n 0, 1) := by decide +kernel
theorem dX1_changeValue_1 : decode cX1_changeValue 1 = .ok (.getfield 36, 3) := by decide +kernel
theorem dX1_changeValue_4 : decode cX1_changeValue 4 = .ok (.aload_n 0, 1) := by decide +kernel
theorem dX1_changeValue_5 : decode cX1_changeValue 5 = .ok (.getfield 11, 3) := by decide +kernel
theorem dX1_changeValue_8 : decode cX1_changeValue 8 = .ok (.iload_n 1, 1) := by decide +kernel
theorem dX1_changeValue_9 : decode cX1_changeValue 9 = .ok (.aaload, 1) := by decide +kernel
theorem dX1_changeValue_10 : decode cX1_changeValue 10 = .ok (.aload_n 0, 1) := by decide +kernel
theorem dX1_changeValue_11 : decode cX1_changeValue 11 = .ok (.getfield 17, 3) := by decide +kernel
theorem dX1_changeValue_14 : decode cX1_changeValue 14 = .ok (.iload_n 1, 1) := by decide +kernel
theorem dX1_changeValue_15 : decode cX1_changeValue 15 = .ok (.laload, 1) := by decide +kernel
theorem dX1_changeValue_16 : decode cX1_changeValue 16 = .ok (.lneg, 1) := by decide +kernel
theorem dX1_changeValue_17 : decode cX1_changeValue 17 = .ok (.invokevirtual 70, 3) := by decide +kernel
theorem dX1_changeValue_20 : decode cX1_changeValue 20 = .ok (.aload_n 0, 1) := by decide +kernel
theorem dX1_changeValue_21 : decode cX1_changeValue 21 = .ok (.getfield 11, 3) := by decide +kernel
theorem dX1_changeValue_24 : decode cX1_changeValue 24 = .ok (.iload_n 1, 1) := by decide +kernel
theorem dX1_changeValue_25 : decode cX1_changeValue 25 = .ok (.aaload, 1) := by decide +kernel
theorem dX1_changeValue_26 : decode cX1_changeValue 26 = .ok (.iload_n 2, 1) := by decide +kernel
theorem dX1_changeValue_27 : decode cX1_changeValue 27 = .ok (.i2l, 1) := by decide +kernel
theorem dX1_changeValue_28 : decode cX1_changeValue 28 = .ok (.invokevirtual 54, 3) := by decide +kernel
theorem dX1_changeValue_31 : decode cX1_changeValue 31 = .ok (.aload_n 0, 1) := by decide +kernel
theorem dX1_changeValue_32 : decode cX1_changeValue 32 = .ok (.getfield 36, 3) := by decide +kernel
theorem dX1_changeValue_35 : decode cX1_changeValue 35 = .ok (.aload_n 0, 1) := by decide +kernel
theorem dX1_changeValue_36 : decode cX1_changeValue 36 = .ok (.getfield 11, 3) := by decide +kernel
theorem dX1_changeValue_39 : decode cX1_changeValue 39 = .ok (.iload_n 1, 1) := by decide +kernel
theorem dX1_changeValue_40 : decode cX1_changeValue 40 = .ok (.aaload, 1) := by decide +kernel
theorem dX1_changeValue_41 : decode cX1_changeValue 41 = .ok (.aload_n 0, 1) := by decide +kernel
theorem dX1_changeValue_42 : decode cX1_changeValue 42 = .ok (.getfield 17, 3) := by decide +kernel
theorem dX1_changeValue_45 : decode cX1_changeValue 45 = .ok (.iload_n 1, 1) := by decide +kernel
theorem dX1_changeValue_46 : decode cX1_changeValue 46 = .ok (.laload, 1) := by decide +kernel
theorem dX1_changeValue_47 : decode cX1_changeValue 47 = .ok (.invokevirtual 70, 3) := by decide +kernel
theorem dX1_changeValue_50 : decode cX1_changeValue 50 = .ok (.return_, 1) := by decide +kernel
theorem dX1_chosenSample_0 : decode cX1_chosenSample 0 = .ok (.aload_n 0, 1) := by decide +kernel
theorem dX1_chosenSample_1 : decode cX1_chosenSample 1 = .ok (.invokevirtual 116, 3) := by decide +kernel
theorem dX1_chosenSample_4 : decode cX1_chosenSample 4 = .ok (.aload_n 0, 1) := by decide +kernel
theorem dX1_chosenSample_5 : decode cX1_chosenSample 5 = .ok (.getfield 49, 3) := by decide +kernel
theorem dX1_chosenSample_8 : decode cX1_chosenSample 8 = .ok (.getfield 120, 3) := by decide +kernel
theorem dX1_chosenSample_11 : decode cX1_chosenSample 11 = .ok (.if_icmp .gt 5, 3) := by decide +kernel
theorem dX1_chosenSample_14 : decode cX1_chosenSample 14 = .ok (.iconst (-1), 1) := by decide +kernel
theorem dX1_chosenSample_15 : decode cX1_chosenSample 15 = .ok (.ireturn, 1) := by decide +kernel
theorem dX1_copyFrom_0 : decode cX1_copyFrom 0 = .ok (.iconst 0, 1) := by decide +kernel
theorem dX1_copyFrom_1 : decode cX1_copyFrom 1 = .ok (.istore_n 2, 1) := by decide +kernel
theorem dX1_copyFrom_2 : decode cX1_copyFrom 2 = .ok (.iload_n 2, 1) := by decide +kernel
theorem dX1_copyFrom_3 : decode cX1_copyFrom 3 = .ok (.aload_n 0, 1) := by decide +kernel
theorem dX1_copyFrom_4 : decode cX1_copyFrom 4 = .ok (.getfield 49, 3) := by decide +kernel
theorem dX1_copyFrom_7 : decode cX1_copyFrom 7 = .ok (.getfield 58, 3) := by decide +kernel
theorem dX1_copyFrom_10 : decode cX1_copyFrom 10 = .ok (.if_icmp .ge 24, 3) := by decide +kernel
theorem dX1_copyFrom_13 : decode cX1_copyFrom 13 = .ok (.aload_n 0, 1) := by decide +kernel
theorem dX1_copyFrom_14 : decode cX1_copyFrom 14 = .ok (.getfield 11, 3) := by decide +kernel
theorem dX1_copyFrom_17 : decode cX1_copyFrom 17 = .ok (.iload_n 2, 1) := by decide +kernel
theorem dX1_copyFrom_18 : decode cX1_copyFrom 18 = .ok (.aaload, 1) := by decide +kernel
theorem dX1_copyFrom_19 : decode cX1_copyFrom 19 = .ok (.aload_n 1, 1) := by decide +kernel
theorem dX1_copyFrom_20 : decode cX1_copyFrom 20 = .ok (.getfield 11, 3) := by decide +kernel
theorem dX1_copyFrom_23 : decode cX1_copyFrom 23 = .ok (.iload_n 2, 1) := by decide +kernel
theorem dX1_copyFrom_24 : decode cX1_copyFrom 24 = .ok (.aaload, 1) := by decide +kernel
theorem dX1_copyFrom_25 : decode cX1_copyFrom 25 = .ok (.invokevirtual 87, 3) := by decide +kernel
theorem dX1_copyFrom_28 : decode cX1_copyFrom 28 = .ok (.iinc 2 1, 3) := by decide +kernel
theorem dX1_copyFrom_31 : decode cX1_copyFrom 31 = .ok (.goto (-29), 3) := by decide +kernel
theorem dX1_copyFrom_34 : decode cX1_copyFrom 34 = .ok (.aload_n 1, 1) := by decide +kernel
theorem dX1_copyFrom_35 : decode cX1_copyFrom 35 = .ok (.getfield 17, 3) := by decide +kernel
theorem dX1_copyFrom_38 : decode cX1_copyFrom 38 = .ok (.iconst 0, 1) := by decide +kernel
theorem dX1_copyFrom_39 : decode cX1_copyFrom 39 = .ok (.aload_n 0, 1) := by decide +kernel
theorem dX1_copyFrom_40 : decode cX1_copyFrom 40 = .ok (.getfield 17, 3) := by decide +kernel
theorem dX1_copyFrom_43 : decode cX1_copyFrom 43 = .ok (.iconst 0, 1) := by decide +kernel
theorem dX1_copyFrom_44 : decode cX1_copyFrom 44 = .ok (.bipush 48, 2) := by decide +kernel
theorem dX1_copyFrom_46 : decode cX1_copyFrom 46 = .ok (.invokestatic 91, 3) := by decide +kernel
theorem dX1_copyFrom_49 : decode cX1_copyFrom 49 = .ok (.aload_n 1, 1) := by decide +kernel
theorem dX1_copyFrom_50 : decode cX1_copyFrom 50 = .ok (.getfield 21, 3) := by decide +kernel
theorem dX1_copyFrom_53 : decode cX1_copyFrom 53 = .ok (.iconst 0, 1) := by decide +kernel
theorem dX1_copyFrom_54 : decode cX1_copyFrom 54 = .ok (.aload_n 0, 1) := by decide +kernel
theorem dX1_copyFrom_55 : decode cX1_copyFrom 55 = .ok (.getfield 21, 3) := by decide +kernel
theorem dX1_copyFrom_58 : decode cX1_copyFrom 58 = .ok (.iconst 0, 1) := by decide +kernel
theorem dX1_copyFrom_59 : decode cX1_copyFrom 59 = .ok (.bipush 48, 2) := by decide +kernel
theorem dX1_copyFrom_61 : decode cX1_copyFrom 61 = .ok (.invokestatic 91, 3) := by decide +kernel
theorem dX1_copyFrom_64 : decode cX1_copyFrom 64 = .ok (.iconst 0, 1) := by decide +kernel
theorem dX1_copyFrom_65 : decode cX1_copyFrom 65 = .ok (.istore_n 2, 1) := by decide +kernel
theorem dX1_copyFrom_66 : decode cX1_copyFrom 66 = .ok (.iload_n 2, 1) := by decide +kernel
theorem dX1_copyFrom_67 : decode cX1_copyFrom 67 = .ok (.aload_n 1, 1) := by decide +kernel
theorem dX1_copyFrom_68 : decode cX1_copyFrom 68 = .ok (.getfield 31, 3) := by decide +kernel
theorem dX1_copyFrom_71 : decode cX1_copyFrom 71 = .ok (.if_icmp .ge 24, 3) := by decide +kernel
theorem dX1_copyFrom_95 : decode cX1_copyFrom 95 = .ok (.aload_n 0, 1) := by decide +kernel
theorem dX1_copyFrom_96 : decode cX1_copyFrom 96 = .ok (.aload_n 1, 1) := by decide +kernel
theorem dX1_copyFrom_97 : decode cX1_copyFrom 97 = .ok (.getfield 31, 3) := by decide +kernel
theorem dX1_copyFrom_100 : decode cX1_copyFrom 100 = .ok (.putfield 31, 3) := by decide +kernel
theorem dX1_copyFrom_103 : decode cX1_copyFrom 103 = .ok (.aload_n 0, 1) := by decide +kernel
theorem dX1_copyFrom_104 : decode cX1_copyFrom 104 = .ok (.getfield 36, 3) := by decide +kernel
theorem dX1_copyFrom_107 : decode cX1_copyFrom 107 = .ok (.aload_n 1, 1) := by decide +kernel
theorem dX1_copyFrom_108 : decode cX1_copyFrom 108 = .ok (.getfield 36, 3) := by decide +kernel
theorem dX1_copyFrom_111 : decode cX1_copyFrom 111 = .ok (.invokevirtual 87, 3) := by decide +kernel
theorem dX1_copyFrom_114 : decode cX1_copyFrom 114 = .ok (.aload_n 0, 1) := by decide +kernel
theorem dX1_copyFrom_115 : decode cX1_copyFrom 115 = .ok (.aload_n 1, 1) := by decide +kernel
theorem dX1_copyFrom_116 : decode cX1_copyFrom 116 = .ok (.getfield 77, 3) := by decide +kernel
theorem dX1_copyFrom_119 : decode cX1_copyFrom 119 = .ok (.putfield 77, 3) := by decide +kernel
theorem dX1_copyFrom_122 : decode cX1_copyFrom 122 = .ok (.aload_n 0, 1) := by decide +kernel
theorem dX1_copyFrom_123 : decode cX1_copyFrom 123 = .ok (.aload_n 1, 1) := by decide +kernel
theorem dX1_copyFrom_124 : decode cX1_copyFrom 124 = .ok (.getfield 81, 3) := by decide +kernel
theorem dX1_copyFrom_127 : decode cX1_copyFrom 127 = .ok (.putfield 81, 3) := by decide +kernel
theorem dX1_copyFrom_130 : decode cX1_copyFrom 130 = .ok (.aload_n 0, 1) := by decide +kernel
theorem dX1_copyFrom_131 : decode cX1_copyFrom 131 = .ok (.aload_n 1, 1) := by decide +kernel
theorem dX1_copyFrom_132 : decode cX1_copyFrom 132 = .ok (.getfield 86, 3) := by decide +kernel
theorem dX1_copyFrom_135 : decode cX1_copyFrom 135 = .ok (.putfield 86, 3) := by decide +kernel
theorem dX1_copyFrom_138 : decode cX1_copyFrom 138 = .ok (.return_, 1) := by decide +kernel
theorem dX1_cutDetails_0 : decode cX1_cutDetails 0 = .ok (.iconst 0, 1) := by decide +kernel
theorem dX1_cutDetails_1 : decode cX1_cutDetails 1 = .ok (.istore_n 3, 1) := by decide +kernel
theorem dX1_cutDetails_2 : decode cX1_cutDetails 2 = .ok (.iload_n 3, 1) := by decide +kernel
theorem dX1_cutDetails_3 : decode cX1_cutDetails 3 = .ok (.aload_n 0, 1) := by decide +kernel
theorem dX1_cutDetails_4 : decode cX1_cutDetails 4 = .ok (.getfield 31, 3) := by decide +kernel
theorem dX1_cutDetails_7 : decode cX1_cutDetails 7 = .ok (.if_icmp .ge 68, 3) := by decide +kernel
theorem dX1_cutDetails_75 : decode cX1_cutDetails 75 = .ok (.return_, 1) := by decide +kernel
theorem dX1_differenceCount_0 : decode cX1_differenceCount 0 = .ok (.iconst 0, 1) := by decide +kernel
theorem dX1_differenceCount_1 : decode cX1_differenceCount 1 = .ok (.istore_n 1, 1) := by decide +kernel
theorem dX1_differenceCount_2 : decode cX1_differenceCount 2 = .ok (.iconst 0, 1) := by decide +kernel
theorem dX1_differenceCount_3 : decode cX1_differenceCount 3 = .ok (.istore_n 2, 1) := by decide +kernel
theorem dX1_differenceCount_4 : decode cX1_differenceCount 4 = .ok (.iload_n 2, 1) := by decide +kernel
theorem dX1_differenceCount_5 : decode cX1_differenceCount 5 = .ok (.aload_n 0, 1) := by decide +kernel
theorem dX1_differenceCount_6 : decode cX1_differenceCount 6 = .ok (.getfield 49, 3) := by decide +kernel
theorem dX1_differenceCount_9 : decode cX1_differenceCount 9 = .ok (.getfield 58, 3) := by decide +kernel
theorem dX1_differenceCount_12 : decode cX1_differenceCount 12 = .ok (.if_icmp .ge 31, 3) := by decide +kernel
theorem dX1_differenceCount_15 : decode cX1_differenceCount 15 = .ok (.aload_n 0, 1) := by decide +kernel
theorem dX1_differenceCount_16 : decode cX1_differenceCount 16 = .ok (.aload_n 0, 1) := by decide +kernel
theorem dX1_differenceCount_17 : decode cX1_differenceCount 17 = .ok (.getfield 43, 3) := by decide +kernel
theorem dX1_differenceCount_20 : decode cX1_differenceCount 20 = .ok (.iload_n 2, 1) := by decide +kernel
theorem dX1_differenceCount_21 : decode cX1_differenceCount 21 = .ok (.invokevirtual 240, 3) := by decide +kernel
theorem dX1_differenceCount_24 : decode cX1_differenceCount 24 = .ok (.aload_n 0, 1) := by decide +kernel
theorem dX1_differenceCount_25 : decode cX1_differenceCount 25 = .ok (.getfield 43, 3) := by decide +kernel
theorem dX1_differenceCount_28 : decode cX1_differenceCount 28 = .ok (.invokevirtual 202, 3) := by decide +kernel
theorem dX1_differenceCount_31 : decode cX1_differenceCount 31 = .ok (.ifCond .ne 6, 3) := by decide +kernel
theorem dX1_differenceCount_37 : decode cX1_differenceCount 37 = .ok (.iinc 2 1, 3) := by decide +kernel
theorem dX1_differenceCount_40 : decode cX1_differenceCount 40 = .ok (.goto (-36), 3) := by decide +kernel
theorem dX1_differenceCount_43 : decode cX1_differenceCount 43 = .ok (.iload_n 1, 1) := by decide +kernel
theorem dX1_differenceCount_44 : decode cX1_differenceCount 44 = .ok (.ireturn, 1) := by decide +kernel
theorem dX1_differenceInto_0 : decode cX1_differenceInto 0 = .ok (.aload_n 1, 1) := by decide +kernel
theorem dX1_differenceInto_1 : decode cX1_differenceInto 1 = .ok (.aload_n 0, 1) := by decide +kernel
theorem dX1_differenceInto_2 : decode cX1_differenceInto 2 = .ok (.getfield 11, 3) := by decide +kernel
theorem dX1_differenceInto_5 : decode cX1_differenceInto 5 = .ok (.iload_n 2, 1) := by decide +kernel
theorem dX1_differenceInto_6 : decode cX1_differenceInto 6 = .ok (.aaload, 1) := by decide +kernel
theorem dX1_differenceInto_7 : decode cX1_differenceInto 7 = .ok (.invokevirtual 87, 3) := by decide +kernel
theorem dX1_differenceInto_10 : decode cX1_differenceInto 10 = .ok (.aload_n 1, 1) := by decide +kernel
theorem dX1_differenceInto_11 : decode cX1_differenceInto 11 = .ok (.aload_n 0, 1) := by decide +kernel
theorem dX1_differenceInto_12 : decode cX1_differenceInto 12 = .ok (.getfield 40, 3) := by decide +kernel
theorem dX1_differenceInto_15 : decode cX1_differenceInto 15 = .ok (.aload_n 0, 1) := by decide +kernel
theorem dX1_differenceInto_16 : decode cX1_differenceInto 16 = .ok (.getfield 49, 3) := by decide +kernel
theorem dX1_differenceInto_19 : decode cX1_differenceInto 19 = .ok (.getfield 63, 3) := by decide +kernel
theorem dX1_differenceInto_22 : decode cX1_differenceInto 22 = .ok (.iload_n 2, 1) := by decide +kernel
theorem dX1_differenceInto_23 : decode cX1_differenceInto 23 = .ok (.iaload, 1) := by decide +kernel
theorem dX1_differenceInto_24 : decode cX1_differenceInto 24 = .ok (.ineg, 1) := by decide +kernel
theorem dX1_differenceInto_25 : decode cX1_differenceInto 25 = .ok (.i2l, 1) := by decide +kernel
theorem dX1_differenceInto_26 : decode cX1_differenceInto 26 = .ok (.invokevirtual 70, 3) := by decide +kernel
theorem dX1_differenceInto_29 : decode cX1_differenceInto 29 = .ok (.aload_n 1, 1) := by decide +kernel
theorem dX1_differenceInto_30 : decode cX1_differenceInto 30 = .ok (.invokevirtual 233, 3) := by decide +kernel
theorem dX1_differenceInto_33 : decode cX1_differenceInto 33 = .ok (.return_, 1) := by decide +kernel
theorem dX1_differenceSum_0 : decode cX1_differenceSum 0 = .ok (.aload_n 0, 1) := by decide +kernel
theorem dX1_differenceSum_1 : decode cX1_differenceSum 1 = .ok (.getfield 46, 3) := by decide +kernel
theorem dX1_differenceSum_4 : decode cX1_differenceSum 4 = .ok (.lconst 0, 1) := by decide +kernel
theorem dX1_differenceSum_5 : decode cX1_differenceSum 5 = .ok (.invokevirtual 54, 3) := by decide +kernel
theorem dX1_differenceSum_8 : decode cX1_differenceSum 8 = .ok (.iconst 0, 1) := by decide +kernel
theorem dX1_differenceSum_9 : decode cX1_differenceSum 9 = .ok (.istore_n 1, 1) := by decide +kernel
theorem dX1_differenceSum_10 : decode cX1_differenceSum 10 = .ok (.iload_n 1, 1) := by decide +kernel
theorem dX1_differenceSum_11 : decode cX1_differenceSum 11 = .ok (.aload_n 0, 1) := by decide +kernel
theorem dX1_differenceSum_12 : decode cX1_differenceSum 12 = .ok (.getfield 49, 3) := by decide +kernel
theorem dX1_differenceSum_15 : decode cX1_differenceSum 15 = .ok (.getfield 58, 3) := by decide +kernel
theorem dX1_differenceSum_18 : decode cX1_differenceSum 18 = .ok (.if_icmp .ge 30, 3) := by decide +kernel
theorem dX1_differenceSum_21 : decode cX1_differenceSum 21 = .ok (.aload_n 0, 1) := by decide +kernel
theorem dX1_differenceSum_22 : decode cX1_differenceSum 22 = .ok (.aload_n 0, 1) := by decide +kernel
theorem dX1_differenceSum_23 : decode cX1_differenceSum 23 = .ok (.getfield 43, 3) := by decide +kernel
theorem dX1_differenceSum_26 : decode cX1_differenceSum 26 = .ok (.iload_n 1, 1) := by decide +kernel
theorem dX1_differenceSum_27 : decode cX1_differenceSum 27 = .ok (.invokevirtual 240, 3) := by decide +kernel
theorem dX1_differenceSum_30 : decode cX1_differenceSum 30 = .ok (.aload_n 0, 1) := by decide +kernel
theorem dX1_differenceSum_31 : decode cX1_differenceSum 31 = .ok (.getfield 46, 3) := by decide +kernel
theorem dX1_differenceSum_34 : decode cX1_differenceSum 34 = .ok (.aload_n 0, 1) := by decide +kernel
theorem dX1_differenceSum_35 : decode cX1_differenceSum 35 = .ok (.getfield 43, 3) := by decide +kernel
theorem dX1_differenceSum_38 : decode cX1_differenceSum 38 = .ok (.lconst 1, 1) := by decide +kernel
theorem dX1_differenceSum_39 : decode cX1_differenceSum 39 = .ok (.invokevirtual 70, 3) := by decide +kernel
theorem dX1_differenceSum_42 : decode cX1_differenceSum 42 = .ok (.iinc 1 1, 3) := by decide +kernel
theorem dX1_differenceSum_45 : decode cX1_differenceSum 45 = .ok (.goto (-35), 3) := by decide +kernel
theorem dX1_differenceSum_48 : decode cX1_differenceSum 48 = .ok (.aload_n 0, 1) := by decide +kernel
theorem dX1_differenceSum_49 : decode cX1_differenceSum 49 = .ok (.getfield 46, 3) := by decide +kernel
theorem dX1_differenceSum_52 : decode cX1_differenceSum 52 = .ok (.areturn, 1) := by decide +kernel
theorem dX1_driftNow_0 : decode cX1_driftNow 0 = .ok (.aload_n 0, 1) := by decide +kernel
theorem dX1_driftNow_1 : decode cX1_driftNow 1 = .ok (.getfield 46, 3) := by decide +kernel
theorem dX1_driftNow_4 : decode cX1_driftNow 4 = .ok (.aload_n 0, 1) := by decide +kernel
theorem dX1_driftNow_5 : decode cX1_driftNow 5 = .ok (.getfield 36, 3) := by decide +kernel
theorem dX1_driftNow_8 : decode cX1_driftNow 8 = .ok (.invokevirtual 87, 3) := by decide +kernel
theorem dX1_driftNow_11 : decode cX1_driftNow 11 = .ok (.iconst 0, 1) := by decide +kernel
theorem dX1_driftNow_12 : decode cX1_driftNow 12 = .ok (.istore_n 1, 1) := by decide +kernel
theorem dX1_driftNow_13 : decode cX1_driftNow 13 = .ok (.iload_n 1, 1) := by decide +kernel
theorem dX1_driftNow_14 : decode cX1_driftNow 14 = .ok (.aload_n 0, 1) := by decide +kernel
theorem dX1_driftNow_15 : decode cX1_driftNow 15 = .ok (.getfield 49, 3) := by decide +kernel
theorem dX1_driftNow_18 : decode cX1_driftNow 18 = .ok (.getfield 58, 3) := by decide +kernel
theorem dX1_driftNow_21 : decode cX1_driftNow 21 = .ok (.if_icmp .ge 37, 3) := by decide +kernel
theorem dX1_driftNow_24 : decode cX1_driftNow 24 = .ok (.aload_n 0, 1) := by decide +kernel
theorem dX1_driftNow_25 : decode cX1_driftNow 25 = .ok (.iload_n 1, 1) := by decide +kernel
theorem dX1_driftNow_26 : decode cX1_driftNow 26 = .ok (.invokevirtual 100, 3) := by decide +kernel
theorem dX1_driftNow_29 : decode cX1_driftNow 29 = .ok (.ifCond .eq 23, 3) := by decide +kernel
theorem dX1_driftNow_32 : decode cX1_driftNow 32 = .ok (.aload_n 0, 1) := by decide +kernel
theorem dX1_driftNow_33 : decode cX1_driftNow 33 = .ok (.getfield 46, 3) := by decide +kernel
theorem dX1_driftNow_36 : decode cX1_driftNow 36 = .ok (.aload_n 0, 1) := by decide +kernel
theorem dX1_driftNow_37 : decode cX1_driftNow 37 = .ok (.getfield 11, 3) := by decide +kernel
theorem dX1_driftNow_40 : decode cX1_driftNow 40 = .ok (.iload_n 1, 1) := by decide +kernel
theorem dX1_driftNow_41 : decode cX1_driftNow 41 = .ok (.aaload, 1) := by decide +kernel
theorem dX1_driftNow_42 : decode cX1_driftNow 42 = .ok (.aload_n 0, 1) := by decide +kernel
theorem dX1_driftNow_43 : decode cX1_driftNow 43 = .ok (.getfield 17, 3) := by decide +kernel
theorem dX1_driftNow_46 : decode cX1_driftNow 46 = .ok (.iload_n 1, 1) := by decide +kernel
theorem dX1_driftNow_47 : decode cX1_driftNow 47 = .ok (.laload, 1) := by decide +kernel
theorem dX1_driftNow_48 : decode cX1_driftNow 48 = .ok (.lneg, 1) := by decide +kernel
theorem dX1_driftNow_49 : decode cX1_driftNow 49 = .ok (.invokevirtual 70, 3) := by decide +kernel
theorem dX1_driftNow_52 : decode cX1_driftNow 52 = .ok (.iinc 1 1, 3) := by decide +kernel
theorem dX1_driftNow_55 : decode cX1_driftNow 55 = .ok (.goto (-42), 3) := by decide +kernel
theorem dX1_driftNow_58 : decode cX1_driftNow 58 = .ok (.aload_n 0, 1) := by decide +kernel
theorem dX1_driftNow_59 : decode cX1_driftNow 59 = .ok (.getfield 46, 3) := by decide +kernel
theorem dX1_driftNow_62 : decode cX1_driftNow 62 = .ok (.areturn, 1) := by decide +kernel
theorem dX1_dropFromRank_0 : decode cX1_dropFromRank 0 = .ok (.aload_n 0, 1) := by decide +kernel
theorem dX1_dropFromRank_1 : decode cX1_dropFromRank 1 = .ok (.getfield 46, 3) := by decide +kernel
theorem dX1_dropFromRank_4 : decode cX1_dropFromRank 4 = .ok (.astore_n 2, 1) := by decide +kernel
theorem dX1_dropFromRank_5 : decode cX1_dropFromRank 5 = .ok (.aload_n 2, 1) := by decide +kernel
theorem dX1_dropFromRank_6 : decode cX1_dropFromRank 6 = .ok (.lconst 0, 1) := by decide +kernel
theorem dX1_dropFromRank_7 : decode cX1_dropFromRank 7 = .ok (.invokevirtual 54, 3) := by decide +kernel
theorem dX1_dropFromRank_10 : decode cX1_dropFromRank 10 = .ok (.aload_n 0, 1) := by decide +kernel
theorem dX1_dropFromRank_11 : decode cX1_dropFromRank 11 = .ok (.iload_n 1, 1) := by decide +kernel
theorem dX1_dropFromRank_12 : decode cX1_dropFromRank 12 = .ok (.invokevirtual 230, 3) := by decide +kernel
theorem dX1_dropFromRank_15 : decode cX1_dropFromRank 15 = .ok (.istore_n 3, 1) := by decide +kernel
theorem dX1_dropFromRank_16 : decode cX1_dropFromRank 16 = .ok (.iload_n 3, 1) := by decide +kernel
theorem dX1_dropFromRank_17 : decode cX1_dropFromRank 17 = .ok (.iconst (-1), 1) := by decide +kernel
theorem dX1_dropFromRank_18 : decode cX1_dropFromRank 18 = .ok (.if_icmp .eq 20, 3) := by decide +kernel
theorem dX1_dropFromRank_38 : decode cX1_dropFromRank 38 = .ok (.iconst 0, 1) := by decide +kernel
theorem dX1_dropFromRank_39 : decode cX1_dropFromRank 39 = .ok (.istore 4, 2) := by decide +kernel
theorem dX1_dropFromRank_41 : decode cX1_dropFromRank 41 = .ok (.iload 4, 2) := by decide +kernel
theorem dX1_dropFromRank_43 : decode cX1_dropFromRank 43 = .ok (.aload_n 0, 1) := by decide +kernel
theorem dX1_dropFromRank_44 : decode cX1_dropFromRank 44 = .ok (.getfield 31, 3) := by decide +kernel
theorem dX1_dropFromRank_47 : decode cX1_dropFromRank 47 = .ok (.if_icmp .ge 60, 3) := by decide +kernel
theorem dX1_dropFromRank_107 : decode cX1_dropFromRank 107 = .ok (.aload_n 2, 1) := by decide +kernel
theorem dX1_dropFromRank_108 : decode cX1_dropFromRank 108 = .ok (.areturn, 1) := by decide +kernel
theorem dX1_energyOfDetails_0 : decode cX1_energyOfDetails 0 = .ok (.lconst 0, 1) := by decide +kernel
theorem dX1_energyOfDetails_1 : decode cX1_energyOfDetails 1 = .ok (.lstore_n 1, 1) := by decide +kernel
theorem dX1_energyOfDetails_2 : decode cX1_energyOfDetails 2 = .ok (.iconst 0, 1) := by decide +kernel
theorem dX1_energyOfDetails_3 : decode cX1_energyOfDetails 3 = .ok (.istore_n 3, 1) := by decide +kernel
theorem dX1_energyOfDetails_4 : decode cX1_energyOfDetails 4 = .ok (.iload_n 3, 1) := by decide +kernel
theorem dX1_energyOfDetails_5 : decode cX1_energyOfDetails 5 = .ok (.aload_n 0, 1) := by decide +kernel
theorem dX1_energyOfDetails_6 : decode cX1_energyOfDetails 6 = .ok (.getfield 31, 3) := by decide +kernel
theorem dX1_energyOfDetails_9 : decode cX1_energyOfDetails 9 = .ok (.if_icmp .ge 41, 3) := by decide +kernel
theorem dX1_energyOfDetails_50 : decode cX1_energyOfDetails 50 = .ok (.lload_n 1, 1) := by decide +kernel
theorem dX1_energyOfDetails_51 : decode cX1_energyOfDetails 51 = .ok (.lreturn, 1) := by decide +kernel
theorem dX1_greatestDifference_0 : decode cX1_greatestDifference 0 = .ok (.aload_n 0, 1) := by decide +kernel
theorem dX1_greatestDifference_1 : decode cX1_greatestDifference 1 = .ok (.getfield 46, 3) := by decide +kernel
theorem dX1_greatestDifference_4 : decode cX1_greatestDifference 4 = .ok (.lconst 0, 1) := by decide +kernel
theorem dX1_greatestDifference_5 : decode cX1_greatestDifference 5 = .ok (.invokevirtual 54, 3) := by decide +kernel
theorem dX1_greatestDifference_8 : decode cX1_greatestDifference 8 = .ok (.iconst 0, 1) := by decide +kernel
theorem dX1_greatestDifference_9 : decode cX1_greatestDifference 9 = .ok (.istore_n 1, 1) := by decide +kernel
theorem dX1_greatestDifference_10 : decode cX1_greatestDifference 10 = .ok (.iload_n 1, 1) := by decide +kernel
theorem dX1_greatestDifference_11 : decode cX1_greatestDifference 11 = .ok (.aload_n 0, 1) := by decide +kernel
theorem dX1_greatestDifference_12 : decode cX1_greatestDifference 12 = .ok (.getfield 49, 3) := by decide +kernel
theorem dX1_greatestDifference_15 : decode cX1_greatestDifference 15 = .ok (.getfield 58, 3) := by decide +kernel
theorem dX1_greatestDifference_18 : decode cX1_greatestDifference 18 = .ok (.if_icmp .ge 43, 3) := by decide +kernel
theorem dX1_greatestDifference_21 : decode cX1_greatestDifference 21 = .ok (.aload_n 0, 1) := by decide +kernel
theorem dX1_greatestDifference_22 : decode cX1_greatestDifference 22 = .ok (.aload_n 0, 1) := by decide +kernel
theorem dX1_greatestDifference_23 : decode cX1_greatestDifference 23 = .ok (.getfield 43, 3) := by decide +kernel
theorem dX1_greatestDifference_26 : decode cX1_greatestDifference 26 = .ok (.iload_n 1, 1) := by decide +kernel
theorem dX1_greatestDifference_27 : decode cX1_greatestDifference 27 = .ok (.invokevirtual 240, 3) := by decide +kernel
theorem dX1_greatestDifference_30 : decode cX1_greatestDifference 30 = .ok (.aload_n 0, 1) := by decide +kernel
theorem dX1_greatestDifference_31 : decode cX1_greatestDifference 31 = .ok (.getfield 43, 3) := by decide +kernel
theorem dX1_greatestDifference_34 : decode cX1_greatestDifference 34 = .ok (.aload_n 0, 1) := by decide +kernel
theorem dX1_greatestDifference_35 : decode cX1_greatestDifference 35 = .ok (.getfield 46, 3) := by decide +kernel
theorem dX1_greatestDifference_38 : decode cX1_greatestDifference 38 = .ok (.invokevirtual 127, 3) := by decide +kernel
theorem dX1_greatestDifference_41 : decode cX1_greatestDifference 41 = .ok (.ifCond .le 14, 3) := by decide +kernel
theorem dX1_greatestDifference_55 : decode cX1_greatestDifference 55 = .ok (.iinc 1 1, 3) := by decide +kernel
theorem dX1_greatestDifference_58 : decode cX1_greatestDifference 58 = .ok (.goto (-48), 3) := by decide +kernel
theorem dX1_greatestDifference_61 : decode cX1_greatestDifference 61 = .ok (.aload_n 0, 1) := by decide +kernel
theorem dX1_greatestDifference_62 : decode cX1_greatestDifference 62 = .ok (.getfield 46, 3) := by decide +kernel
theorem dX1_greatestDifference_65 : decode cX1_greatestDifference 65 = .ok (.areturn, 1) := by decide +kernel
theorem dX1_integralBy_0 : decode cX1_integralBy 0 = .ok (.aload_n 0, 1) := by decide +kernel
theorem dX1_integralBy_1 : decode cX1_integralBy 1 = .ok (.getfield 46, 3) := by decide +kernel
theorem dX1_integralBy_4 : decode cX1_integralBy 4 = .ok (.aload_n 0, 1) := by decide +kernel
theorem dX1_integralBy_5 : decode cX1_integralBy 5 = .ok (.getfield 36, 3) := by decide +kernel
theorem dX1_integralBy_8 : decode cX1_integralBy 8 = .ok (.invokevirtual 87, 3) := by decide +kernel
theorem dX1_integralBy_11 : decode cX1_integralBy 11 = .ok (.aload_n 0, 1) := by decide +kernel
theorem dX1_integralBy_12 : decode cX1_integralBy 12 = .ok (.getfield 46, 3) := by decide +kernel
theorem dX1_integralBy_15 : decode cX1_integralBy 15 = .ok (.lconst 1, 1) := by decide +kernel
theorem dX1_integralBy_16 : decode cX1_integralBy 16 = .ok (.lload_n 1, 1) := by decide +kernel
theorem dX1_integralBy_17 : decode cX1_integralBy 17 = .ok (.invokevirtual 104, 3) := by decide +kernel
theorem dX1_integralBy_20 : decode cX1_integralBy 20 = .ok (.aload_n 0, 1) := by decide +kernel
theorem dX1_integralBy_21 : decode cX1_integralBy 21 = .ok (.getfield 46, 3) := by decide +kernel
theorem dX1_integralBy_24 : decode cX1_integralBy 24 = .ok (.areturn, 1) := by decide +kernel
theorem dX1_invertLatest_0 : decode cX1_invertLatest 0 = .ok (.iconst 0, 1) := by decide +kernel
theorem dX1_invertLatest_1 : decode cX1_invertLatest 1 = .ok (.istore_n 2, 1) := by decide +kernel
theorem dX1_invertLatest_2 : decode cX1_invertLatest 2 = .ok (.iload_n 2, 1) := by decide +kernel
theorem dX1_invertLatest_3 : decode cX1_invertLatest 3 = .ok (.iload_n 1, 1) := by decide +kernel
theorem dX1_invertLatest_4 : decode cX1_invertLatest 4 = .ok (.if_icmp .ge 41, 3) := by decide +kernel
theorem dX1_invertLatest_7 : decode cX1_invertLatest 7 = .ok (.aload_n 0, 1) := by decide +kernel
theorem dX1_invertLatest_8 : decode cX1_invertLatest 8 = .ok (.getfield 31, 3) := by decide +kernel
theorem dX1_invertLatest_11 : decode cX1_invertLatest 11 = .ok (.ifCond .le 34, 3) := by decide +kernel
theorem dX1_invertLatest_45 : decode cX1_invertLatest 45 = .ok (.iload_n 2, 1) := by decide +kernel
theorem dX1_invertLatest_46 : decode cX1_invertLatest 46 = .ok (.ireturn, 1) := by decide +kernel
theorem dX1_isPresent_0 : decode cX1_isPresent 0 = .ok (.aload_n 0, 1) := by decide +kernel
theorem dX1_isPresent_1 : decode cX1_isPresent 1 = .ok (.getfield 21, 3) := by decide +kernel
theorem dX1_isPresent_4 : decode cX1_isPresent 4 = .ok (.iload_n 1, 1) := by decide +kernel
theorem dX1_isPresent_5 : decode cX1_isPresent 5 = .ok (.iaload, 1) := by decide +kernel
theorem dX1_isPresent_6 : decode cX1_isPresent 6 = .ok (.iconst (-1), 1) := by decide +kernel
theorem dX1_isPresent_7 : decode cX1_isPresent 7 = .ok (.if_icmp .ne 7, 3) := by decide +kernel
theorem dX1_isPresent_10 : decode cX1_isPresent 10 = .ok (.iconst 1, 1) := by decide +kernel
theorem dX1_isPresent_11 : decode cX1_isPresent 11 = .ok (.goto 4, 3) := by decide +kernel
theorem dX1_isPresent_15 : decode cX1_isPresent 15 = .ok (.ireturn, 1) := by decide +kernel
theorem dX1_leftOf_0 : decode cX1_leftOf 0 = .ok (.iload_n 1, 1) := by decide +kernel
theorem dX1_leftOf_1 : decode cX1_leftOf 1 = .ok (.iconst 1, 1) := by decide +kernel
theorem dX1_leftOf_2 : decode cX1_leftOf 2 = .ok (.isub, 1) := by decide +kernel
theorem dX1_leftOf_3 : decode cX1_leftOf 3 = .ok (.istore_n 2, 1) := by decide +kernel
theorem dX1_leftOf_4 : decode cX1_leftOf 4 = .ok (.iload_n 2, 1) := by decide +kernel
theorem dX1_leftOf_5 : decode cX1_leftOf 5 = .ok (.ifCond .lt 19, 3) := by decide +kernel
theorem dX1_leftOf_8 : decode cX1_leftOf 8 = .ok (.aload_n 0, 1) := by decide +kernel
theorem dX1_leftOf_9 : decode cX1_leftOf 9 = .ok (.iload_n 2, 1) := by decide +kernel
theorem dX1_leftOf_10 : decode cX1_leftOf 10 = .ok (.invokevirtual 100, 3) := by decide +kernel
theorem dX1_leftOf_13 : decode cX1_leftOf 13 = .ok (.ifCond .eq 5, 3) := by decide +kernel
theorem dX1_leftOf_16 : decode cX1_leftOf 16 = .ok (.iload_n 2, 1) := by decide +kernel
theorem dX1_leftOf_17 : decode cX1_leftOf 17 = .ok (.ireturn, 1) := by decide +kernel
theorem dX1_leftOf_24 : decode cX1_leftOf 24 = .ok (.iconst (-1), 1) := by decide +kernel
theorem dX1_leftOf_25 : decode cX1_leftOf 25 = .ok (.ireturn, 1) := by decide +kernel
theorem dX1_liftChosen_0 : decode cX1_liftChosen 0 = .ok (.iconst 0, 1) := by decide +kernel
theorem dX1_liftChosen_1 : decode cX1_liftChosen 1 = .ok (.istore_n 2, 1) := by decide +kernel
theorem dX1_liftChosen_2 : decode cX1_liftChosen 2 = .ok (.iload_n 2, 1) := by decide +kernel
theorem dX1_liftChosen_3 : decode cX1_liftChosen 3 = .ok (.iload_n 1, 1) := by decide +kernel
theorem dX1_liftChosen_4 : decode cX1_liftChosen 4 = .ok (.if_icmp .ge 28, 3) := by decide +kernel
theorem dX1_liftChosen_7 : decode cX1_liftChosen 7 = .ok (.aload_n 0, 1) := by decide +kernel
theorem dX1_liftChosen_8 : decode cX1_liftChosen 8 = .ok (.invokevirtual 142, 3) := by decide +kernel
theorem dX1_liftChosen_11 : decode cX1_liftChosen 11 = .ok (.istore_n 3, 1) := by decide +kernel
theorem dX1_liftChosen_12 : decode cX1_liftChosen 12 = .ok (.iload_n 3, 1) := by decide +kernel
theorem dX1_liftChosen_13 : decode cX1_liftChosen 13 = .ok (.iconst (-1), 1) := by decide +kernel
theorem dX1_liftChosen_14 : decode cX1_liftChosen 14 = .ok (.if_icmp .ne 6, 3) := by decide +kernel
theorem dX1_liftChosen_17 : decode cX1_liftChosen 17 = .ok (.goto 15, 3) := by decide +kernel
theorem dX1_liftChosen_32 : decode cX1_liftChosen 32 = .ok (.iload_n 2, 1) := by decide +kernel
theorem dX1_liftChosen_33 : decode cX1_liftChosen 33 = .ok (.ireturn, 1) := by decide +kernel
theorem dX1_lineAt_0 : decode cX1_lineAt 0 = .ok (.iconst 0, 1) := by decide +kernel
theorem dX1_lineAt_1 : decode cX1_lineAt 1 = .ok (.istore_n 2, 1) := by decide +kernel
theorem dX1_lineAt_2 : decode cX1_lineAt 2 = .ok (.iconst 1, 1) := by decide +kernel
theorem dX1_lineAt_3 : decode cX1_lineAt 3 = .ok (.istore_n 3, 1) := by decide +kernel
theorem dX1_lineAt_4 : decode cX1_lineAt 4 = .ok (.iload_n 3, 1) := by decide +kernel
theorem dX1_lineAt_5 : decode cX1_lineAt 5 = .ok (.aload_n 0, 1) := by decide +kernel
theorem dX1_lineAt_6 : decode cX1_lineAt 6 = .ok (.getfield 49, 3) := by decide +kernel
theorem dX1_lineAt_9 : decode cX1_lineAt 9 = .ok (.getfield 58, 3) := by decide +kernel
theorem dX1_lineAt_12 : decode cX1_lineAt 12 = .ok (.if_icmp .ge 49, 3) := by decide +kernel
theorem dX1_lineAt_15 : decode cX1_lineAt 15 = .ok (.aload_n 0, 1) := by decide +kernel
theorem dX1_lineAt_16 : decode cX1_lineAt 16 = .ok (.iload_n 3, 1) := by decide +kernel
theorem dX1_lineAt_17 : decode cX1_lineAt 17 = .ok (.invokevirtual 100, 3) := by decide +kernel
theorem dX1_lineAt_20 : decode cX1_lineAt 20 = .ok (.ifCond .eq 35, 3) := by decide +kernel
theorem dX1_lineAt_23 : decode cX1_lineAt 23 = .ok (.iload_n 1, 1) := by decide +kernel
theorem dX1_lineAt_24 : decode cX1_lineAt 24 = .ok (.aload_n 0, 1) := by decide +kernel
theorem dX1_lineAt_25 : decode cX1_lineAt 25 = .ok (.getfield 49, 3) := by decide +kernel
theorem dX1_lineAt_28 : decode cX1_lineAt 28 = .ok (.getfield 108, 3) := by decide +kernel
theorem dX1_lineAt_31 : decode cX1_lineAt 31 = .ok (.iload_n 3, 1) := by decide +kernel
theorem dX1_lineAt_32 : decode cX1_lineAt 32 = .ok (.iaload, 1) := by decide +kernel
theorem dX1_lineAt_33 : decode cX1_lineAt 33 = .ok (.if_icmp .gt 20, 3) := by decide +kernel
theorem dX1_lineAt_36 : decode cX1_lineAt 36 = .ok (.aload_n 0, 1) := by decide +kernel
theorem dX1_lineAt_37 : decode cX1_lineAt 37 = .ok (.aload_n 0, 1) := by decide +kernel
theorem dX1_lineAt_38 : decode cX1_lineAt 38 = .ok (.getfield 46, 3) := by decide +kernel
theorem dX1_lineAt_41 : decode cX1_lineAt 41 = .ok (.iconst 2, 1) := by decide +kernel
theorem dX1_lineAt_42 : decode cX1_lineAt 42 = .ok (.iload_n 2, 1) := by decide +kernel
theorem dX1_lineAt_43 : decode cX1_lineAt 43 = .ok (.iload_n 1, 1) := by decide +kernel
theorem dX1_lineAt_44 : decode cX1_lineAt 44 = .ok (.iload_n 3, 1) := by decide +kernel
theorem dX1_lineAt_45 : decode cX1_lineAt 45 = .ok (.invokevirtual 111, 3) := by decide +kernel
theorem dX1_lineAt_48 : decode cX1_lineAt 48 = .ok (.aload_n 0, 1) := by decide +kernel
theorem dX1_lineAt_49 : decode cX1_lineAt 49 = .ok (.getfield 46, 3) := by decide +kernel
theorem dX1_lineAt_52 : decode cX1_lineAt 52 = .ok (.areturn, 1) := by decide +kernel
theorem dX1_predictInto_0 : decode cX1_predictInto 0 = .ok (.iload_n 2, 1) := by decide +kernel
theorem dX1_predictInto_1 : decode cX1_predictInto 1 = .ok (.ifCond .eq 20, 3) := by decide +kernel
theorem dX1_predictInto_4 : decode cX1_predictInto 4 = .ok (.iload_n 2, 1) := by decide +kernel
theorem dX1_predictInto_5 : decode cX1_predictInto 5 = .ok (.iconst 1, 1) := by decide +kernel
theorem dX1_predictInto_6 : decode cX1_predictInto 6 = .ok (.if_icmp .ne 26, 3) := by decide +kernel
theorem dX1_predictInto_32 : decode cX1_predictInto 32 = .ok (.aload_n 1, 1) := by decide +kernel
theorem dX1_predictInto_33 : decode cX1_predictInto 33 = .ok (.aload_n 0, 1) := by decide +kernel
theorem dX1_predictInto_34 : decode cX1_predictInto 34 = .ok (.getfield 11, 3) := by decide +kernel
theorem dX1_predictInto_37 : decode cX1_predictInto 37 = .ok (.iload 5, 2) := by decide +kernel
theorem dX1_predictInto_39 : decode cX1_predictInto 39 = .ok (.aaload, 1) := by decide +kernel
theorem dX1_predictInto_40 : decode cX1_predictInto 40 = .ok (.invokevirtual 87, 3) := by decide +kernel
theorem dX1_predictInto_43 : decode cX1_predictInto 43 = .ok (.iload_n 2, 1) := by decide +kernel
theorem dX1_predictInto_44 : decode cX1_predictInto 44 = .ok (.iconst 2, 1) := by decide +kernel
theorem dX1_predictInto_45 : decode cX1_predictInto 45 = .ok (.if_icmp .ne 65, 3) := by decide +kernel
theorem dX1_predictInto_48 : decode cX1_predictInto 48 = .ok (.aload_n 1, 1) := by decide +kernel
theorem dX1_predictInto_49 : decode cX1_predictInto 49 = .ok (.aload_n 0, 1) := by decide +kernel
theorem dX1_predictInto_50 : decode cX1_predictInto 50 = .ok (.getfield 11, 3) := by decide +kernel
theorem dX1_predictInto_53 : decode cX1_predictInto 53 = .ok (.iload_n 3, 1) := by decide +kernel
theorem dX1_predictInto_54 : decode cX1_predictInto 54 = .ok (.aaload, 1) := by decide +kernel
theorem dX1_predictInto_55 : decode cX1_predictInto 55 = .ok (.ldc2_w 136, 3) := by decide +kernel
theorem dX1_predictInto_58 : decode cX1_predictInto 58 = .ok (.invokevirtual 70, 3) := by decide +kernel
theorem dX1_predictInto_61 : decode cX1_predictInto 61 = .ok (.aload_n 1, 1) := by decide +kernel
theorem dX1_predictInto_62 : decode cX1_predictInto 62 = .ok (.iload 4, 2) := by decide +kernel
theorem dX1_predictInto_64 : decode cX1_predictInto 64 = .ok (.aload_n 0, 1) := by decide +kernel
theorem dX1_predictInto_65 : decode cX1_predictInto 65 = .ok (.getfield 49, 3) := by decide +kernel
theorem dX1_predictInto_68 : decode cX1_predictInto 68 = .ok (.getfield 108, 3) := by decide +kernel
theorem dX1_predictInto_71 : decode cX1_predictInto 71 = .ok (.iload_n 3, 1) := by decide +kernel
theorem dX1_predictInto_72 : decode cX1_predictInto 72 = .ok (.iaload, 1) := by decide +kernel
theorem dX1_predictInto_73 : decode cX1_predictInto 73 = .ok (.isub, 1) := by decide +kernel
theorem dX1_predictInto_74 : decode cX1_predictInto 74 = .ok (.i2l, 1) := by decide +kernel
theorem dX1_predictInto_75 : decode cX1_predictInto 75 = .ok (.aload_n 0, 1) := by decide +kernel
theorem dX1_predictInto_76 : decode cX1_predictInto 76 = .ok (.getfield 49, 3) := by decide +kernel
theorem dX1_predictInto_79 : decode cX1_predictInto 79 = .ok (.getfield 108, 3) := by decide +kernel
theorem dX1_predictInto_82 : decode cX1_predictInto 82 = .ok (.iload 5, 2) := by decide +kernel
theorem dX1_predictInto_84 : decode cX1_predictInto 84 = .ok (.iaload, 1) := by decide +kernel
theorem dX1_predictInto_85 : decode cX1_predictInto 85 = .ok (.aload_n 0, 1) := by decide +kernel
theorem dX1_predictInto_86 : decode cX1_predictInto 86 = .ok (.getfield 49, 3) := by decide +kernel
theorem dX1_predictInto_89 : decode cX1_predictInto 89 = .ok (.getfield 108, 3) := by decide +kernel
theorem dX1_predictInto_92 : decode cX1_predictInto 92 = .ok (.iload_n 3, 1) := by decide +kernel
theorem dX1_predictInto_93 : decode cX1_predictInto 93 = .ok (.iaload, 1) := by decide +kernel
theorem dX1_predictInto_94 : decode cX1_predictInto 94 = .ok (.isub, 1) := by decide +kernel
theorem dX1_predictInto_95 : decode cX1_predictInto 95 = .ok (.i2l, 1) := by decide +kernel
theorem dX1_predictInto_96 : decode cX1_predictInto 96 = .ok (.invokevirtual 104, 3) := by decide +kernel
theorem dX1_predictInto_99 : decode cX1_predictInto 99 = .ok (.aload_n 1, 1) := by decide +kernel
theorem dX1_predictInto_100 : decode cX1_predictInto 100 = .ok (.aload_n 0, 1) := by decide +kernel
theorem dX1_predictInto_101 : decode cX1_predictInto 101 = .ok (.getfield 11, 3) := by decide +kernel
theorem dX1_predictInto_104 : decode cX1_predictInto 104 = .ok (.iload_n 3, 1) := by decide +kernel
theorem dX1_predictInto_105 : decode cX1_predictInto 105 = .ok (.aaload, 1) := by decide +kernel
theorem dX1_predictInto_106 : decode cX1_predictInto 106 = .ok (.lconst 1, 1) := by decide +kernel
theorem dX1_predictInto_107 : decode cX1_predictInto 107 = .ok (.invokevirtual 70, 3) := by decide +kernel
theorem dX1_predictInto_110 : decode cX1_predictInto 110 = .ok (.return_, 1) := by decide +kernel
theorem dX1_presentAt_0 : decode cX1_presentAt 0 = .ok (.iconst 0, 1) := by decide +kernel
theorem dX1_presentAt_1 : decode cX1_presentAt 1 = .ok (.istore_n 2, 1) := by decide +kernel
theorem dX1_presentAt_2 : decode cX1_presentAt 2 = .ok (.iconst 0, 1) := by decide +kernel
theorem dX1_presentAt_3 : decode cX1_presentAt 3 = .ok (.istore_n 3, 1) := by decide +kernel
theorem dX1_presentAt_4 : decode cX1_presentAt 4 = .ok (.iload_n 3, 1) := by decide +kernel
theorem dX1_presentAt_5 : decode cX1_presentAt 5 = .ok (.aload_n 0, 1) := by decide +kernel
theorem dX1_presentAt_6 : decode cX1_presentAt 6 = .ok (.getfield 49, 3) := by decide +kernel
theorem dX1_presentAt_9 : decode cX1_presentAt 9 = .ok (.getfield 58, 3) := by decide +kernel
theorem dX1_presentAt_12 : decode cX1_presentAt 12 = .ok (.if_icmp .ge 27, 3) := by decide +kernel
theorem dX1_presentAt_15 : decode cX1_presentAt 15 = .ok (.aload_n 0, 1) := by decide +kernel
theorem dX1_presentAt_16 : decode cX1_presentAt 16 = .ok (.iload_n 3, 1) := by decide +kernel
theorem dX1_presentAt_17 : decode cX1_presentAt 17 = .ok (.invokevirtual 100, 3) := by decide +kernel
theorem dX1_presentAt_20 : decode cX1_presentAt 20 = .ok (.ifCond .eq 13, 3) := by decide +kernel
theorem dX1_presentAt_23 : decode cX1_presentAt 23 = .ok (.iload_n 2, 1) := by decide +kernel
theorem dX1_presentAt_24 : decode cX1_presentAt 24 = .ok (.iload_n 1, 1) := by decide +kernel
theorem dX1_presentAt_25 : decode cX1_presentAt 25 = .ok (.if_icmp .ne 5, 3) := by decide +kernel
theorem dX1_presentAt_28 : decode cX1_presentAt 28 = .ok (.iload_n 3, 1) := by decide +kernel
theorem dX1_presentAt_29 : decode cX1_presentAt 29 = .ok (.ireturn, 1) := by decide +kernel
theorem dX1_presentAt_30 : decode cX1_presentAt 30 = .ok (.iinc 2 1, 3) := by decide +kernel
theorem dX1_presentAt_33 : decode cX1_presentAt 33 = .ok (.iinc 3 1, 3) := by decide +kernel
theorem dX1_presentAt_36 : decode cX1_presentAt 36 = .ok (.goto (-32), 3) := by decide +kernel
theorem dX1_presentCount_0 : decode cX1_presentCount 0 = .ok (.aload_n 0, 1) := by decide +kernel
theorem dX1_presentCount_1 : decode cX1_presentCount 1 = .ok (.getfield 49, 3) := by decide +kernel
theorem dX1_presentCount_4 : decode cX1_presentCount 4 = .ok (.getfield 58, 3) := by decide +kernel
theorem dX1_presentCount_7 : decode cX1_presentCount 7 = .ok (.aload_n 0, 1) := by decide +kernel
theorem dX1_presentCount_8 : decode cX1_presentCount 8 = .ok (.getfield 31, 3) := by decide +kernel
theorem dX1_presentCount_11 : decode cX1_presentCount 11 = .ok (.isub, 1) := by decide +kernel
theorem dX1_presentCount_12 : decode cX1_presentCount 12 = .ok (.ireturn, 1) := by decide +kernel
theorem dX1_quantizeDetails_0 : decode cX1_quantizeDetails 0 = .ok (.lconst 0, 1) := by decide +kernel
theorem dX1_quantizeDetails_1 : decode cX1_quantizeDetails 1 = .ok (.lstore_n 2, 1) := by decide +kernel
theorem dX1_quantizeDetails_2 : decode cX1_quantizeDetails 2 = .ok (.iconst 0, 1) := by decide +kernel
theorem dX1_quantizeDetails_3 : decode cX1_quantizeDetails 3 = .ok (.istore 4, 2) := by decide +kernel
theorem dX1_quantizeDetails_5 : decode cX1_quantizeDetails 5 = .ok (.iload 4, 2) := by decide +kernel
theorem dX1_quantizeDetails_7 : decode cX1_quantizeDetails 7 = .ok (.aload_n 0, 1) := by decide +kernel
theorem dX1_quantizeDetails_8 : decode cX1_quantizeDetails 8 = .ok (.getfield 31, 3) := by decide +kernel
theorem dX1_quantizeDetails_11 : decode cX1_quantizeDetails 11 = .ok (.if_icmp .ge 88, 3) := by decide +kernel
theorem dX1_quantizeDetails_99 : decode cX1_quantizeDetails 99 = .ok (.lload_n 2, 1) := by decide +kernel
theorem dX1_quantizeDetails_100 : decode cX1_quantizeDetails 100 = .ok (.lreturn, 1) := by decide +kernel
theorem dX1_rightOf_0 : decode cX1_rightOf 0 = .ok (.iload_n 1, 1) := by decide +kernel
theorem dX1_rightOf_1 : decode cX1_rightOf 1 = .ok (.iconst 1, 1) := by decide +kernel
theorem dX1_rightOf_2 : decode cX1_rightOf 2 = .ok (.iadd, 1) := by decide +kernel
theorem dX1_rightOf_3 : decode cX1_rightOf 3 = .ok (.istore_n 2, 1) := by decide +kernel
theorem dX1_rightOf_4 : decode cX1_rightOf 4 = .ok (.iload_n 2, 1) := by decide +kernel
theorem dX1_rightOf_5 : decode cX1_rightOf 5 = .ok (.aload_n 0, 1) := by decide +kernel
theorem dX1_rightOf_6 : decode cX1_rightOf 6 = .ok (.getfield 49, 3) := by decide +kernel
theorem dX1_rightOf_9 : decode cX1_rightOf 9 = .ok (.getfield 58, 3) := by decide +kernel
theorem dX1_rightOf_12 : decode cX1_rightOf 12 = .ok (.if_icmp .ge 19, 3) := by decide +kernel
theorem dX1_rightOf_15 : decode cX1_rightOf 15 = .ok (.aload_n 0, 1) := by decide +kernel
theorem dX1_rightOf_16 : decode cX1_rightOf 16 = .ok (.iload_n 2, 1) := by decide +kernel
theorem dX1_rightOf_17 : decode cX1_rightOf 17 = .ok (.invokevirtual 100, 3) := by decide +kernel
theorem dX1_rightOf_20 : decode cX1_rightOf 20 = .ok (.ifCond .eq 5, 3) := by decide +kernel
theorem dX1_rightOf_23 : decode cX1_rightOf 23 = .ok (.iload_n 2, 1) := by decide +kernel
theorem dX1_rightOf_24 : decode cX1_rightOf 24 = .ok (.ireturn, 1) := by decide +kernel
theorem dX1_rightOf_31 : decode cX1_rightOf 31 = .ok (.iconst (-1), 1) := by decide +kernel
theorem dX1_rightOf_32 : decode cX1_rightOf 32 = .ok (.ireturn, 1) := by decide +kernel
theorem dX1_stepOfRank_0 : decode cX1_stepOfRank 0 = .ok (.iconst 0, 1) := by decide +kernel
theorem dX1_stepOfRank_1 : decode cX1_stepOfRank 1 = .ok (.istore_n 2, 1) := by decide +kernel
theorem dX1_stepOfRank_2 : decode cX1_stepOfRank 2 = .ok (.iload_n 2, 1) := by decide +kernel
theorem dX1_stepOfRank_3 : decode cX1_stepOfRank 3 = .ok (.aload_n 0, 1) := by decide +kernel
theorem dX1_stepOfRank_4 : decode cX1_stepOfRank 4 = .ok (.getfield 31, 3) := by decide +kernel
theorem dX1_stepOfRank_7 : decode cX1_stepOfRank 7 = .ok (.if_icmp .ge 20, 3) := by decide +kernel
theorem dX1_stepOfRank_27 : decode cX1_stepOfRank 27 = .ok (.iconst (-1), 1) := by decide +kernel
theorem dX1_stepOfRank_28 : decode cX1_stepOfRank 28 = .ok (.ireturn, 1) := by decide +kernel
theorem dX1_valueSum_0 : decode cX1_valueSum 0 = .ok (.aload_n 0, 1) := by decide +kernel
theorem dX1_valueSum_1 : decode cX1_valueSum 1 = .ok (.getfield 46, 3) := by decide +kernel
theorem dX1_valueSum_4 : decode cX1_valueSum 4 = .ok (.lconst 0, 1) := by decide +kernel
theorem dX1_valueSum_5 : decode cX1_valueSum 5 = .ok (.invokevirtual 54, 3) := by decide +kernel
theorem dX1_valueSum_8 : decode cX1_valueSum 8 = .ok (.iconst 0, 1) := by decide +kernel
theorem dX1_valueSum_9 : decode cX1_valueSum 9 = .ok (.istore_n 1, 1) := by decide +kernel
theorem dX1_valueSum_10 : decode cX1_valueSum 10 = .ok (.iload_n 1, 1) := by decide +kernel
theorem dX1_valueSum_11 : decode cX1_valueSum 11 = .ok (.aload_n 0, 1) := by decide +kernel
theorem dX1_valueSum_12 : decode cX1_valueSum 12 = .ok (.getfield 49, 3) := by decide +kernel
theorem dX1_valueSum_15 : decode cX1_valueSum 15 = .ok (.getfield 58, 3) := by decide +kernel
theorem dX1_valueSum_18 : decode cX1_valueSum 18 = .ok (.if_icmp .ge 31, 3) := by decide +kernel
theorem dX1_valueSum_21 : decode cX1_valueSum 21 = .ok (.aload_n 0, 1) := by decide +kernel
theorem dX1_valueSum_22 : decode cX1_valueSum 22 = .ok (.iload_n 1, 1) := by decide +kernel
theorem dX1_valueSum_23 : decode cX1_valueSum 23 = .ok (.invokevirtual 100, 3) := by decide +kernel
theorem dX1_valueSum_26 : decode cX1_valueSum 26 = .ok (.ifCond .eq 17, 3) := by decide +kernel
theorem dX1_valueSum_29 : decode cX1_valueSum 29 = .ok (.aload_n 0, 1) := by decide +kernel
theorem dX1_valueSum_30 : decode cX1_valueSum 30 = .ok (.getfield 46, 3) := by decide +kernel
theorem dX1_valueSum_33 : decode cX1_valueSum 33 = .ok (.aload_n 0, 1) := by decide +kernel
theorem dX1_valueSum_34 : decode cX1_valueSum 34 = .ok (.getfield 11, 3) := by decide +kernel
theorem dX1_valueSum_37 : decode cX1_valueSum 37 = .ok (.iload_n 1, 1) := by decide +kernel
theorem dX1_valueSum_38 : decode cX1_valueSum 38 = .ok (.aaload, 1) := by decide +kernel
theorem dX1_valueSum_39 : decode cX1_valueSum 39 = .ok (.lconst 1, 1) := by decide +kernel
theorem dX1_valueSum_40 : decode cX1_valueSum 40 = .ok (.invokevirtual 70, 3) := by decide +kernel
theorem dX1_valueSum_43 : decode cX1_valueSum 43 = .ok (.iinc 1 1, 3) := by decide +kernel
theorem dX1_valueSum_46 : decode cX1_valueSum 46 = .ok (.goto (-36), 3) := by decide +kernel
theorem dX1_valueSum_49 : decode cX1_valueSum 49 = .ok (.aload_n 0, 1) := by decide +kernel
theorem dX1_valueSum_50 : decode cX1_valueSum 50 = .ok (.getfield 46, 3) := by decide +kernel
theorem dX1_valueSum_53 : decode cX1_valueSum 53 = .ok (.areturn, 1) := by decide +kernel
theorem dX1_weightSum_0 : decode cX1_weightSum 0 = .ok (.lconst 0, 1) := by decide +kernel
theorem dX1_weightSum_1 : decode cX1_weightSum 1 = .ok (.lstore_n 1, 1) := by decide +kernel
theorem dX1_weightSum_2 : decode cX1_weightSum 2 = .ok (.iconst 0, 1) := by decide +kernel
theorem dX1_weightSum_3 : decode cX1_weightSum 3 = .ok (.istore_n 3, 1) := by decide +kernel
theorem dX1_weightSum_4 : decode cX1_weightSum 4 = .ok (.iload_n 3, 1) := by decide +kernel
theorem dX1_weightSum_5 : decode cX1_weightSum 5 = .ok (.aload_n 0, 1) := by decide +kernel
theorem dX1_weightSum_6 : decode cX1_weightSum 6 = .ok (.getfield 49, 3) := by decide +kernel
theorem dX1_weightSum_9 : decode cX1_weightSum 9 = .ok (.getfield 58, 3) := by decide +kernel
theorem dX1_weightSum_12 : decode cX1_weightSum 12 = .ok (.if_icmp .ge 26, 3) := by decide +kernel
theorem dX1_weightSum_15 : decode cX1_weightSum 15 = .ok (.aload_n 0, 1) := by decide +kernel
theorem dX1_weightSum_16 : decode cX1_weightSum 16 = .ok (.iload_n 3, 1) := by decide +kernel
theorem dX1_weightSum_17 : decode cX1_weightSum 17 = .ok (.invokevirtual 100, 3) := by decide +kernel
theorem dX1_weightSum_20 : decode cX1_weightSum 20 = .ok (.ifCond .eq 12, 3) := by decide +kernel
theorem dX1_weightSum_23 : decode cX1_weightSum 23 = .ok (.lload_n 1, 1) := by decide +kernel
theorem dX1_weightSum_24 : decode cX1_weightSum 24 = .ok (.aload_n 0, 1) := by decide +kernel
theorem dX1_weightSum_25 : decode cX1_weightSum 25 = .ok (.getfield 17, 3) := by decide +kernel
theorem dX1_weightSum_28 : decode cX1_weightSum 28 = .ok (.iload_n 3, 1) := by decide +kernel
theorem dX1_weightSum_29 : decode cX1_weightSum 29 = .ok (.laload, 1) := by decide +kernel
theorem dX1_weightSum_30 : decode cX1_weightSum 30 = .ok (.ladd, 1) := by decide +kernel
theorem dX1_weightSum_31 : decode cX1_weightSum 31 = .ok (.lstore_n 1, 1) := by decide +kernel
theorem dX1_weightSum_32 : decode cX1_weightSum 32 = .ok (.iinc 3 1, 3) := by decide +kernel
theorem dX1_weightSum_35 : decode cX1_weightSum 35 = .ok (.goto (-31), 3) := by decide +kernel
theorem dX1_weightSum_38 : decode cX1_weightSum 38 = .ok (.lload_n 1, 1) := by decide +kernel
theorem dX1_weightSum_39 : decode cX1_weightSum 39 = .ok (.lreturn, 1) := by decide +kernel
theorem dX1_zeroDetails_0 : decode cX1_zeroDetails 0 = .ok (.iconst 0, 1) := by decide +kernel
theorem dX1_zeroDetails_1 : decode cX1_zeroDetails 1 = .ok (.istore_n 1, 1) := by decide +kernel
theorem dX1_zeroDetails_2 : decode cX1_zeroDetails 2 = .ok (.iconst 0, 1) := by decide +kernel
theorem dX1_zeroDetails_3 : decode cX1_zeroDetails 3 = .ok (.istore_n 2, 1) := by decide +kernel
theorem dX1_zeroDetails_4 : decode cX1_zeroDetails 4 = .ok (.iload_n 2, 1) := by decide +kernel
theorem dX1_zeroDetails_5 : decode cX1_zeroDetails 5 = .ok (.aload_n 0, 1) := by decide +kernel
theorem dX1_zeroDetails_6 : decode cX1_zeroDetails 6 = .ok (.getfield 31, 3) := by decide +kernel
theorem dX1_zeroDetails_9 : decode cX1_zeroDetails 9 = .ok (.if_icmp .ge 27, 3) := by decide +kernel
theorem dX1_zeroDetails_36 : decode cX1_zeroDetails 36 = .ok (.iload_n 1, 1) := by decide +kernel
theorem dX1_zeroDetails_37 : decode cX1_zeroDetails 37 = .ok (.ireturn, 1) := by decide +kernel
theorem dX3_addInt_0 : decode cX3_addInt 0 = .ok (.bipush 24, 2) := by decide +kernel
theorem dX3_addInt_2 : decode cX3_addInt 2 = .ok (.istore_n 2, 1) := by decide +kernel
theorem dX3_addInt_3 : decode cX3_addInt 3 = .ok (.iload_n 2, 1) := by decide +kernel
theorem dX3_addInt_4 : decode cX3_addInt 4 = .ok (.ifCond .lt 42, 3) := by decide +kernel
theorem dX3_addInt_7 : decode cX3_addInt 7 = .ok (.aload_n 0, 1) := by decide +kernel
theorem dX3_addInt_8 : decode cX3_addInt 8 = .ok (.getfield 15, 3) := by decide +kernel
theorem dX3_addInt_11 : decode cX3_addInt 11 = .ok (.sipush 700, 3) := by decide +kernel
theorem dX3_addInt_14 : decode cX3_addInt 14 = .ok (.if_icmp .ge 32, 3) := by decide +kernel
theorem dX3_addInt_17 : decode cX3_addInt 17 = .ok (.aload_n 0, 1) := by decide +kernel
theorem dX3_addInt_18 : decode cX3_addInt 18 = .ok (.getfield 11, 3) := by decide +kernel
theorem dX3_addInt_21 : decode cX3_addInt 21 = .ok (.aload_n 0, 1) := by decide +kernel
theorem dX3_addInt_22 : decode cX3_addInt 22 = .ok (.getfield 15, 3) := by decide +kernel
theorem dX3_addInt_25 : decode cX3_addInt 25 = .ok (.iload_n 1, 1) := by decide +kernel
theorem dX3_addInt_26 : decode cX3_addInt 26 = .ok (.iload_n 2, 1) := by decide +kernel
theorem dX3_addInt_27 : decode cX3_addInt 27 = .ok (.ishr, 1) := by decide +kernel
theorem dX3_addInt_28 : decode cX3_addInt 28 = .ok (.i2b, 1) := by decide +kernel
theorem dX3_addInt_29 : decode cX3_addInt 29 = .ok (.bastore, 1) := by decide +kernel
theorem dX3_addInt_30 : decode cX3_addInt 30 = .ok (.aload_n 0, 1) := by decide +kernel
theorem dX3_addInt_31 : decode cX3_addInt 31 = .ok (.dup, 1) := by decide +kernel
theorem dX3_addInt_32 : decode cX3_addInt 32 = .ok (.getfield 15, 3) := by decide +kernel
theorem dX3_addInt_35 : decode cX3_addInt 35 = .ok (.iconst 1, 1) := by decide +kernel
theorem dX3_addInt_36 : decode cX3_addInt 36 = .ok (.iadd, 1) := by decide +kernel
theorem dX3_addInt_37 : decode cX3_addInt 37 = .ok (.putfield 15, 3) := by decide +kernel
theorem dX3_addInt_40 : decode cX3_addInt 40 = .ok (.iinc 2 (-8), 3) := by decide +kernel
theorem dX3_addInt_43 : decode cX3_addInt 43 = .ok (.goto (-40), 3) := by decide +kernel
theorem dX3_addInt_46 : decode cX3_addInt 46 = .ok (.return_, 1) := by decide +kernel
theorem dX3_hasRoom_0 : decode cX3_hasRoom 0 = .ok (.aload_n 0, 1) := by decide +kernel
theorem dX3_hasRoom_1 : decode cX3_hasRoom 1 = .ok (.getfield 15, 3) := by decide +kernel
theorem dX3_hasRoom_4 : decode cX3_hasRoom 4 = .ok (.bipush 20, 2) := by decide +kernel
theorem dX3_hasRoom_6 : decode cX3_hasRoom 6 = .ok (.iadd, 1) := by decide +kernel
theorem dX3_hasRoom_7 : decode cX3_hasRoom 7 = .ok (.sipush 700, 3) := by decide +kernel
theorem dX3_hasRoom_10 : decode cX3_hasRoom 10 = .ok (.if_icmp .gt 7, 3) := by decide +kernel
theorem dX3_hasRoom_13 : decode cX3_hasRoom 13 = .ok (.iconst 1, 1) := by decide +kernel
theorem dX3_hasRoom_14 : decode cX3_hasRoom 14 = .ok (.goto 4, 3) := by decide +kernel
theorem dX3_hasRoom_18 : decode cX3_hasRoom 18 = .ok (.ireturn, 1) := by decide +kernel
theorem dX3_isWord_0 : decode cX3_isWord 0 = .ok (.aload_n 0, 1) := by decide +kernel
theorem dX3_isWord_1 : decode cX3_isWord 1 = .ok (.getfield 25, 3) := by decide +kernel
theorem dX3_isWord_4 : decode cX3_isWord 4 = .ok (.iconst 1, 1) := by decide +kernel
theorem dX3_isWord_5 : decode cX3_isWord 5 = .ok (.if_icmp .ne 19, 3) := by decide +kernel
theorem dX3_isWord_24 : decode cX3_isWord 24 = .ok (.iconst 0, 1) := by decide +kernel
theorem dX3_isWord_25 : decode cX3_isWord 25 = .ok (.ireturn, 1) := by decide +kernel
theorem dX3_isWrong_0 : decode cX3_isWrong 0 = .ok (.aload_n 0, 1) := by decide +kernel
theorem dX3_isWrong_1 : decode cX3_isWrong 1 = .ok (.iload_n 1, 1) := by decide +kernel
theorem dX3_isWrong_2 : decode cX3_isWrong 2 = .ok (.putfield 19, 3) := by decide +kernel
theorem dX3_isWrong_5 : decode cX3_isWrong 5 = .ok (.aload_n 0, 1) := by decide +kernel
theorem dX3_isWrong_6 : decode cX3_isWrong 6 = .ok (.aload_n 0, 1) := by decide +kernel
theorem dX3_isWrong_7 : decode cX3_isWrong 7 = .ok (.getfield 28, 3) := by decide +kernel
theorem dX3_isWrong_10 : decode cX3_isWrong 10 = .ok (.putfield 22, 3) := by decide +kernel
theorem dX3_isWrong_13 : decode cX3_isWrong 13 = .ok (.iconst 0, 1) := by decide +kernel
theorem dX3_isWrong_14 : decode cX3_isWrong 14 = .ok (.ireturn, 1) := by decide +kernel
theorem dX3_pass_0 : decode cX3_pass 0 = .ok (.aload_n 0, 1) := by decide +kernel
theorem dX3_pass_1 : decode cX3_pass 1 = .ok (.aload_n 0, 1) := by decide +kernel
theorem dX3_pass_2 : decode cX3_pass 2 = .ok (.getfield 31, 3) := by decide +kernel
theorem dX3_pass_5 : decode cX3_pass 5 = .ok (.putfield 28, 3) := by decide +kernel
theorem dX3_pass_8 : decode cX3_pass 8 = .ok (.aload_n 0, 1) := by decide +kernel
theorem dX3_pass_9 : decode cX3_pass 9 = .ok (.getfield 28, 3) := by decide +kernel
theorem dX3_pass_12 : decode cX3_pass 12 = .ok (.aload_n 0, 1) := by decide +kernel
theorem dX3_pass_13 : decode cX3_pass 13 = .ok (.getfield 15, 3) := by decide +kernel
theorem dX3_pass_16 : decode cX3_pass 16 = .ok (.if_icmp .ge 44, 3) := by decide +kernel
theorem dX3_pass_60 : decode cX3_pass 60 = .ok (.aload_n 0, 1) := by decide +kernel
theorem dX3_pass_61 : decode cX3_pass 61 = .ok (.aload_n 0, 1) := by decide +kernel
theorem dX3_pass_62 : decode cX3_pass 62 = .ok (.getfield 28, 3) := by decide +kernel
theorem dX3_pass_65 : decode cX3_pass 65 = .ok (.putfield 31, 3) := by decide +kernel
theorem dX3_pass_68 : decode cX3_pass 68 = .ok (.aload_n 0, 1) := by decide +kernel
theorem dX3_pass_69 : decode cX3_pass 69 = .ok (.getfield 28, 3) := by decide +kernel
theorem dX3_pass_72 : decode cX3_pass 72 = .ok (.aload_n 0, 1) := by decide +kernel
theorem dX3_pass_73 : decode cX3_pass 73 = .ok (.getfield 15, 3) := by decide +kernel
theorem dX3_pass_76 : decode cX3_pass 76 = .ok (.if_icmp .lt 11, 3) := by decide +kernel
theorem dX3_pass_79 : decode cX3_pass 79 = .ok (.aload_n 0, 1) := by decide +kernel
theorem dX3_pass_80 : decode cX3_pass 80 = .ok (.iconst 0, 1) := by decide +kernel
theorem dX3_pass_81 : decode cX3_pass 81 = .ok (.putfield 25, 3) := by decide +kernel
theorem dX3_pass_84 : decode cX3_pass 84 = .ok (.goto 125, 3) := by decide +kernel
theorem dX3_pass_209 : decode cX3_pass 209 = .ok (.iconst 1, 1) := by decide +kernel
theorem dX3_pass_210 : decode cX3_pass 210 = .ok (.ireturn, 1) := by decide +kernel
theorem dX3_readInto_0 : decode cX3_readInto 0 = .ok (.aload_n 0, 1) := by decide +kernel
theorem dX3_readInto_1 : decode cX3_readInto 1 = .ok (.iconst 0, 1) := by decide +kernel
theorem dX3_readInto_2 : decode cX3_readInto 2 = .ok (.putfield 19, 3) := by decide +kernel
theorem dX3_readInto_5 : decode cX3_readInto 5 = .ok (.aload_n 0, 1) := by decide +kernel
theorem dX3_readInto_6 : decode cX3_readInto 6 = .ok (.iconst (-1), 1) := by decide +kernel
theorem dX3_readInto_7 : decode cX3_readInto 7 = .ok (.putfield 22, 3) := by decide +kernel
theorem dX3_readInto_10 : decode cX3_readInto 10 = .ok (.aload_n 0, 1) := by decide +kernel
theorem dX3_readInto_11 : decode cX3_readInto 11 = .ok (.iconst 0, 1) := by decide +kernel
theorem dX3_readInto_12 : decode cX3_readInto 12 = .ok (.putfield 31, 3) := by decide +kernel
theorem dX3_readInto_15 : decode cX3_readInto 15 = .ok (.aload_n 1, 1) := by decide +kernel
theorem dX3_readInto_16 : decode cX3_readInto 16 = .ok (.invokevirtual 37, 3) := by decide +kernel
theorem dX3_readInto_19 : decode cX3_readInto 19 = .ok (.aload_n 0, 1) := by decide +kernel
theorem dX3_readInto_20 : decode cX3_readInto 20 = .ok (.invokevirtual 42, 3) := by decide +kernel
theorem dX3_readInto_23 : decode cX3_readInto 23 = .ok (.pop, 1) := by decide +kernel
theorem dX3_readInto_24 : decode cX3_readInto 24 = .ok (.aload_n 0, 1) := by decide +kernel
theorem dX3_readInto_25 : decode cX3_readInto 25 = .ok (.aload_n 1, 1) := by decide +kernel
theorem dX3_readInto_26 : decode cX3_readInto 26 = .ok (.invokevirtual 46, 3) := by decide +kernel
theorem dX3_readInto_29 : decode cX3_readInto 29 = .ok (.ifCond .eq 15, 3) := by decide +kernel
theorem dX3_readInto_32 : decode cX3_readInto 32 = .ok (.aload_n 0, 1) := by decide +kernel
theorem dX3_readInto_33 : decode cX3_readInto 33 = .ok (.aload_n 1, 1) := by decide +kernel
theorem dX3_readInto_34 : decode cX3_readInto 34 = .ok (.invokevirtual 50, 3) := by decide +kernel
theorem dX3_readInto_37 : decode cX3_readInto 37 = .ok (.ifCond .eq 7, 3) := by decide +kernel
theorem dX3_readInto_44 : decode cX3_readInto 44 = .ok (.iconst 0, 1) := by decide +kernel
theorem dX3_readInto_45 : decode cX3_readInto 45 = .ok (.ireturn, 1) := by decide +kernel
theorem dX3_readSamples_0 : decode cX3_readSamples 0 = .ok (.iconst 0, 1) := by decide +kernel
theorem dX3_readSamples_1 : decode cX3_readSamples 1 = .ok (.istore_n 2, 1) := by decide +kernel
theorem dX3_readSamples_2 : decode cX3_readSamples 2 = .ok (.iload_n 2, 1) := by decide +kernel
theorem dX3_readSamples_3 : decode cX3_readSamples 3 = .ok (.bipush 48, 2) := by decide +kernel
theorem dX3_readSamples_5 : decode cX3_readSamples 5 = .ok (.if_icmp .gt 72, 3) := by decide +kernel
theorem dX3_readSamples_8 : decode cX3_readSamples 8 = .ok (.aload_n 0, 1) := by decide +kernel
theorem dX3_readSamples_9 : decode cX3_readSamples 9 = .ok (.getfield 25, 3) := by decide +kernel
theorem dX3_readSamples_12 : decode cX3_readSamples 12 = .ok (.ifCond .ne 10, 3) := by decide +kernel
theorem dX3_readSamples_15 : decode cX3_readSamples 15 = .ok (.iload_n 2, 1) := by decide +kernel
theorem dX3_readSamples_16 : decode cX3_readSamples 16 = .ok (.iconst 2, 1) := by decide +kernel
theorem dX3_readSamples_17 : decode cX3_readSamples 17 = .ok (.if_icmp .lt 5, 3) := by decide +kernel
theorem dX3_readSamples_22 : decode cX3_readSamples 22 = .ok (.aload_n 0, 1) := by decide +kernel
theorem dX3_readSamples_23 : decode cX3_readSamples 23 = .ok (.ldc 109, 2) := by decide +kernel
theorem dX3_readSamples_25 : decode cX3_readSamples 25 = .ok (.invokevirtual 70, 3) := by decide +kernel
theorem dX3_readSamples_28 : decode cX3_readSamples 28 = .ok (.ifCond .ne 9, 3) := by decide +kernel
theorem dX3_readSamples_31 : decode cX3_readSamples 31 = .ok (.aload_n 0, 1) := by decide +kernel
theorem dX3_readSamples_32 : decode cX3_readSamples 32 = .ok (.iconst 1, 1) := by decide +kernel
theorem dX3_readSamples_33 : decode cX3_readSamples 33 = .ok (.invokevirtual 57, 3) := by decide +kernel
theorem dX3_readSamples_36 : decode cX3_readSamples 36 = .ok (.ireturn, 1) := by decide +kernel
theorem dX3_readSettings_0 : decode cX3_readSettings 0 = .ok (.iconst 0, 1) := by decide +kernel
theorem dX3_readSettings_1 : decode cX3_readSettings 1 = .ok (.istore_n 2, 1) := by decide +kernel
theorem dX3_readSettings_2 : decode cX3_readSettings 2 = .ok (.iconst 0, 1) := by decide +kernel
theorem dX3_readSettings_3 : decode cX3_readSettings 3 = .ok (.istore_n 3, 1) := by decide +kernel
theorem dX3_readSettings_4 : decode cX3_readSettings 4 = .ok (.iload_n 3, 1) := by decide +kernel
theorem dX3_readSettings_5 : decode cX3_readSettings 5 = .ok (.iconst 4, 1) := by decide +kernel
theorem dX3_readSettings_6 : decode cX3_readSettings 6 = .ok (.if_icmp .gt 69, 3) := by decide +kernel
theorem dX3_readSettings_9 : decode cX3_readSettings 9 = .ok (.aload_n 0, 1) := by decide +kernel
theorem dX3_readSettings_10 : decode cX3_readSettings 10 = .ok (.invokevirtual 53, 3) := by decide +kernel
theorem dX3_readSettings_13 : decode cX3_readSettings 13 = .ok (.istore 4, 2) := by decide +kernel
theorem dX3_readSettings_15 : decode cX3_readSettings 15 = .ok (.iload 4, 2) := by decide +kernel
theorem dX3_readSettings_17 : decode cX3_readSettings 17 = .ok (.iconst (-1), 1) := by decide +kernel
theorem dX3_readSettings_18 : decode cX3_readSettings 18 = .ok (.if_icmp .ne 5, 3) := by decide +kernel
theorem dX3_readSettings_21 : decode cX3_readSettings 21 = .ok (.iconst 1, 1) := by decide +kernel
theorem dX3_readSettings_22 : decode cX3_readSettings 22 = .ok (.ireturn, 1) := by decide +kernel
theorem dX3_settingHere_0 : decode cX3_settingHere 0 = .ok (.aload_n 0, 1) := by decide +kernel
theorem dX3_settingHere_1 : decode cX3_settingHere 1 = .ok (.ldc 68, 2) := by decide +kernel
theorem dX3_settingHere_3 : decode cX3_settingHere 3 = .ok (.invokevirtual 70, 3) := by decide +kernel
theorem dX3_settingHere_6 : decode cX3_settingHere 6 = .ok (.ifCond .eq 5, 3) := by decide +kernel
theorem dX3_settingHere_11 : decode cX3_settingHere 11 = .ok (.aload_n 0, 1) := by decide +kernel
theorem dX3_settingHere_12 : decode cX3_settingHere 12 = .ok (.ldc 74, 2) := by decide +kernel
theorem dX3_settingHere_14 : decode cX3_settingHere 14 = .ok (.invokevirtual 70, 3) := by decide +kernel
theorem dX3_settingHere_17 : decode cX3_settingHere 17 = .ok (.ifCond .eq 5, 3) := by decide +kernel
theorem dX3_settingHere_22 : decode cX3_settingHere 22 = .ok (.aload_n 0, 1) := by decide +kernel
theorem dX3_settingHere_23 : decode cX3_settingHere 23 = .ok (.ldc 76, 2) := by decide +kernel
theorem dX3_settingHere_25 : decode cX3_settingHere 25 = .ok (.invokevirtual 70, 3) := by decide +kernel
theorem dX3_settingHere_28 : decode cX3_settingHere 28 = .ok (.ifCond .eq 5, 3) := by decide +kernel
theorem dX3_settingHere_33 : decode cX3_settingHere 33 = .ok (.aload_n 0, 1) := by decide +kernel
theorem dX3_settingHere_34 : decode cX3_settingHere 34 = .ok (.ldc 78, 2) := by decide +kernel
theorem dX3_settingHere_36 : decode cX3_settingHere 36 = .ok (.invokevirtual 70, 3) := by decide +kernel
theorem dX3_settingHere_39 : decode cX3_settingHere 39 = .ok (.ifCond .eq 7, 3) := by decide +kernel
theorem dX3_settingHere_46 : decode cX3_settingHere 46 = .ok (.iconst (-1), 1) := by decide +kernel
theorem dX3_settingHere_47 : decode cX3_settingHere 47 = .ok (.ireturn, 1) := by decide +kernel
theorem dX4_add_0 : decode cX4_add 0 = .ok (.aload_n 0, 1) := by decide +kernel
theorem dX4_add_1 : decode cX4_add 1 = .ok (.getfield 13, 3) := by decide +kernel
theorem dX4_add_4 : decode cX4_add 4 = .ok (.iconst 1, 1) := by decide +kernel
theorem dX4_add_5 : decode cX4_add 5 = .ok (.if_icmp .gt 27, 3) := by decide +kernel
theorem dX4_add_8 : decode cX4_add 8 = .ok (.aload_n 1, 1) := by decide +kernel
theorem dX4_add_9 : decode cX4_add 9 = .ok (.getfield 13, 3) := by decide +kernel
theorem dX4_add_12 : decode cX4_add 12 = .ok (.iconst 1, 1) := by decide +kernel
theorem dX4_add_13 : decode cX4_add 13 = .ok (.if_icmp .gt 19, 3) := by decide +kernel
theorem dX4_add_16 : decode cX4_add 16 = .ok (.aload_n 0, 1) := by decide +kernel
theorem dX4_add_17 : decode cX4_add 17 = .ok (.aload_n 0, 1) := by decide +kernel
theorem dX4_add_18 : decode cX4_add 18 = .ok (.invokevirtual 31, 3) := by decide +kernel
theorem dX4_add_21 : decode cX4_add 21 = .ok (.aload_n 1, 1) := by decide +kernel
theorem dX4_add_22 : decode cX4_add 22 = .ok (.invokevirtual 31, 3) := by decide +kernel
theorem dX4_add_25 : decode cX4_add 25 = .ok (.lload_n 2, 1) := by decide +kernel
theorem dX4_add_26 : decode cX4_add 26 = .ok (.lmul, 1) := by decide +kernel
theorem dX4_add_27 : decode cX4_add 27 = .ok (.ladd, 1) := by decide +kernel
theorem dX4_add_28 : decode cX4_add 28 = .ok (.invokevirtual 35, 3) := by decide +kernel
theorem dX4_add_31 : decode cX4_add 31 = .ok (.return_, 1) := by decide +kernel
theorem dX4_amountFrom_0 : decode cX4_amountFrom 0 = .ok (.iload_n 1, 1) := by decide +kernel
theorem dX4_amountFrom_1 : decode cX4_amountFrom 1 = .ok (.bipush 32, 2) := by decide +kernel
theorem dX4_amountFrom_3 : decode cX4_amountFrom 3 = .ok (.idiv, 1) := by decide +kernel
theorem dX4_amountFrom_4 : decode cX4_amountFrom 4 = .ok (.istore_n 2, 1) := by decide +kernel
theorem dX4_amountFrom_5 : decode cX4_amountFrom 5 = .ok (.iload_n 1, 1) := by decide +kernel
theorem dX4_amountFrom_6 : decode cX4_amountFrom 6 = .ok (.bipush 32, 2) := by decide +kernel
theorem dX4_amountFrom_8 : decode cX4_amountFrom 8 = .ok (.irem, 1) := by decide +kernel
theorem dX4_amountFrom_9 : decode cX4_amountFrom 9 = .ok (.istore_n 3, 1) := by decide +kernel
theorem dX4_amountFrom_10 : decode cX4_amountFrom 10 = .ok (.aload_n 0, 1) := by decide +kernel
theorem dX4_amountFrom_11 : decode cX4_amountFrom 11 = .ok (.iload_n 2, 1) := by decide +kernel
theorem dX4_amountFrom_12 : decode cX4_amountFrom 12 = .ok (.iconst 1, 1) := by decide +kernel
theorem dX4_amountFrom_13 : decode cX4_amountFrom 13 = .ok (.iadd, 1) := by decide +kernel
theorem dX4_amountFrom_14 : decode cX4_amountFrom 14 = .ok (.invokevirtual 87, 3) := by decide +kernel
theorem dX4_amountFrom_17 : decode cX4_amountFrom 17 = .ok (.bipush 32, 2) := by decide +kernel
theorem dX4_amountFrom_19 : decode cX4_amountFrom 19 = .ok (.lshl, 1) := by decide +kernel
theorem dX4_amountFrom_20 : decode cX4_amountFrom 20 = .ok (.aload_n 0, 1) := by decide +kernel
theorem dX4_amountFrom_21 : decode cX4_amountFrom 21 = .ok (.iload_n 2, 1) := by decide +kernel
theorem dX4_amountFrom_22 : decode cX4_amountFrom 22 = .ok (.invokevirtual 87, 3) := by decide +kernel
theorem dX4_amountFrom_25 : decode cX4_amountFrom 25 = .ok (.lor, 1) := by decide +kernel
theorem dX4_amountFrom_26 : decode cX4_amountFrom 26 = .ok (.lstore 4, 2) := by decide +kernel
theorem dX4_amountFrom_28 : decode cX4_amountFrom 28 = .ok (.iload_n 3, 1) := by decide +kernel
theorem dX4_amountFrom_29 : decode cX4_amountFrom 29 = .ok (.ifCond .ne 8, 3) := by decide +kernel
theorem dX4_amountFrom_32 : decode cX4_amountFrom 32 = .ok (.lload 4, 2) := by decide +kernel
theorem dX4_amountFrom_34 : decode cX4_amountFrom 34 = .ok (.goto 20, 3) := by decide +kernel
theorem dX4_amountFrom_54 : decode cX4_amountFrom 54 = .ok (.lreturn, 1) := by decide +kernel
theorem dX4_become_0 : decode cX4_become 0 = .ok (.aload_n 0, 1) := by decide +kernel
theorem dX4_become_1 : decode cX4_become 1 = .ok (.lload_n 1, 1) := by decide +kernel
theorem dX4_become_2 : decode cX4_become 2 = .ok (.lconst 0, 1) := by decide +kernel
theorem dX4_become_3 : decode cX4_become 3 = .ok (.lcmp, 1) := by decide +kernel
theorem dX4_become_4 : decode cX4_become 4 = .ok (.ifCond .ge 7, 3) := by decide +kernel
theorem dX4_become_11 : decode cX4_become 11 = .ok (.iconst 0, 1) := by decide +kernel
theorem dX4_become_12 : decode cX4_become 12 = .ok (.putfield 17, 3) := by decide +kernel
theorem dX4_become_15 : decode cX4_become 15 = .ok (.aload_n 0, 1) := by decide +kernel
theorem dX4_become_16 : decode cX4_become 16 = .ok (.getfield 17, 3) := by decide +kernel
theorem dX4_become_19 : decode cX4_become 19 = .ok (.ifCond .eq 8, 3) := by decide +kernel
theorem dX4_become_27 : decode cX4_become 27 = .ok (.lload_n 1, 1) := by decide +kernel
theorem dX4_become_28 : decode cX4_become 28 = .ok (.lstore_n 3, 1) := by decide +kernel
theorem dX4_become_29 : decode cX4_become 29 = .ok (.aload_n 0, 1) := by decide +kernel
theorem dX4_become_30 : decode cX4_become 30 = .ok (.getfield 7, 3) := by decide +kernel
theorem dX4_become_33 : decode cX4_become 33 = .ok (.iconst 0, 1) := by decide +kernel
theorem dX4_become_34 : decode cX4_become 34 = .ok (.lload_n 3, 1) := by decide +kernel
theorem dX4_become_35 : decode cX4_become 35 = .ok (.l2i, 1) := by decide +kernel
theorem dX4_become_36 : decode cX4_become 36 = .ok (.iastore, 1) := by decide +kernel
theorem dX4_become_37 : decode cX4_become 37 = .ok (.aload_n 0, 1) := by decide +kernel
theorem dX4_become_38 : decode cX4_become 38 = .ok (.getfield 7, 3) := by decide +kernel
theorem dX4_become_41 : decode cX4_become 41 = .ok (.iconst 1, 1) := by decide +kernel
theorem dX4_become_42 : decode cX4_become 42 = .ok (.lload_n 3, 1) := by decide +kernel
theorem dX4_become_43 : decode cX4_become 43 = .ok (.bipush 32, 2) := by decide +kernel
theorem dX4_become_45 : decode cX4_become 45 = .ok (.lushr, 1) := by decide +kernel
theorem dX4_become_46 : decode cX4_become 46 = .ok (.l2i, 1) := by decide +kernel
theorem dX4_become_47 : decode cX4_become 47 = .ok (.iastore, 1) := by decide +kernel
theorem dX4_become_48 : decode cX4_become 48 = .ok (.aload_n 0, 1) := by decide +kernel
theorem dX4_become_49 : decode cX4_become 49 = .ok (.aload_n 0, 1) := by decide +kernel
theorem dX4_become_50 : decode cX4_become 50 = .ok (.getfield 7, 3) := by decide +kernel
theorem dX4_become_53 : decode cX4_become 53 = .ok (.iconst 1, 1) := by decide +kernel
theorem dX4_become_54 : decode cX4_become 54 = .ok (.iaload, 1) := by decide +kernel
theorem dX4_become_55 : decode cX4_become 55 = .ok (.ifCond .eq 7, 3) := by decide +kernel
theorem dX4_become_62 : decode cX4_become 62 = .ok (.aload_n 0, 1) := by decide +kernel
theorem dX4_become_63 : decode cX4_become 63 = .ok (.getfield 7, 3) := by decide +kernel
theorem dX4_become_66 : decode cX4_become 66 = .ok (.iconst 0, 1) := by decide +kernel
theorem dX4_become_67 : decode cX4_become 67 = .ok (.iaload, 1) := by decide +kernel
theorem dX4_become_68 : decode cX4_become 68 = .ok (.ifCond .eq 7, 3) := by decide +kernel
theorem dX4_become_75 : decode cX4_become 75 = .ok (.iconst 0, 1) := by decide +kernel
theorem dX4_become_76 : decode cX4_become 76 = .ok (.putfield 13, 3) := by decide +kernel
theorem dX4_become_79 : decode cX4_become 79 = .ok (.return_, 1) := by decide +kernel
theorem dX4_bitsOfAmount_0 : decode cX4_bitsOfAmount 0 = .ok (.aload_n 0, 1) := by decide +kernel
theorem dX4_bitsOfAmount_1 : decode cX4_bitsOfAmount 1 = .ok (.getfield 13, 3) := by decide +kernel
theorem dX4_bitsOfAmount_4 : decode cX4_bitsOfAmount 4 = .ok (.ifCond .ne 7, 3) := by decide +kernel
theorem dX4_bitsOfAmount_7 : decode cX4_bitsOfAmount 7 = .ok (.iconst 0, 1) := by decide +kernel
theorem dX4_bitsOfAmount_8 : decode cX4_bitsOfAmount 8 = .ok (.goto 25, 3) := by decide +kernel
theorem dX4_bitsOfAmount_33 : decode cX4_bitsOfAmount 33 = .ok (.ireturn, 1) := by decide +kernel
theorem dX4_compareAmount_0 : decode cX4_compareAmount 0 = .ok (.aload_n 0, 1) := by decide +kernel
theorem dX4_compareAmount_1 : decode cX4_compareAmount 1 = .ok (.getfield 13, 3) := by decide +kernel
theorem dX4_compareAmount_4 : decode cX4_compareAmount 4 = .ok (.aload_n 1, 1) := by decide +kernel
theorem dX4_compareAmount_5 : decode cX4_compareAmount 5 = .ok (.getfield 13, 3) := by decide +kernel
theorem dX4_compareAmount_8 : decode cX4_compareAmount 8 = .ok (.if_icmp .eq 20, 3) := by decide +kernel
theorem dX4_compareAmount_28 : decode cX4_compareAmount 28 = .ok (.aload_n 0, 1) := by decide +kernel
theorem dX4_compareAmount_29 : decode cX4_compareAmount 29 = .ok (.getfield 13, 3) := by decide +kernel
theorem dX4_compareAmount_32 : decode cX4_compareAmount 32 = .ok (.iconst 1, 1) := by decide +kernel
theorem dX4_compareAmount_33 : decode cX4_compareAmount 33 = .ok (.isub, 1) := by decide +kernel
theorem dX4_compareAmount_34 : decode cX4_compareAmount 34 = .ok (.istore_n 2, 1) := by decide +kernel
theorem dX4_compareAmount_35 : decode cX4_compareAmount 35 = .ok (.iload_n 2, 1) := by decide +kernel
theorem dX4_compareAmount_36 : decode cX4_compareAmount 36 = .ok (.ifCond .lt 56, 3) := by decide +kernel
theorem dX4_compareAmount_92 : decode cX4_compareAmount 92 = .ok (.iconst 0, 1) := by decide +kernel
theorem dX4_compareAmount_93 : decode cX4_compareAmount 93 = .ok (.ireturn, 1) := by decide +kernel
theorem dX4_copyFrom_0 : decode cX4_copyFrom 0 = .ok (.aload_n 0, 1) := by decide +kernel
theorem dX4_copyFrom_1 : decode cX4_copyFrom 1 = .ok (.getfield 7, 3) := by decide +kernel
theorem dX4_copyFrom_4 : decode cX4_copyFrom 4 = .ok (.iconst 0, 1) := by decide +kernel
theorem dX4_copyFrom_5 : decode cX4_copyFrom 5 = .ok (.aload_n 1, 1) := by decide +kernel
theorem dX4_copyFrom_6 : decode cX4_copyFrom 6 = .ok (.getfield 7, 3) := by decide +kernel
theorem dX4_copyFrom_9 : decode cX4_copyFrom 9 = .ok (.iconst 0, 1) := by decide +kernel
theorem dX4_copyFrom_10 : decode cX4_copyFrom 10 = .ok (.iaload, 1) := by decide +kernel
theorem dX4_copyFrom_11 : decode cX4_copyFrom 11 = .ok (.iastore, 1) := by decide +kernel
theorem dX4_copyFrom_12 : decode cX4_copyFrom 12 = .ok (.aload_n 1, 1) := by decide +kernel
theorem dX4_copyFrom_13 : decode cX4_copyFrom 13 = .ok (.getfield 13, 3) := by decide +kernel
theorem dX4_copyFrom_16 : decode cX4_copyFrom 16 = .ok (.iconst 1, 1) := by decide +kernel
theorem dX4_copyFrom_17 : decode cX4_copyFrom 17 = .ok (.if_icmp .le 29, 3) := by decide +kernel
theorem dX4_copyFrom_46 : decode cX4_copyFrom 46 = .ok (.aload_n 0, 1) := by decide +kernel
theorem dX4_copyFrom_47 : decode cX4_copyFrom 47 = .ok (.aload_n 1, 1) := by decide +kernel
theorem dX4_copyFrom_48 : decode cX4_copyFrom 48 = .ok (.getfield 13, 3) := by decide +kernel
theorem dX4_copyFrom_51 : decode cX4_copyFrom 51 = .ok (.putfield 13, 3) := by decide +kernel
theorem dX4_copyFrom_54 : decode cX4_copyFrom 54 = .ok (.aload_n 0, 1) := by decide +kernel
theorem dX4_copyFrom_55 : decode cX4_copyFrom 55 = .ok (.aload_n 1, 1) := by decide +kernel
theorem dX4_copyFrom_56 : decode cX4_copyFrom 56 = .ok (.getfield 17, 3) := by decide +kernel
theorem dX4_copyFrom_59 : decode cX4_copyFrom 59 = .ok (.putfield 17, 3) := by decide +kernel
theorem dX4_copyFrom_62 : decode cX4_copyFrom 62 = .ok (.return_, 1) := by decide +kernel
theorem dX4_dropSign_0 : decode cX4_dropSign 0 = .ok (.aload_n 0, 1) := by decide +kernel
theorem dX4_dropSign_1 : decode cX4_dropSign 1 = .ok (.iconst 0, 1) := by decide +kernel
theorem dX4_dropSign_2 : decode cX4_dropSign 2 = .ok (.putfield 17, 3) := by decide +kernel
theorem dX4_dropSign_5 : decode cX4_dropSign 5 = .ok (.return_, 1) := by decide +kernel
theorem dX4_isAmountBelow_0 : decode cX4_isAmountBelow 0 = .ok (.aload_n 0, 1) := by decide +kernel
theorem dX4_isAmountBelow_1 : decode cX4_isAmountBelow 1 = .ok (.getfield 13, 3) := by decide +kernel
theorem dX4_isAmountBelow_4 : decode cX4_isAmountBelow 4 = .ok (.iconst 1, 1) := by decide +kernel
theorem dX4_isAmountBelow_5 : decode cX4_isAmountBelow 5 = .ok (.if_icmp .gt 23, 3) := by decide +kernel
theorem dX4_isAmountBelow_8 : decode cX4_isAmountBelow 8 = .ok (.aload_n 0, 1) := by decide +kernel
theorem dX4_isAmountBelow_9 : decode cX4_isAmountBelow 9 = .ok (.getfield 7, 3) := by decide +kernel
theorem dX4_isAmountBelow_12 : decode cX4_isAmountBelow 12 = .ok (.iconst 0, 1) := by decide +kernel
theorem dX4_isAmountBelow_13 : decode cX4_isAmountBelow 13 = .ok (.iaload, 1) := by decide +kernel
theorem dX4_isAmountBelow_14 : decode cX4_isAmountBelow 14 = .ok (.i2l, 1) := by decide +kernel
theorem dX4_isAmountBelow_15 : decode cX4_isAmountBelow 15 = .ok (.ldc2_w 66, 3) := by decide +kernel
theorem dX4_isAmountBelow_18 : decode cX4_isAmountBelow 18 = .ok (.land, 1) := by decide +kernel
theorem dX4_isAmountBelow_19 : decode cX4_isAmountBelow 19 = .ok (.lload_n 1, 1) := by decide +kernel
theorem dX4_isAmountBelow_20 : decode cX4_isAmountBelow 20 = .ok (.lcmp, 1) := by decide +kernel
theorem dX4_isAmountBelow_21 : decode cX4_isAmountBelow 21 = .ok (.ifCond .ge 7, 3) := by decide +kernel
theorem dX4_isAmountBelow_24 : decode cX4_isAmountBelow 24 = .ok (.iconst 1, 1) := by decide +kernel
theorem dX4_isAmountBelow_25 : decode cX4_isAmountBelow 25 = .ok (.goto 4, 3) := by decide +kernel
theorem dX4_isAmountBelow_29 : decode cX4_isAmountBelow 29 = .ok (.ireturn, 1) := by decide +kernel
theorem dX4_isAnyBitBelow_0 : decode cX4_isAnyBitBelow 0 = .ok (.iload_n 1, 1) := by decide +kernel
theorem dX4_isAnyBitBelow_1 : decode cX4_isAnyBitBelow 1 = .ok (.bipush 32, 2) := by decide +kernel
theorem dX4_isAnyBitBelow_3 : decode cX4_isAnyBitBelow 3 = .ok (.idiv, 1) := by decide +kernel
theorem dX4_isAnyBitBelow_4 : decode cX4_isAnyBitBelow 4 = .ok (.istore_n 2, 1) := by decide +kernel
theorem dX4_isAnyBitBelow_5 : decode cX4_isAnyBitBelow 5 = .ok (.iconst 0, 1) := by decide +kernel
theorem dX4_isAnyBitBelow_6 : decode cX4_isAnyBitBelow 6 = .ok (.istore_n 3, 1) := by decide +kernel
theorem dX4_isAnyBitBelow_7 : decode cX4_isAnyBitBelow 7 = .ok (.iload_n 3, 1) := by decide +kernel
theorem dX4_isAnyBitBelow_8 : decode cX4_isAnyBitBelow 8 = .ok (.iload_n 2, 1) := by decide +kernel
theorem dX4_isAnyBitBelow_9 : decode cX4_isAnyBitBelow 9 = .ok (.if_icmp .ge 21, 3) := by decide +kernel
theorem dX4_isAnyBitBelow_30 : decode cX4_isAnyBitBelow 30 = .ok (.aload_n 0, 1) := by decide +kernel
theorem dX4_isAnyBitBelow_31 : decode cX4_isAnyBitBelow 31 = .ok (.iload_n 2, 1) := by decide +kernel
theorem dX4_isAnyBitBelow_32 : decode cX4_isAnyBitBelow 32 = .ok (.invokevirtual 87, 3) := by decide +kernel
theorem dX4_isAnyBitBelow_35 : decode cX4_isAnyBitBelow 35 = .ok (.lconst 1, 1) := by decide +kernel
theorem dX4_isAnyBitBelow_36 : decode cX4_isAnyBitBelow 36 = .ok (.iload_n 1, 1) := by decide +kernel
theorem dX4_isAnyBitBelow_37 : decode cX4_isAnyBitBelow 37 = .ok (.bipush 32, 2) := by decide +kernel
theorem dX4_isAnyBitBelow_39 : decode cX4_isAnyBitBelow 39 = .ok (.irem, 1) := by decide +kernel
theorem dX4_isAnyBitBelow_40 : decode cX4_isAnyBitBelow 40 = .ok (.lshl, 1) := by decide +kernel
theorem dX4_isAnyBitBelow_41 : decode cX4_isAnyBitBelow 41 = .ok (.lconst 1, 1) := by decide +kernel
theorem dX4_isAnyBitBelow_42 : decode cX4_isAnyBitBelow 42 = .ok (.lsub, 1) := by decide +kernel
theorem dX4_isAnyBitBelow_43 : decode cX4_isAnyBitBelow 43 = .ok (.land, 1) := by decide +kernel
theorem dX4_isAnyBitBelow_44 : decode cX4_isAnyBitBelow 44 = .ok (.lconst 0, 1) := by decide +kernel
theorem dX4_isAnyBitBelow_45 : decode cX4_isAnyBitBelow 45 = .ok (.lcmp, 1) := by decide +kernel
theorem dX4_isAnyBitBelow_46 : decode cX4_isAnyBitBelow 46 = .ok (.ifCond .eq 7, 3) := by decide +kernel
theorem dX4_isAnyBitBelow_53 : decode cX4_isAnyBitBelow 53 = .ok (.iconst 0, 1) := by decide +kernel
theorem dX4_isAnyBitBelow_54 : decode cX4_isAnyBitBelow 54 = .ok (.ireturn, 1) := by decide +kernel
theorem dX4_isZero_0 : decode cX4_isZero 0 = .ok (.aload_n 0, 1) := by decide +kernel
theorem dX4_isZero_1 : decode cX4_isZero 1 = .ok (.getfield 13, 3) := by decide +kernel
theorem dX4_isZero_4 : decode cX4_isZero 4 = .ok (.ifCond .ne 7, 3) := by decide +kernel
theorem dX4_isZero_7 : decode cX4_isZero 7 = .ok (.iconst 1, 1) := by decide +kernel
theorem dX4_isZero_8 : decode cX4_isZero 8 = .ok (.goto 4, 3) := by decide +kernel
theorem dX4_isZero_12 : decode cX4_isZero 12 = .ok (.ireturn, 1) := by decide +kernel
theorem dX4_limbAt_0 : decode cX4_limbAt 0 = .ok (.iload_n 1, 1) := by decide +kernel
theorem dX4_limbAt_1 : decode cX4_limbAt 1 = .ok (.aload_n 0, 1) := by decide +kernel
theorem dX4_limbAt_2 : decode cX4_limbAt 2 = .ok (.getfield 13, 3) := by decide +kernel
theorem dX4_limbAt_5 : decode cX4_limbAt 5 = .ok (.if_icmp .ge 17, 3) := by decide +kernel
theorem dX4_limbAt_22 : decode cX4_limbAt 22 = .ok (.lconst 0, 1) := by decide +kernel
theorem dX4_limbAt_23 : decode cX4_limbAt 23 = .ok (.lreturn, 1) := by decide +kernel
theorem dX4_lowest_0 : decode cX4_lowest 0 = .ok (.aload_n 0, 1) := by decide +kernel
theorem dX4_lowest_1 : decode cX4_lowest 1 = .ok (.getfield 17, 3) := by decide +kernel
theorem dX4_lowest_4 : decode cX4_lowest 4 = .ok (.ifCond .eq 18, 3) := by decide +kernel
theorem dX4_lowest_22 : decode cX4_lowest 22 = .ok (.aload_n 0, 1) := by decide +kernel
theorem dX4_lowest_23 : decode cX4_lowest 23 = .ok (.getfield 7, 3) := by decide +kernel
theorem dX4_lowest_26 : decode cX4_lowest 26 = .ok (.iconst 0, 1) := by decide +kernel
theorem dX4_lowest_27 : decode cX4_lowest 27 = .ok (.iaload, 1) := by decide +kernel
theorem dX4_lowest_28 : decode cX4_lowest 28 = .ok (.i2l, 1) := by decide +kernel
theorem dX4_lowest_29 : decode cX4_lowest 29 = .ok (.ldc2_w 66, 3) := by decide +kernel
theorem dX4_lowest_32 : decode cX4_lowest 32 = .ok (.land, 1) := by decide +kernel
theorem dX4_lowest_33 : decode cX4_lowest 33 = .ok (.lreturn, 1) := by decide +kernel
theorem dX4_restOfAmount_0 : decode cX4_restOfAmount 0 = .ok (.lconst 0, 1) := by decide +kernel
theorem dX4_restOfAmount_1 : decode cX4_restOfAmount 1 = .ok (.lstore_n 3, 1) := by decide +kernel
theorem dX4_restOfAmount_2 : decode cX4_restOfAmount 2 = .ok (.aload_n 0, 1) := by decide +kernel
theorem dX4_restOfAmount_3 : decode cX4_restOfAmount 3 = .ok (.getfield 13, 3) := by decide +kernel
theorem dX4_restOfAmount_6 : decode cX4_restOfAmount 6 = .ok (.iconst 1, 1) := by decide +kernel
theorem dX4_restOfAmount_7 : decode cX4_restOfAmount 7 = .ok (.isub, 1) := by decide +kernel
theorem dX4_restOfAmount_8 : decode cX4_restOfAmount 8 = .ok (.istore 5, 2) := by decide +kernel
theorem dX4_restOfAmount_10 : decode cX4_restOfAmount 10 = .ok (.iload 5, 2) := by decide +kernel
theorem dX4_restOfAmount_12 : decode cX4_restOfAmount 12 = .ok (.ifCond .lt 35, 3) := by decide +kernel
theorem dX4_restOfAmount_47 : decode cX4_restOfAmount 47 = .ok (.lload_n 3, 1) := by decide +kernel
theorem dX4_restOfAmount_48 : decode cX4_restOfAmount 48 = .ok (.lreturn, 1) := by decide +kernel
theorem dX4_scale_0 : decode cX4_scale 0 = .ok (.lload_n 3, 1) := by decide +kernel
theorem dX4_scale_1 : decode cX4_scale 1 = .ok (.lconst 0, 1) := by decide +kernel
theorem dX4_scale_2 : decode cX4_scale 2 = .ok (.lcmp, 1) := by decide +kernel
theorem dX4_scale_3 : decode cX4_scale 3 = .ok (.ifCond .gt 4, 3) := by decide +kernel
theorem dX4_scale_7 : decode cX4_scale 7 = .ok (.aload_n 0, 1) := by decide +kernel
theorem dX4_scale_8 : decode cX4_scale 8 = .ok (.getfield 13, 3) := by decide +kernel
theorem dX4_scale_11 : decode cX4_scale 11 = .ok (.iconst 1, 1) := by decide +kernel
theorem dX4_scale_12 : decode cX4_scale 12 = .ok (.if_icmp .gt 18, 3) := by decide +kernel
theorem dX4_scale_15 : decode cX4_scale 15 = .ok (.aload_n 0, 1) := by decide +kernel
theorem dX4_scale_16 : decode cX4_scale 16 = .ok (.aload_n 0, 1) := by decide +kernel
theorem dX4_scale_17 : decode cX4_scale 17 = .ok (.invokevirtual 31, 3) := by decide +kernel
theorem dX4_scale_20 : decode cX4_scale 20 = .ok (.lload_n 1, 1) := by decide +kernel
theorem dX4_scale_21 : decode cX4_scale 21 = .ok (.lmul, 1) := by decide +kernel
theorem dX4_scale_22 : decode cX4_scale 22 = .ok (.lload_n 3, 1) := by decide +kernel
theorem dX4_scale_23 : decode cX4_scale 23 = .ok (.invokestatic 55, 3) := by decide +kernel
theorem dX4_scale_26 : decode cX4_scale 26 = .ok (.invokevirtual 35, 3) := by decide +kernel
theorem dX4_scale_29 : decode cX4_scale 29 = .ok (.return_, 1) := by decide +kernel
theorem dX4_toDouble_0 : decode cX4_toDouble 0 = .ok (.iconst 0, 1) := by decide +kernel
theorem dX4_toDouble_1 : decode cX4_toDouble 1 = .ok (.aload_n 0, 1) := by decide +kernel
theorem dX4_toDouble_2 : decode cX4_toDouble 2 = .ok (.invokevirtual 77, 3) := by decide +kernel
theorem dX4_toDouble_5 : decode cX4_toDouble 5 = .ok (.bipush 62, 2) := by decide +kernel
theorem dX4_toDouble_7 : decode cX4_toDouble 7 = .ok (.isub, 1) := by decide +kernel
theorem dX4_toDouble_8 : decode cX4_toDouble 8 = .ok (.invokestatic 39, 3) := by decide +kernel
theorem dX4_toDouble_11 : decode cX4_toDouble 11 = .ok (.istore_n 1, 1) := by decide +kernel
theorem dX4_toDouble_12 : decode cX4_toDouble 12 = .ok (.aload_n 0, 1) := by decide +kernel
theorem dX4_toDouble_13 : decode cX4_toDouble 13 = .ok (.iload_n 1, 1) := by decide +kernel
theorem dX4_toDouble_14 : decode cX4_toDouble 14 = .ok (.invokevirtual 81, 3) := by decide +kernel
theorem dX4_toDouble_17 : decode cX4_toDouble 17 = .ok (.ifCond .eq 13, 3) := by decide +kernel
theorem dX4_toDouble_30 : decode cX4_toDouble 30 = .ok (.aload_n 0, 1) := by decide +kernel
theorem dX4_toDouble_31 : decode cX4_toDouble 31 = .ok (.iload_n 1, 1) := by decide +kernel
theorem dX4_toDouble_32 : decode cX4_toDouble 32 = .ok (.invokevirtual 73, 3) := by decide +kernel
theorem dX4_toDouble_35 : decode cX4_toDouble 35 = .ok (.lstore_n 2, 1) := by decide +kernel
theorem dX4_toDouble_36 : decode cX4_toDouble 36 = .ok (.aload_n 0, 1) := by decide +kernel
theorem dX4_toDouble_37 : decode cX4_toDouble 37 = .ok (.getfield 17, 3) := by decide +kernel
theorem dX4_toDouble_40 : decode cX4_toDouble 40 = .ok (.ifCond .eq 8, 3) := by decide +kernel
theorem dX4_toDouble_48 : decode cX4_toDouble 48 = .ok (.lload_n 2, 1) := by decide +kernel
theorem dX4_toDouble_49 : decode cX4_toDouble 49 = .ok (.l2d, 1) := by decide +kernel
theorem dX4_toDouble_50 : decode cX4_toDouble 50 = .ok (.dstore 4, 2) := by decide +kernel
theorem dX4_toDouble_52 : decode cX4_toDouble 52 = .ok (.iconst 0, 1) := by decide +kernel
theorem dX4_toDouble_53 : decode cX4_toDouble 53 = .ok (.istore 6, 2) := by decide +kernel
theorem dX4_toDouble_55 : decode cX4_toDouble 55 = .ok (.iload 6, 2) := by decide +kernel
theorem dX4_toDouble_57 : decode cX4_toDouble 57 = .ok (.iload_n 1, 1) := by decide +kernel
theorem dX4_toDouble_58 : decode cX4_toDouble 58 = .ok (.if_icmp .ge 17, 3) := by decide +kernel
theorem dX4_toDouble_75 : decode cX4_toDouble 75 = .ok (.dload 4, 2) := by decide +kernel
theorem dX4_toDouble_77 : decode cX4_toDouble 77 = .ok (.dreturn, 1) := by decide +kernel
theorem dX4_toLong_0 : decode cX4_toLong 0 = .ok (.aload_n 0, 1) := by decide +kernel
theorem dX4_toLong_1 : decode cX4_toLong 1 = .ok (.getfield 17, 3) := by decide +kernel
theorem dX4_toLong_4 : decode cX4_toLong 4 = .ok (.ifCond .eq 12, 3) := by decide +kernel
theorem dX4_toLong_16 : decode cX4_toLong 16 = .ok (.aload_n 0, 1) := by decide +kernel
theorem dX4_toLong_17 : decode cX4_toLong 17 = .ok (.iconst 0, 1) := by decide +kernel
theorem dX4_toLong_18 : decode cX4_toLong 18 = .ok (.invokevirtual 73, 3) := by decide +kernel
theorem dX4_toLong_21 : decode cX4_toLong 21 = .ok (.lreturn, 1) := by decide +kernel
theorem dX5_append_0 : decode cX5_append 0 = .ok (.aload_n 0, 1) := by decide +kernel
theorem dX5_append_1 : decode cX5_append 1 = .ok (.getfield 12, 3) := by decide +kernel
theorem dX5_append_4 : decode cX5_append 4 = .ok (.invokevirtual 66, 3) := by decide +kernel
theorem dX5_append_7 : decode cX5_append 7 = .ok (.ifCond .ne 5, 3) := by decide +kernel
theorem dX5_append_12 : decode cX5_append 12 = .ok (.aload_n 0, 1) := by decide +kernel
theorem dX5_append_13 : decode cX5_append 13 = .ok (.getfield 12, 3) := by decide +kernel
theorem dX5_append_16 : decode cX5_append 16 = .ok (.iload_n 1, 1) := by decide +kernel
theorem dX5_append_17 : decode cX5_append 17 = .ok (.invokevirtual 70, 3) := by decide +kernel
theorem dX5_append_20 : decode cX5_append 20 = .ok (.aload_n 0, 1) := by decide +kernel
theorem dX5_append_21 : decode cX5_append 21 = .ok (.getfield 12, 3) := by decide +kernel
theorem dX5_append_24 : decode cX5_append 24 = .ok (.iload_n 2, 1) := by decide +kernel
theorem dX5_append_25 : decode cX5_append 25 = .ok (.invokevirtual 70, 3) := by decide +kernel
theorem dX5_append_28 : decode cX5_append 28 = .ok (.aload_n 0, 1) := by decide +kernel
theorem dX5_append_29 : decode cX5_append 29 = .ok (.getfield 12, 3) := by decide +kernel
theorem dX5_append_32 : decode cX5_append 32 = .ok (.iload_n 3, 1) := by decide +kernel
theorem dX5_append_33 : decode cX5_append 33 = .ok (.invokevirtual 70, 3) := by decide +kernel
theorem dX5_append_36 : decode cX5_append 36 = .ok (.aload_n 0, 1) := by decide +kernel
theorem dX5_append_37 : decode cX5_append 37 = .ok (.getfield 12, 3) := by decide +kernel
theorem dX5_append_40 : decode cX5_append 40 = .ok (.iload 4, 2) := by decide +kernel
theorem dX5_append_42 : decode cX5_append 42 = .ok (.invokevirtual 70, 3) := by decide +kernel
theorem dX5_append_45 : decode cX5_append 45 = .ok (.aload_n 0, 1) := by decide +kernel
theorem dX5_append_46 : decode cX5_append 46 = .ok (.getfield 12, 3) := by decide +kernel
theorem dX5_append_49 : decode cX5_append 49 = .ok (.iload 5, 2) := by decide +kernel
theorem dX5_append_51 : decode cX5_append 51 = .ok (.invokevirtual 70, 3) := by decide +kernel
theorem dX5_append_54 : decode cX5_append 54 = .ok (.aload_n 0, 1) := by decide +kernel
theorem dX5_append_55 : decode cX5_append 55 = .ok (.getfield 12, 3) := by decide +kernel
theorem dX5_append_58 : decode cX5_append 58 = .ok (.getfield 74, 3) := by decide +kernel
theorem dX5_append_61 : decode cX5_append 61 = .ok (.ireturn, 1) := by decide +kernel
theorem dX5_beginTrial_0 : decode cX5_beginTrial 0 = .ok (.aload_n 0, 1) := by decide +kernel
theorem dX5_beginTrial_1 : decode cX5_beginTrial 1 = .ok (.getfield 35, 3) := by decide +kernel
theorem dX5_beginTrial_4 : decode cX5_beginTrial 4 = .ok (.invokevirtual 60, 3) := by decide +kernel
theorem dX5_beginTrial_7 : decode cX5_beginTrial 7 = .ok (.aload_n 0, 1) := by decide +kernel
theorem dX5_beginTrial_8 : decode cX5_beginTrial 8 = .ok (.getfield 35, 3) := by decide +kernel
theorem dX5_beginTrial_11 : decode cX5_beginTrial 11 = .ok (.iload_n 1, 1) := by decide +kernel
theorem dX5_beginTrial_12 : decode cX5_beginTrial 12 = .ok (.putfield 113, 3) := by decide +kernel
theorem dX5_beginTrial_15 : decode cX5_beginTrial 15 = .ok (.aload_n 0, 1) := by decide +kernel
theorem dX5_beginTrial_16 : decode cX5_beginTrial 16 = .ok (.getfield 35, 3) := by decide +kernel
theorem dX5_beginTrial_19 : decode cX5_beginTrial 19 = .ok (.iload_n 2, 1) := by decide +kernel
theorem dX5_beginTrial_20 : decode cX5_beginTrial 20 = .ok (.putfield 116, 3) := by decide +kernel
theorem dX5_beginTrial_23 : decode cX5_beginTrial 23 = .ok (.aload_n 0, 1) := by decide +kernel
theorem dX5_beginTrial_24 : decode cX5_beginTrial 24 = .ok (.getfield 35, 3) := by decide +kernel
theorem dX5_beginTrial_27 : decode cX5_beginTrial 27 = .ok (.aload_n 0, 1) := by decide +kernel
theorem dX5_beginTrial_28 : decode cX5_beginTrial 28 = .ok (.getfield 31, 3) := by decide +kernel
theorem dX5_beginTrial_31 : decode cX5_beginTrial 31 = .ok (.getfield 119, 3) := by decide +kernel
theorem dX5_beginTrial_34 : decode cX5_beginTrial 34 = .ok (.putfield 119, 3) := by decide +kernel
theorem dX5_beginTrial_37 : decode cX5_beginTrial 37 = .ok (.return_, 1) := by decide +kernel
theorem dX5_bestScheme_0 : decode cX5_bestScheme 0 = .ok (.iconst 0, 1) := by decide +kernel
theorem dX5_bestScheme_1 : decode cX5_bestScheme 1 = .ok (.istore_n 1, 1) := by decide +kernel
theorem dX5_bestScheme_2 : decode cX5_bestScheme 2 = .ok (.iconst 0, 1) := by decide +kernel
theorem dX5_bestScheme_3 : decode cX5_bestScheme 3 = .ok (.istore_n 2, 1) := by decide +kernel
theorem dX5_bestScheme_4 : decode cX5_bestScheme 4 = .ok (.iconst 0, 1) := by decide +kernel
theorem dX5_bestScheme_5 : decode cX5_bestScheme 5 = .ok (.istore_n 3, 1) := by decide +kernel
theorem dX5_bestScheme_6 : decode cX5_bestScheme 6 = .ok (.iload_n 3, 1) := by decide +kernel
theorem dX5_bestScheme_7 : decode cX5_bestScheme 7 = .ok (.bipush 9, 2) := by decide +kernel
theorem dX5_bestScheme_9 : decode cX5_bestScheme 9 = .ok (.if_icmp .ge 53, 3) := by decide +kernel
theorem dX5_bestScheme_12 : decode cX5_bestScheme 12 = .ok (.aload_n 0, 1) := by decide +kernel
theorem dX5_bestScheme_13 : decode cX5_bestScheme 13 = .ok (.iload_n 3, 1) := by decide +kernel
theorem dX5_bestScheme_14 : decode cX5_bestScheme 14 = .ok (.iconst 3, 1) := by decide +kernel
theorem dX5_bestScheme_15 : decode cX5_bestScheme 15 = .ok (.idiv, 1) := by decide +kernel
theorem dX5_bestScheme_16 : decode cX5_bestScheme 16 = .ok (.iload_n 3, 1) := by decide +kernel
theorem dX5_bestScheme_17 : decode cX5_bestScheme 17 = .ok (.iconst 3, 1) := by decide +kernel
theorem dX5_bestScheme_18 : decode cX5_bestScheme 18 = .ok (.irem, 1) := by decide +kernel
theorem dX5_bestScheme_19 : decode cX5_bestScheme 19 = .ok (.invokevirtual 314, 3) := by decide +kernel
theorem dX5_bestScheme_22 : decode cX5_bestScheme 22 = .ok (.aload_n 0, 1) := by decide +kernel
theorem dX5_bestScheme_23 : decode cX5_bestScheme 23 = .ok (.getfield 35, 3) := by decide +kernel
theorem dX5_bestScheme_26 : decode cX5_bestScheme 26 = .ok (.bipush 46, 2) := by decide +kernel
theorem dX5_bestScheme_28 : decode cX5_bestScheme 28 = .ok (.invokevirtual 261, 3) := by decide +kernel
theorem dX5_bestScheme_31 : decode cX5_bestScheme 31 = .ok (.pop, 1) := by decide +kernel
theorem dX5_bestScheme_32 : decode cX5_bestScheme 32 = .ok (.aload_n 0, 1) := by decide +kernel
theorem dX5_bestScheme_33 : decode cX5_bestScheme 33 = .ok (.getfield 35, 3) := by decide +kernel
theorem dX5_bestScheme_36 : decode cX5_bestScheme 36 = .ok (.invokevirtual 238, 3) := by decide +kernel
theorem dX5_bestScheme_39 : decode cX5_bestScheme 39 = .ok (.istore 4, 2) := by decide +kernel
theorem dX5_bestScheme_41 : decode cX5_bestScheme 41 = .ok (.iload_n 3, 1) := by decide +kernel
theorem dX5_bestScheme_42 : decode cX5_bestScheme 42 = .ok (.ifCond .eq 9, 3) := by decide +kernel
theorem dX5_bestScheme_45 : decode cX5_bestScheme 45 = .ok (.iload 4, 2) := by decide +kernel
theorem dX5_bestScheme_47 : decode cX5_bestScheme 47 = .ok (.iload_n 2, 1) := by decide +kernel
theorem dX5_bestScheme_48 : decode cX5_bestScheme 48 = .ok (.if_icmp .ge 8, 3) := by decide +kernel
theorem dX5_bestScheme_51 : decode cX5_bestScheme 51 = .ok (.iload_n 3, 1) := by decide +kernel
theorem dX5_bestScheme_52 : decode cX5_bestScheme 52 = .ok (.istore_n 1, 1) := by decide +kernel
theorem dX5_bestScheme_53 : decode cX5_bestScheme 53 = .ok (.iload 4, 2) := by decide +kernel
theorem dX5_bestScheme_55 : decode cX5_bestScheme 55 = .ok (.istore_n 2, 1) := by decide +kernel
theorem dX5_bestScheme_56 : decode cX5_bestScheme 56 = .ok (.iinc 3 1, 3) := by decide +kernel
theorem dX5_bestScheme_59 : decode cX5_bestScheme 59 = .ok (.goto (-53), 3) := by decide +kernel
theorem dX5_bestScheme_62 : decode cX5_bestScheme 62 = .ok (.iload_n 1, 1) := by decide +kernel
theorem dX5_bestScheme_63 : decode cX5_bestScheme 63 = .ok (.ireturn, 1) := by decide +kernel
theorem dX5_bestThreshold_0 : decode cX5_bestThreshold 0 = .ok (.iload_n 1, 1) := by decide +kernel
theorem dX5_bestThreshold_1 : decode cX5_bestThreshold 1 = .ok (.iconst 0, 1) := by decide +kernel
theorem dX5_bestThreshold_2 : decode cX5_bestThreshold 2 = .ok (.ldc_w 272, 3) := by decide +kernel
theorem dX5_bestThreshold_5 : decode cX5_bestThreshold 5 = .ok (.invokestatic 212, 3) := by decide +kernel
theorem dX5_bestThreshold_8 : decode cX5_bestThreshold 8 = .ok (.ldc2_w 303, 3) := by decide +kernel
theorem dX5_bestThreshold_11 : decode cX5_bestThreshold 11 = .ok (.lstore_n 2, 1) := by decide +kernel
theorem dX5_bestThreshold_12 : decode cX5_bestThreshold 12 = .ok (.iconst 0, 1) := by decide +kernel
theorem dX5_bestThreshold_13 : decode cX5_bestThreshold 13 = .ok (.istore 4, 2) := by decide +kernel
theorem dX5_bestThreshold_15 : decode cX5_bestThreshold 15 = .ok (.iload 4, 2) := by decide +kernel
theorem dX5_bestThreshold_17 : decode cX5_bestThreshold 17 = .ok (.bipush 46, 2) := by decide +kernel
theorem dX5_bestThreshold_19 : decode cX5_bestThreshold 19 = .ok (.if_icmp .gt 44, 3) := by decide +kernel
theorem dX5_bestThreshold_22 : decode cX5_bestThreshold 22 = .ok (.lload_n 2, 1) := by decide +kernel
theorem dX5_bestThreshold_23 : decode cX5_bestThreshold 23 = .ok (.lconst 0, 1) := by decide +kernel
theorem dX5_bestThreshold_24 : decode cX5_bestThreshold 24 = .ok (.lcmp, 1) := by decide +kernel
theorem dX5_bestThreshold_25 : decode cX5_bestThreshold 25 = .ok (.ifCond .lt 38, 3) := by decide +kernel
theorem dX5_bestThreshold_28 : decode cX5_bestThreshold 28 = .ok (.aload_n 0, 1) := by decide +kernel
theorem dX5_bestThreshold_29 : decode cX5_bestThreshold 29 = .ok (.lload_n 2, 1) := by decide +kernel
theorem dX5_bestThreshold_30 : decode cX5_bestThreshold 30 = .ok (.l2i, 1) := by decide +kernel
theorem dX5_bestThreshold_31 : decode cX5_bestThreshold 31 = .ok (.iconst 0, 1) := by decide +kernel
theorem dX5_bestThreshold_32 : decode cX5_bestThreshold 32 = .ok (.invokevirtual 299, 3) := by decide +kernel
theorem dX5_bestThreshold_35 : decode cX5_bestThreshold 35 = .ok (.iload_n 1, 1) := by decide +kernel
theorem dX5_bestThreshold_36 : decode cX5_bestThreshold 36 = .ok (.i2l, 1) := by decide +kernel
theorem dX5_bestThreshold_37 : decode cX5_bestThreshold 37 = .ok (.lconst 1, 1) := by decide +kernel
theorem dX5_bestThreshold_38 : decode cX5_bestThreshold 38 = .ok (.ladd, 1) := by decide +kernel
theorem dX5_bestThreshold_39 : decode cX5_bestThreshold 39 = .ok (.invokevirtual 305, 3) := by decide +kernel
theorem dX5_bestThreshold_42 : decode cX5_bestThreshold 42 = .ok (.ifCond .eq 6, 3) := by decide +kernel
theorem dX5_bestThreshold_45 : decode cX5_bestThreshold 45 = .ok (.lload_n 2, 1) := by decide +kernel
theorem dX5_bestThreshold_46 : decode cX5_bestThreshold 46 = .ok (.l2i, 1) := by decide +kernel
theorem dX5_bestThreshold_47 : decode cX5_bestThreshold 47 = .ok (.ireturn, 1) := by decide +kernel
theorem dX5_bits_0 : decode cX5_bits 0 = .ok (.aload_n 0, 1) := by decide +kernel
theorem dX5_bits_1 : decode cX5_bits 1 = .ok (.getfield 31, 3) := by decide +kernel
theorem dX5_bits_4 : decode cX5_bits 4 = .ok (.invokevirtual 238, 3) := by decide +kernel
theorem dX5_bits_7 : decode cX5_bits 7 = .ok (.ireturn, 1) := by decide +kernel
theorem dX5_bitsBy_0 : decode cX5_bitsBy 0 = .ok (.iload_n 1, 1) := by decide +kernel
theorem dX5_bitsBy_1 : decode cX5_bitsBy 1 = .ok (.iconst 0, 1) := by decide +kernel
theorem dX5_bitsBy_2 : decode cX5_bitsBy 2 = .ok (.iconst 2, 1) := by decide +kernel
theorem dX5_bitsBy_3 : decode cX5_bitsBy 3 = .ok (.invokestatic 212, 3) := by decide +kernel
theorem dX5_bitsBy_6 : decode cX5_bitsBy 6 = .ok (.iload_n 2, 1) := by decide +kernel
theorem dX5_bitsBy_7 : decode cX5_bitsBy 7 = .ok (.iconst 0, 1) := by decide +kernel
theorem dX5_bitsBy_8 : decode cX5_bitsBy 8 = .ok (.iconst 2, 1) := by decide +kernel
theorem dX5_bitsBy_9 : decode cX5_bitsBy 9 = .ok (.invokestatic 212, 3) := by decide +kernel
theorem dX5_bitsBy_12 : decode cX5_bitsBy 12 = .ok (.aload_n 0, 1) := by decide +kernel
theorem dX5_bitsBy_13 : decode cX5_bitsBy 13 = .ok (.iload_n 1, 1) := by decide +kernel
theorem dX5_bitsBy_14 : decode cX5_bitsBy 14 = .ok (.iload_n 2, 1) := by decide +kernel
theorem dX5_bitsBy_15 : decode cX5_bitsBy 15 = .ok (.invokevirtual 314, 3) := by decide +kernel
theorem dX5_bitsBy_18 : decode cX5_bitsBy 18 = .ok (.aload_n 0, 1) := by decide +kernel
theorem dX5_bitsBy_19 : decode cX5_bitsBy 19 = .ok (.getfield 35, 3) := by decide +kernel
theorem dX5_bitsBy_22 : decode cX5_bitsBy 22 = .ok (.bipush 46, 2) := by decide +kernel
theorem dX5_bitsBy_24 : decode cX5_bitsBy 24 = .ok (.invokevirtual 261, 3) := by decide +kernel
theorem dX5_bitsBy_27 : decode cX5_bitsBy 27 = .ok (.pop, 1) := by decide +kernel
theorem dX5_bitsBy_28 : decode cX5_bitsBy 28 = .ok (.aload_n 0, 1) := by decide +kernel
theorem dX5_bitsBy_29 : decode cX5_bitsBy 29 = .ok (.getfield 35, 3) := by decide +kernel
theorem dX5_bitsBy_32 : decode cX5_bitsBy 32 = .ok (.invokevirtual 238, 3) := by decide +kernel
theorem dX5_bitsBy_35 : decode cX5_bitsBy 35 = .ok (.ireturn, 1) := by decide +kernel
theorem dX5_commonDivisor_0 : decode cX5_commonDivisor 0 = .ok (.lload_n 0, 1) := by decide +kernel
theorem dX5_commonDivisor_1 : decode cX5_commonDivisor 1 = .ok (.lconst 1, 1) := by decide +kernel
theorem dX5_commonDivisor_2 : decode cX5_commonDivisor 2 = .ok (.invokestatic 328, 3) := by decide +kernel
theorem dX5_commonDivisor_5 : decode cX5_commonDivisor 5 = .ok (.lstore 4, 2) := by decide +kernel
theorem dX5_commonDivisor_7 : decode cX5_commonDivisor 7 = .ok (.lload_n 2, 1) := by decide +kernel
theorem dX5_commonDivisor_8 : decode cX5_commonDivisor 8 = .ok (.lstore 6, 2) := by decide +kernel
theorem dX5_commonDivisor_10 : decode cX5_commonDivisor 10 = .ok (.iconst 0, 1) := by decide +kernel
theorem dX5_commonDivisor_11 : decode cX5_commonDivisor 11 = .ok (.istore 8, 2) := by decide +kernel
theorem dX5_commonDivisor_13 : decode cX5_commonDivisor 13 = .ok (.iload 8, 2) := by decide +kernel
theorem dX5_commonDivisor_15 : decode cX5_commonDivisor 15 = .ok (.sipush 1000, 3) := by decide +kernel
theorem dX5_commonDivisor_18 : decode cX5_commonDivisor 18 = .ok (.if_icmp .ge 31, 3) := by decide +kernel
theorem dX5_commonDivisor_21 : decode cX5_commonDivisor 21 = .ok (.lload 6, 2) := by decide +kernel
theorem dX5_commonDivisor_23 : decode cX5_commonDivisor 23 = .ok (.lconst 0, 1) := by decide +kernel
theorem dX5_commonDivisor_24 : decode cX5_commonDivisor 24 = .ok (.lcmp, 1) := by decide +kernel
theorem dX5_commonDivisor_25 : decode cX5_commonDivisor 25 = .ok (.ifCond .le 24, 3) := by decide +kernel
theorem dX5_commonDivisor_49 : decode cX5_commonDivisor 49 = .ok (.lload 4, 2) := by decide +kernel
theorem dX5_commonDivisor_51 : decode cX5_commonDivisor 51 = .ok (.lreturn, 1) := by decide +kernel
theorem dX5_count_0 : decode cX5_count 0 = .ok (.iload_n 1, 1) := by decide +kernel
theorem dX5_count_1 : decode cX5_count 1 = .ok (.tableswitch 132 0 8 #[51, 59, 67, 75, 83, 91, 99, 115, 123], 51) := by decide +kernel
theorem dX5_count_52 : decode cX5_count 52 = .ok (.aload_n 0, 1) := by decide +kernel
theorem dX5_count_53 : decode cX5_count 53 = .ok (.getfield 19, 3) := by decide +kernel
theorem dX5_count_56 : decode cX5_count 56 = .ok (.getfield 94, 3) := by decide +kernel
theorem dX5_count_59 : decode cX5_count 59 = .ok (.ireturn, 1) := by decide +kernel
theorem dX5_count_60 : decode cX5_count 60 = .ok (.aload_n 0, 1) := by decide +kernel
theorem dX5_count_61 : decode cX5_count 61 = .ok (.getfield 31, 3) := by decide +kernel
theorem dX5_count_64 : decode cX5_count 64 = .ok (.invokevirtual 103, 3) := by decide +kernel
theorem dX5_count_67 : decode cX5_count 67 = .ok (.ireturn, 1) := by decide +kernel
theorem dX5_count_68 : decode cX5_count 68 = .ok (.aload_n 0, 1) := by decide +kernel
theorem dX5_count_69 : decode cX5_count 69 = .ok (.getfield 31, 3) := by decide +kernel
theorem dX5_count_72 : decode cX5_count 72 = .ok (.getfield 107, 3) := by decide +kernel
theorem dX5_count_75 : decode cX5_count 75 = .ok (.ireturn, 1) := by decide +kernel
theorem dX5_count_76 : decode cX5_count 76 = .ok (.aload_n 0, 1) := by decide +kernel
theorem dX5_count_77 : decode cX5_count 77 = .ok (.getfield 31, 3) := by decide +kernel
theorem dX5_count_80 : decode cX5_count 80 = .ok (.invokevirtual 110, 3) := by decide +kernel
theorem dX5_count_83 : decode cX5_count 83 = .ok (.ireturn, 1) := by decide +kernel
theorem dX5_count_84 : decode cX5_count 84 = .ok (.aload_n 0, 1) := by decide +kernel
theorem dX5_count_85 : decode cX5_count 85 = .ok (.getfield 31, 3) := by decide +kernel
theorem dX5_count_88 : decode cX5_count 88 = .ok (.getfield 113, 3) := by decide +kernel
theorem dX5_count_91 : decode cX5_count 91 = .ok (.ireturn, 1) := by decide +kernel
theorem dX5_count_92 : decode cX5_count 92 = .ok (.aload_n 0, 1) := by decide +kernel
theorem dX5_count_93 : decode cX5_count 93 = .ok (.getfield 31, 3) := by decide +kernel
theorem dX5_count_96 : decode cX5_count 96 = .ok (.getfield 116, 3) := by decide +kernel
theorem dX5_count_99 : decode cX5_count 99 = .ok (.ireturn, 1) := by decide +kernel
theorem dX5_count_100 : decode cX5_count 100 = .ok (.aload_n 0, 1) := by decide +kernel
theorem dX5_count_101 : decode cX5_count 101 = .ok (.getfield 31, 3) := by decide +kernel
theorem dX5_count_104 : decode cX5_count 104 = .ok (.getfield 119, 3) := by decide +kernel
theorem dX5_count_107 : decode cX5_count 107 = .ok (.ifCond .eq 7, 3) := by decide +kernel
theorem dX5_count_110 : decode cX5_count 110 = .ok (.iconst 1, 1) := by decide +kernel
theorem dX5_count_111 : decode cX5_count 111 = .ok (.goto 4, 3) := by decide +kernel
theorem dX5_count_115 : decode cX5_count 115 = .ok (.ireturn, 1) := by decide +kernel
theorem dX5_count_116 : decode cX5_count 116 = .ok (.aload_n 0, 1) := by decide +kernel
theorem dX5_count_117 : decode cX5_count 117 = .ok (.getfield 19, 3) := by decide +kernel
theorem dX5_count_120 : decode cX5_count 120 = .ok (.getfield 123, 3) := by decide +kernel
theorem dX5_count_123 : decode cX5_count 123 = .ok (.ireturn, 1) := by decide +kernel
theorem dX5_count_124 : decode cX5_count 124 = .ok (.aload_n 0, 1) := by decide +kernel
theorem dX5_count_125 : decode cX5_count 125 = .ok (.getfield 31, 3) := by decide +kernel
theorem dX5_count_128 : decode cX5_count 128 = .ok (.invokevirtual 126, 3) := by decide +kernel
theorem dX5_count_131 : decode cX5_count 131 = .ok (.l2i, 1) := by decide +kernel
theorem dX5_count_132 : decode cX5_count 132 = .ok (.ireturn, 1) := by decide +kernel
theorem dX5_count_133 : decode cX5_count 133 = .ok (.new 84, 3) := by decide +kernel
theorem dX5_count_136 : decode cX5_count 136 = .ok (.dup, 1) := by decide +kernel
theorem dX5_count_137 : decode cX5_count 137 = .ok (.ldc 130, 2) := by decide +kernel
theorem dX5_count_139 : decode cX5_count 139 = .ok (.invokespecial 88, 3) := by decide +kernel
theorem dX5_count_142 : decode cX5_count 142 = .ok (.athrow, 1) := by decide +kernel
theorem dX5_drift_0 : decode cX5_drift 0 = .ok (.aload_n 0, 1) := by decide +kernel
theorem dX5_drift_1 : decode cX5_drift 1 = .ok (.getfield 31, 3) := by decide +kernel
theorem dX5_drift_4 : decode cX5_drift 4 = .ok (.invokevirtual 208, 3) := by decide +kernel
theorem dX5_drift_7 : decode cX5_drift 7 = .ok (.invokevirtual 147, 3) := by decide +kernel
theorem dX5_drift_10 : decode cX5_drift 10 = .ok (.lreturn, 1) := by decide +kernel
theorem dX5_energy_0 : decode cX5_energy 0 = .ok (.aload_n 0, 1) := by decide +kernel
theorem dX5_energy_1 : decode cX5_energy 1 = .ok (.getfield 31, 3) := by decide +kernel
theorem dX5_energy_4 : decode cX5_energy 4 = .ok (.invokevirtual 235, 3) := by decide +kernel
theorem dX5_energy_7 : decode cX5_energy 7 = .ok (.lreturn, 1) := by decide +kernel
theorem dX5_error_0 : decode cX5_error 0 = .ok (.iload_n 1, 1) := by decide +kernel
theorem dX5_error_1 : decode cX5_error 1 = .ok (.iconst 0, 1) := by decide +kernel
theorem dX5_error_2 : decode cX5_error 2 = .ok (.iconst 2, 1) := by decide +kernel
theorem dX5_error_3 : decode cX5_error 3 = .ok (.invokestatic 212, 3) := by decide +kernel
theorem dX5_error_6 : decode cX5_error 6 = .ok (.aload_n 0, 1) := by decide +kernel
theorem dX5_error_7 : decode cX5_error 7 = .ok (.getfield 35, 3) := by decide +kernel
theorem dX5_error_10 : decode cX5_error 10 = .ok (.aload_n 0, 1) := by decide +kernel
theorem dX5_error_11 : decode cX5_error 11 = .ok (.getfield 31, 3) := by decide +kernel
theorem dX5_error_14 : decode cX5_error 14 = .ok (.invokevirtual 287, 3) := by decide +kernel
theorem dX5_error_17 : decode cX5_error 17 = .ok (.aload_n 0, 1) := by decide +kernel
theorem dX5_error_18 : decode cX5_error 18 = .ok (.getfield 35, 3) := by decide +kernel
theorem dX5_error_21 : decode cX5_error 21 = .ok (.bipush 46, 2) := by decide +kernel
theorem dX5_error_23 : decode cX5_error 23 = .ok (.invokevirtual 268, 3) := by decide +kernel
theorem dX5_error_26 : decode cX5_error 26 = .ok (.pop, 1) := by decide +kernel
theorem dX5_error_27 : decode cX5_error 27 = .ok (.iload_n 1, 1) := by decide +kernel
theorem dX5_error_28 : decode cX5_error 28 = .ok (.lookupswitch 50 #[(0, 28), (1, 39)], 28) := by decide +kernel
theorem dX5_error_56 : decode cX5_error 56 = .ok (.aload_n 0, 1) := by decide +kernel
theorem dX5_error_57 : decode cX5_error 57 = .ok (.getfield 35, 3) := by decide +kernel
theorem dX5_error_60 : decode cX5_error 60 = .ok (.invokevirtual 290, 3) := by decide +kernel
theorem dX5_error_63 : decode cX5_error 63 = .ok (.invokevirtual 147, 3) := by decide +kernel
theorem dX5_error_66 : decode cX5_error 66 = .ok (.lreturn, 1) := by decide +kernel
theorem dX5_error_67 : decode cX5_error 67 = .ok (.aload_n 0, 1) := by decide +kernel
theorem dX5_error_68 : decode cX5_error 68 = .ok (.getfield 35, 3) := by decide +kernel
theorem dX5_error_71 : decode cX5_error 71 = .ok (.invokevirtual 293, 3) := by decide +kernel
theorem dX5_error_74 : decode cX5_error 74 = .ok (.invokevirtual 147, 3) := by decide +kernel
theorem dX5_error_77 : decode cX5_error 77 = .ok (.lreturn, 1) := by decide +kernel
theorem dX5_error_78 : decode cX5_error 78 = .ok (.aload_n 0, 1) := by decide +kernel
theorem dX5_error_79 : decode cX5_error 79 = .ok (.getfield 35, 3) := by decide +kernel
theorem dX5_error_82 : decode cX5_error 82 = .ok (.invokevirtual 296, 3) := by decide +kernel
theorem dX5_error_85 : decode cX5_error 85 = .ok (.i2l, 1) := by decide +kernel
theorem dX5_error_86 : decode cX5_error 86 = .ok (.lreturn, 1) := by decide +kernel
theorem dX5_errorCode_0 : decode cX5_errorCode 0 = .ok (.aload_n 0, 1) := by decide +kernel
theorem dX5_errorCode_1 : decode cX5_errorCode 1 = .ok (.getfield 12, 3) := by decide +kernel
theorem dX5_errorCode_4 : decode cX5_errorCode 4 = .ok (.getfield 97, 3) := by decide +kernel
theorem dX5_errorCode_7 : decode cX5_errorCode 7 = .ok (.ireturn, 1) := by decide +kernel
theorem dX5_errorOfCut_0 : decode cX5_errorOfCut 0 = .ok (.aload_n 0, 1) := by decide +kernel
theorem dX5_errorOfCut_1 : decode cX5_errorOfCut 1 = .ok (.getfield 35, 3) := by decide +kernel
theorem dX5_errorOfCut_4 : decode cX5_errorOfCut 4 = .ok (.aload_n 0, 1) := by decide +kernel
theorem dX5_errorOfCut_5 : decode cX5_errorOfCut 5 = .ok (.getfield 31, 3) := by decide +kernel
theorem dX5_errorOfCut_8 : decode cX5_errorOfCut 8 = .ok (.invokevirtual 287, 3) := by decide +kernel
theorem dX5_errorOfCut_11 : decode cX5_errorOfCut 11 = .ok (.aload_n 0, 1) := by decide +kernel
theorem dX5_errorOfCut_12 : decode cX5_errorOfCut 12 = .ok (.getfield 35, 3) := by decide +kernel
theorem dX5_errorOfCut_15 : decode cX5_errorOfCut 15 = .ok (.iload_n 1, 1) := by decide +kernel
theorem dX5_errorOfCut_16 : decode cX5_errorOfCut 16 = .ok (.iload_n 2, 1) := by decide +kernel
theorem dX5_errorOfCut_17 : decode cX5_errorOfCut 17 = .ok (.invokevirtual 277, 3) := by decide +kernel
theorem dX5_errorOfCut_20 : decode cX5_errorOfCut 20 = .ok (.aload_n 0, 1) := by decide +kernel
theorem dX5_errorOfCut_21 : decode cX5_errorOfCut 21 = .ok (.getfield 35, 3) := by decide +kernel
theorem dX5_errorOfCut_24 : decode cX5_errorOfCut 24 = .ok (.bipush 46, 2) := by decide +kernel
theorem dX5_errorOfCut_26 : decode cX5_errorOfCut 26 = .ok (.invokevirtual 268, 3) := by decide +kernel
theorem dX5_errorOfCut_29 : decode cX5_errorOfCut 29 = .ok (.pop, 1) := by decide +kernel
theorem dX5_errorOfCut_30 : decode cX5_errorOfCut 30 = .ok (.aload_n 0, 1) := by decide +kernel
theorem dX5_errorOfCut_31 : decode cX5_errorOfCut 31 = .ok (.getfield 35, 3) := by decide +kernel
theorem dX5_errorOfCut_34 : decode cX5_errorOfCut 34 = .ok (.invokevirtual 290, 3) := by decide +kernel
theorem dX5_errorOfCut_37 : decode cX5_errorOfCut 37 = .ok (.areturn, 1) := by decide +kernel
theorem dX5_errorPosition_0 : decode cX5_errorPosition 0 = .ok (.aload_n 0, 1) := by decide +kernel
theorem dX5_errorPosition_1 : decode cX5_errorPosition 1 = .ok (.getfield 12, 3) := by decide +kernel
theorem dX5_errorPosition_4 : decode cX5_errorPosition 4 = .ok (.getfield 100, 3) := by decide +kernel
theorem dX5_errorPosition_7 : decode cX5_errorPosition 7 = .ok (.ireturn, 1) := by decide +kernel
theorem dX5_errorWith_0 : decode cX5_errorWith 0 = .ok (.iload_n 1, 1) := by decide +kernel
theorem dX5_errorWith_1 : decode cX5_errorWith 1 = .ok (.iconst 0, 1) := by decide +kernel
theorem dX5_errorWith_2 : decode cX5_errorWith 2 = .ok (.sipush 9999, 3) := by decide +kernel
theorem dX5_errorWith_5 : decode cX5_errorWith 5 = .ok (.invokestatic 212, 3) := by decide +kernel
theorem dX5_errorWith_8 : decode cX5_errorWith 8 = .ok (.aload_n 0, 1) := by decide +kernel
theorem dX5_errorWith_9 : decode cX5_errorWith 9 = .ok (.iload_n 1, 1) := by decide +kernel
theorem dX5_errorWith_10 : decode cX5_errorWith 10 = .ok (.iload_n 2, 1) := by decide +kernel
theorem dX5_errorWith_11 : decode cX5_errorWith 11 = .ok (.invokevirtual 299, 3) := by decide +kernel
theorem dX5_errorWith_14 : decode cX5_errorWith 14 = .ok (.invokevirtual 147, 3) := by decide +kernel
theorem dX5_errorWith_17 : decode cX5_errorWith 17 = .ok (.lreturn, 1) := by decide +kernel
theorem dX5_forward_0 : decode cX5_forward 0 = .ok (.iload_n 1, 1) := by decide +kernel
theorem dX5_forward_1 : decode cX5_forward 1 = .ok (.iconst 1, 1) := by decide +kernel
theorem dX5_forward_2 : decode cX5_forward 2 = .ok (.bipush 46, 2) := by decide +kernel
theorem dX5_forward_4 : decode cX5_forward 4 = .ok (.invokestatic 212, 3) := by decide +kernel
theorem dX5_forward_7 : decode cX5_forward 7 = .ok (.aload_n 0, 1) := by decide +kernel
theorem dX5_forward_8 : decode cX5_forward 8 = .ok (.getfield 31, 3) := by decide +kernel
theorem dX5_forward_11 : decode cX5_forward 11 = .ok (.iload_n 1, 1) := by decide +kernel
theorem dX5_forward_12 : decode cX5_forward 12 = .ok (.invokevirtual 261, 3) := by decide +kernel
theorem dX5_forward_15 : decode cX5_forward 15 = .ok (.istore_n 2, 1) := by decide +kernel
theorem dX5_forward_16 : decode cX5_forward 16 = .ok (.iload_n 2, 1) := by decide +kernel
theorem dX5_forward_17 : decode cX5_forward 17 = .ok (.ifCond .ne 10, 3) := by decide +kernel
theorem dX5_forward_20 : decode cX5_forward 20 = .ok (.aload_n 0, 1) := by decide +kernel
theorem dX5_forward_21 : decode cX5_forward 21 = .ok (.iconst 1, 1) := by decide +kernel
theorem dX5_forward_22 : decode cX5_forward 22 = .ok (.iconst 0, 1) := by decide +kernel
theorem dX5_forward_23 : decode cX5_forward 23 = .ok (.iconst (-1), 1) := by decide +kernel
theorem dX5_forward_24 : decode cX5_forward 24 = .ok (.invokevirtual 252, 3) := by decide +kernel
theorem dX5_integral_0 : decode cX5_integral 0 = .ok (.aload_n 0, 1) := by decide +kernel
theorem dX5_integral_1 : decode cX5_integral 1 = .ok (.getfield 31, 3) := by decide +kernel
theorem dX5_integral_4 : decode cX5_integral 4 = .ok (.getfield 205, 3) := by decide +kernel
theorem dX5_integral_7 : decode cX5_integral 7 = .ok (.invokevirtual 147, 3) := by decide +kernel
theorem dX5_integral_10 : decode cX5_integral 10 = .ok (.lreturn, 1) := by decide +kernel
theorem dX5_inverse_0 : decode cX5_inverse 0 = .ok (.iload_n 1, 1) := by decide +kernel
theorem dX5_inverse_1 : decode cX5_inverse 1 = .ok (.iconst 1, 1) := by decide +kernel
theorem dX5_inverse_2 : decode cX5_inverse 2 = .ok (.bipush 46, 2) := by decide +kernel
theorem dX5_inverse_4 : decode cX5_inverse 4 = .ok (.invokestatic 212, 3) := by decide +kernel
theorem dX5_inverse_7 : decode cX5_inverse 7 = .ok (.aload_n 0, 1) := by decide +kernel
theorem dX5_inverse_8 : decode cX5_inverse 8 = .ok (.getfield 31, 3) := by decide +kernel
theorem dX5_inverse_11 : decode cX5_inverse 11 = .ok (.getfield 107, 3) := by decide +kernel
theorem dX5_inverse_14 : decode cX5_inverse 14 = .ok (.ifCond .ne 10, 3) := by decide +kernel
theorem dX5_inverse_17 : decode cX5_inverse 17 = .ok (.aload_n 0, 1) := by decide +kernel
theorem dX5_inverse_18 : decode cX5_inverse 18 = .ok (.iconst 2, 1) := by decide +kernel
theorem dX5_inverse_19 : decode cX5_inverse 19 = .ok (.iconst 0, 1) := by decide +kernel
theorem dX5_inverse_20 : decode cX5_inverse 20 = .ok (.iconst (-1), 1) := by decide +kernel
theorem dX5_inverse_21 : decode cX5_inverse 21 = .ok (.invokevirtual 252, 3) := by decide +kernel
theorem dX5_keepLargest_0 : decode cX5_keepLargest 0 = .ok (.iload_n 1, 1) := by decide +kernel
theorem dX5_keepLargest_1 : decode cX5_keepLargest 1 = .ok (.iconst 0, 1) := by decide +kernel
theorem dX5_keepLargest_2 : decode cX5_keepLargest 2 = .ok (.bipush 46, 2) := by decide +kernel
theorem dX5_keepLargest_4 : decode cX5_keepLargest 4 = .ok (.invokestatic 212, 3) := by decide +kernel
theorem dX5_keepLargest_7 : decode cX5_keepLargest 7 = .ok (.aload_n 0, 1) := by decide +kernel
theorem dX5_keepLargest_8 : decode cX5_keepLargest 8 = .ok (.getfield 31, 3) := by decide +kernel
theorem dX5_keepLargest_11 : decode cX5_keepLargest 11 = .ok (.iload_n 1, 1) := by decide +kernel
theorem dX5_keepLargest_12 : decode cX5_keepLargest 12 = .ok (.invokevirtual 284, 3) := by decide +kernel
theorem dX5_keepLargest_15 : decode cX5_keepLargest 15 = .ok (.invokevirtual 147, 3) := by decide +kernel
theorem dX5_keepLargest_18 : decode cX5_keepLargest 18 = .ok (.lreturn, 1) := by decide +kernel
theorem dX5_largest_0 : decode cX5_largest 0 = .ok (.iload_n 1, 1) := by decide +kernel
theorem dX5_largest_1 : decode cX5_largest 1 = .ok (.aload_n 0, 1) := by decide +kernel
theorem dX5_largest_2 : decode cX5_largest 2 = .ok (.getfield 31, 3) := by decide +kernel
theorem dX5_largest_5 : decode cX5_largest 5 = .ok (.getfield 107, 3) := by decide +kernel
theorem dX5_largest_8 : decode cX5_largest 8 = .ok (.invokestatic 77, 3) := by decide +kernel
theorem dX5_lift_0 : decode cX5_lift 0 = .ok (.iload_n 1, 1) := by decide +kernel
theorem dX5_lift_1 : decode cX5_lift 1 = .ok (.aload_n 0, 1) := by decide +kernel
theorem dX5_lift_2 : decode cX5_lift 2 = .ok (.getfield 19, 3) := by decide +kernel
theorem dX5_lift_5 : decode cX5_lift 5 = .ok (.getfield 94, 3) := by decide +kernel
theorem dX5_lift_8 : decode cX5_lift 8 = .ok (.invokestatic 77, 3) := by decide +kernel
theorem dX5_lift_11 : decode cX5_lift 11 = .ok (.aload_n 0, 1) := by decide +kernel
theorem dX5_lift_12 : decode cX5_lift 12 = .ok (.getfield 31, 3) := by decide +kernel
theorem dX5_lift_15 : decode cX5_lift 15 = .ok (.iload_n 1, 1) := by decide +kernel
theorem dX5_lift_16 : decode cX5_lift 16 = .ok (.invokevirtual 139, 3) := by decide +kernel
theorem dX5_lift_19 : decode cX5_lift 19 = .ok (.ifCond .ne 10, 3) := by decide +kernel
theorem dX5_lift_29 : decode cX5_lift 29 = .ok (.iload_n 1, 1) := by decide +kernel
theorem dX5_lift_30 : decode cX5_lift 30 = .ok (.ifCond .eq 16, 3) := by decide +kernel
theorem dX5_lift_33 : decode cX5_lift 33 = .ok (.iload_n 1, 1) := by decide +kernel
theorem dX5_lift_34 : decode cX5_lift 34 = .ok (.aload_n 0, 1) := by decide +kernel
theorem dX5_lift_35 : decode cX5_lift 35 = .ok (.getfield 19, 3) := by decide +kernel
theorem dX5_lift_38 : decode cX5_lift 38 = .ok (.getfield 94, 3) := by decide +kernel
theorem dX5_lift_41 : decode cX5_lift 41 = .ok (.iconst 1, 1) := by decide +kernel
theorem dX5_lift_42 : decode cX5_lift 42 = .ok (.isub, 1) := by decide +kernel
theorem dX5_lift_43 : decode cX5_lift 43 = .ok (.if_icmp .ne 10, 3) := by decide +kernel
theorem dX5_lift_46 : decode cX5_lift 46 = .ok (.aload_n 0, 1) := by decide +kernel
theorem dX5_lift_47 : decode cX5_lift 47 = .ok (.iconst 3, 1) := by decide +kernel
theorem dX5_lift_48 : decode cX5_lift 48 = .ok (.iconst 5, 1) := by decide +kernel
theorem dX5_lift_49 : decode cX5_lift 49 = .ok (.iload_n 1, 1) := by decide +kernel
theorem dX5_lift_50 : decode cX5_lift 50 = .ok (.invokevirtual 252, 3) := by decide +kernel
theorem dX5_load_0 : decode cX5_load 0 = .ok (.aload_n 0, 1) := by decide +kernel
theorem dX5_load_1 : decode cX5_load 1 = .ok (.getfield 12, 3) := by decide +kernel
theorem dX5_load_4 : decode cX5_load 4 = .ok (.aload_n 0, 1) := by decide +kernel
theorem dX5_load_5 : decode cX5_load 5 = .ok (.getfield 23, 3) := by decide +kernel
theorem dX5_load_8 : decode cX5_load 8 = .ok (.invokevirtual 80, 3) := by decide +kernel
theorem dX5_load_11 : decode cX5_load 11 = .ok (.istore_n 1, 1) := by decide +kernel
theorem dX5_load_12 : decode cX5_load 12 = .ok (.aload_n 0, 1) := by decide +kernel
theorem dX5_load_13 : decode cX5_load 13 = .ok (.getfield 12, 3) := by decide +kernel
theorem dX5_load_16 : decode cX5_load 16 = .ok (.iconst 0, 1) := by decide +kernel
theorem dX5_load_17 : decode cX5_load 17 = .ok (.putfield 74, 3) := by decide +kernel
theorem dX5_load_20 : decode cX5_load 20 = .ok (.iload_n 1, 1) := by decide +kernel
theorem dX5_load_21 : decode cX5_load 21 = .ok (.ifCond .ne 13, 3) := by decide +kernel
theorem dX5_load_24 : decode cX5_load 24 = .ok (.new 84, 3) := by decide +kernel
theorem dX5_load_27 : decode cX5_load 27 = .ok (.dup, 1) := by decide +kernel
theorem dX5_load_28 : decode cX5_load 28 = .ok (.ldc 86, 2) := by decide +kernel
theorem dX5_load_30 : decode cX5_load 30 = .ok (.invokespecial 88, 3) := by decide +kernel
theorem dX5_load_33 : decode cX5_load 33 = .ok (.athrow, 1) := by decide +kernel
theorem dX5_mean_0 : decode cX5_mean 0 = .ok (.iload_n 1, 1) := by decide +kernel
theorem dX5_mean_1 : decode cX5_mean 1 = .ok (.iconst 0, 1) := by decide +kernel
theorem dX5_mean_2 : decode cX5_mean 2 = .ok (.iconst 1, 1) := by decide +kernel
theorem dX5_mean_3 : decode cX5_mean 3 = .ok (.invokestatic 212, 3) := by decide +kernel
theorem dX5_mean_6 : decode cX5_mean 6 = .ok (.aload_n 0, 1) := by decide +kernel
theorem dX5_mean_7 : decode cX5_mean 7 = .ok (.getfield 31, 3) := by decide +kernel
theorem dX5_mean_10 : decode cX5_mean 10 = .ok (.invokevirtual 126, 3) := by decide +kernel
theorem dX5_mean_13 : decode cX5_mean 13 = .ok (.lstore_n 2, 1) := by decide +kernel
theorem dX5_mean_14 : decode cX5_mean 14 = .ok (.lload_n 2, 1) := by decide +kernel
theorem dX5_mean_15 : decode cX5_mean 15 = .ok (.aload_n 0, 1) := by decide +kernel
theorem dX5_mean_16 : decode cX5_mean 16 = .ok (.getfield 31, 3) := by decide +kernel
theorem dX5_mean_19 : decode cX5_mean 19 = .ok (.getfield 205, 3) := by decide +kernel
theorem dX5_mean_22 : decode cX5_mean 22 = .ok (.lload_n 2, 1) := by decide +kernel
theorem dX5_mean_23 : decode cX5_mean 23 = .ok (.invokevirtual 216, 3) := by decide +kernel
theorem dX5_mean_26 : decode cX5_mean 26 = .ok (.invokestatic 220, 3) := by decide +kernel
theorem dX5_mean_29 : decode cX5_mean 29 = .ok (.lstore 4, 2) := by decide +kernel
theorem dX5_mean_31 : decode cX5_mean 31 = .ok (.iload_n 1, 1) := by decide +kernel
theorem dX5_mean_32 : decode cX5_mean 32 = .ok (.ifCond .ne 18, 3) := by decide +kernel
theorem dX5_mean_35 : decode cX5_mean 35 = .ok (.aload_n 0, 1) := by decide +kernel
theorem dX5_mean_36 : decode cX5_mean 36 = .ok (.getfield 31, 3) := by decide +kernel
theorem dX5_mean_39 : decode cX5_mean 39 = .ok (.lload 4, 2) := by decide +kernel
theorem dX5_mean_41 : decode cX5_mean 41 = .ok (.invokevirtual 224, 3) := by decide +kernel
theorem dX5_mean_44 : decode cX5_mean 44 = .ok (.invokevirtual 147, 3) := by decide +kernel
theorem dX5_mean_47 : decode cX5_mean 47 = .ok (.goto 7, 3) := by decide +kernel
theorem dX5_mean_50 : decode cX5_mean 50 = .ok (.lload_n 2, 1) := by decide +kernel
theorem dX5_mean_51 : decode cX5_mean 51 = .ok (.lload 4, 2) := by decide +kernel
theorem dX5_mean_53 : decode cX5_mean 53 = .ok (.ldiv, 1) := by decide +kernel
theorem dX5_mean_54 : decode cX5_mean 54 = .ok (.lreturn, 1) := by decide +kernel
theorem dX5_needIndex_0 : decode cX5_needIndex 0 = .ok (.iload_n 0, 1) := by decide +kernel
theorem dX5_needIndex_1 : decode cX5_needIndex 1 = .ok (.ifCond .lt 8, 3) := by decide +kernel
theorem dX5_needIndex_4 : decode cX5_needIndex 4 = .ok (.iload_n 0, 1) := by decide +kernel
theorem dX5_needIndex_5 : decode cX5_needIndex 5 = .ok (.iload_n 1, 1) := by decide +kernel
theorem dX5_needIndex_6 : decode cX5_needIndex 6 = .ok (.if_icmp .lt 14, 3) := by decide +kernel
theorem dX5_needIndex_9 : decode cX5_needIndex 9 = .ok (.new 196, 3) := by decide +kernel
theorem dX5_needIndex_12 : decode cX5_needIndex 12 = .ok (.dup, 1) := by decide +kernel
theorem dX5_needIndex_13 : decode cX5_needIndex 13 = .ok (.ldc_w 319, 3) := by decide +kernel
theorem dX5_needIndex_16 : decode cX5_needIndex 16 = .ok (.invokespecial 200, 3) := by decide +kernel
theorem dX5_needIndex_19 : decode cX5_needIndex 19 = .ok (.athrow, 1) := by decide +kernel
theorem dX5_needIndex_20 : decode cX5_needIndex 20 = .ok (.return_, 1) := by decide +kernel
theorem dX5_needRange_0 : decode cX5_needRange 0 = .ok (.iload_n 0, 1) := by decide +kernel
theorem dX5_needRange_1 : decode cX5_needRange 1 = .ok (.iload_n 1, 1) := by decide +kernel
theorem dX5_needRange_2 : decode cX5_needRange 2 = .ok (.if_icmp .lt 8, 3) := by decide +kernel
theorem dX5_needRange_5 : decode cX5_needRange 5 = .ok (.iload_n 0, 1) := by decide +kernel
theorem dX5_needRange_6 : decode cX5_needRange 6 = .ok (.iload_n 2, 1) := by decide +kernel
theorem dX5_needRange_7 : decode cX5_needRange 7 = .ok (.if_icmp .le 14, 3) := by decide +kernel
theorem dX5_needRange_10 : decode cX5_needRange 10 = .ok (.new 84, 3) := by decide +kernel
theorem dX5_needRange_13 : decode cX5_needRange 13 = .ok (.dup, 1) := by decide +kernel
theorem dX5_needRange_14 : decode cX5_needRange 14 = .ok (.ldc_w 321, 3) := by decide +kernel
theorem dX5_needRange_17 : decode cX5_needRange 17 = .ok (.invokespecial 88, 3) := by decide +kernel
theorem dX5_needRange_20 : decode cX5_needRange 20 = .ok (.athrow, 1) := by decide +kernel
theorem dX5_needRange_21 : decode cX5_needRange 21 = .ok (.return_, 1) := by decide +kernel
theorem dX5_neighbour_0 : decode cX5_neighbour 0 = .ok (.iload_n 1, 1) := by decide +kernel
theorem dX5_neighbour_1 : decode cX5_neighbour 1 = .ok (.aload_n 0, 1) := by decide +kernel
theorem dX5_neighbour_2 : decode cX5_neighbour 2 = .ok (.getfield 19, 3) := by decide +kernel
theorem dX5_neighbour_5 : decode cX5_neighbour 5 = .ok (.getfield 94, 3) := by decide +kernel
theorem dX5_neighbour_8 : decode cX5_neighbour 8 = .ok (.invokestatic 77, 3) := by decide +kernel
theorem dX5_neighbour_11 : decode cX5_neighbour 11 = .ok (.iload_n 2, 1) := by decide +kernel
theorem dX5_neighbour_12 : decode cX5_neighbour 12 = .ok (.ifCond .eq 14, 3) := by decide +kernel
theorem dX5_neighbour_15 : decode cX5_neighbour 15 = .ok (.aload_n 0, 1) := by decide +kernel
theorem dX5_neighbour_16 : decode cX5_neighbour 16 = .ok (.getfield 31, 3) := by decide +kernel
theorem dX5_neighbour_19 : decode cX5_neighbour 19 = .ok (.iload_n 1, 1) := by decide +kernel
theorem dX5_neighbour_20 : decode cX5_neighbour 20 = .ok (.invokevirtual 165, 3) := by decide +kernel
theorem dX5_neighbour_23 : decode cX5_neighbour 23 = .ok (.goto 11, 3) := by decide +kernel
theorem dX5_neighbour_26 : decode cX5_neighbour 26 = .ok (.aload_n 0, 1) := by decide +kernel
theorem dX5_neighbour_27 : decode cX5_neighbour 27 = .ok (.getfield 31, 3) := by decide +kernel
theorem dX5_neighbour_30 : decode cX5_neighbour 30 = .ok (.iload_n 1, 1) := by decide +kernel
theorem dX5_neighbour_31 : decode cX5_neighbour 31 = .ok (.invokevirtual 168, 3) := by decide +kernel
theorem dX5_neighbour_34 : decode cX5_neighbour 34 = .ok (.ireturn, 1) := by decide +kernel
theorem dX5_next_0 : decode cX5_next 0 = .ok (.aload_n 0, 1) := by decide +kernel
theorem dX5_next_1 : decode cX5_next 1 = .ok (.getfield 31, 3) := by decide +kernel
theorem dX5_next_4 : decode cX5_next 4 = .ok (.invokevirtual 244, 3) := by decide +kernel
theorem dX5_next_7 : decode cX5_next 7 = .ok (.istore_n 1, 1) := by decide +kernel
theorem dX5_next_8 : decode cX5_next 8 = .ok (.iload_n 1, 1) := by decide +kernel
theorem dX5_next_9 : decode cX5_next 9 = .ok (.iconst (-1), 1) := by decide +kernel
theorem dX5_next_10 : decode cX5_next 10 = .ok (.if_icmp .ne 13, 3) := by decide +kernel
theorem dX5_next_13 : decode cX5_next 13 = .ok (.new 247, 3) := by decide +kernel
theorem dX5_next_16 : decode cX5_next 16 = .ok (.dup, 1) := by decide +kernel
theorem dX5_next_17 : decode cX5_next 17 = .ok (.ldc 249, 2) := by decide +kernel
theorem dX5_next_19 : decode cX5_next 19 = .ok (.invokespecial 251, 3) := by decide +kernel
theorem dX5_next_22 : decode cX5_next 22 = .ok (.athrow, 1) := by decide +kernel
theorem dX5_noise_0 : decode cX5_noise 0 = .ok (.iload_n 2, 1) := by decide +kernel
theorem dX5_noise_1 : decode cX5_noise 1 = .ok (.iconst 0, 1) := by decide +kernel
theorem dX5_noise_2 : decode cX5_noise 2 = .ok (.sipush 999, 3) := by decide +kernel
theorem dX5_noise_5 : decode cX5_noise 5 = .ok (.invokestatic 212, 3) := by decide +kernel
theorem dX5_plainMean_0 : decode cX5_plainMean 0 = .ok (.aload_n 0, 1) := by decide +kernel
theorem dX5_plainMean_1 : decode cX5_plainMean 1 = .ok (.getfield 31, 3) := by decide +kernel
theorem dX5_plainMean_4 : decode cX5_plainMean 4 = .ok (.invokevirtual 228, 3) := by decide +kernel
theorem dX5_plainMean_7 : decode cX5_plainMean 7 = .ok (.invokevirtual 231, 3) := by decide +kernel
theorem dX5_plainMean_10 : decode cX5_plainMean 10 = .ok (.aload_n 0, 1) := by decide +kernel
theorem dX5_plainMean_11 : decode cX5_plainMean 11 = .ok (.getfield 31, 3) := by decide +kernel
theorem dX5_plainMean_14 : decode cX5_plainMean 14 = .ok (.invokevirtual 103, 3) := by decide +kernel
theorem dX5_plainMean_17 : decode cX5_plainMean 17 = .ok (.i2d, 1) := by decide +kernel
theorem dX5_plainMean_18 : decode cX5_plainMean 18 = .ok (.ddiv, 1) := by decide +kernel
theorem dX5_plainMean_19 : decode cX5_plainMean 19 = .ok (.dreturn, 1) := by decide +kernel
theorem dX5_present_0 : decode cX5_present 0 = .ok (.iload_n 1, 1) := by decide +kernel
theorem dX5_present_1 : decode cX5_present 1 = .ok (.aload_n 0, 1) := by decide +kernel
theorem dX5_present_2 : decode cX5_present 2 = .ok (.getfield 31, 3) := by decide +kernel
theorem dX5_present_5 : decode cX5_present 5 = .ok (.invokevirtual 103, 3) := by decide +kernel
theorem dX5_present_8 : decode cX5_present 8 = .ok (.invokestatic 77, 3) := by decide +kernel
theorem dX5_present_11 : decode cX5_present 11 = .ok (.aload_n 0, 1) := by decide +kernel
theorem dX5_present_12 : decode cX5_present 12 = .ok (.getfield 31, 3) := by decide +kernel
theorem dX5_present_15 : decode cX5_present 15 = .ok (.iload_n 1, 1) := by decide +kernel
theorem dX5_present_16 : decode cX5_present 16 = .ok (.invokevirtual 161, 3) := by decide +kernel
theorem dX5_present_19 : decode cX5_present 19 = .ok (.ireturn, 1) := by decide +kernel
theorem dX5_quantize_0 : decode cX5_quantize 0 = .ok (.iload_n 1, 1) := by decide +kernel
theorem dX5_quantize_1 : decode cX5_quantize 1 = .ok (.iconst 1, 1) := by decide +kernel
theorem dX5_quantize_2 : decode cX5_quantize 2 = .ok (.sipush 9999, 3) := by decide +kernel
theorem dX5_quantize_5 : decode cX5_quantize 5 = .ok (.invokestatic 212, 3) := by decide +kernel
theorem dX5_quantize_8 : decode cX5_quantize 8 = .ok (.aload_n 0, 1) := by decide +kernel
theorem dX5_quantize_9 : decode cX5_quantize 9 = .ok (.getfield 31, 3) := by decide +kernel
theorem dX5_quantize_12 : decode cX5_quantize 12 = .ok (.iload_n 1, 1) := by decide +kernel
theorem dX5_quantize_13 : decode cX5_quantize 13 = .ok (.invokevirtual 281, 3) := by decide +kernel
theorem dX5_quantize_16 : decode cX5_quantize 16 = .ok (.lreturn, 1) := by decide +kernel
theorem dX5_reason_0 : decode cX5_reason 0 = .ok (.iload_n 1, 1) := by decide +kernel
theorem dX5_reason_1 : decode cX5_reason 1 = .ok (.iconst 0, 1) := by decide +kernel
theorem dX5_reason_2 : decode cX5_reason 2 = .ok (.iconst 1, 1) := by decide +kernel
theorem dX5_reason_3 : decode cX5_reason 3 = .ok (.invokestatic 212, 3) := by decide +kernel
theorem dX5_reason_6 : decode cX5_reason 6 = .ok (.iload_n 1, 1) := by decide +kernel
theorem dX5_reason_7 : decode cX5_reason 7 = .ok (.ifCond .ne 10, 3) := by decide +kernel
theorem dX5_reason_10 : decode cX5_reason 10 = .ok (.aload_n 0, 1) := by decide +kernel
theorem dX5_reason_11 : decode cX5_reason 11 = .ok (.getfield 46, 3) := by decide +kernel
theorem dX5_reason_14 : decode cX5_reason 14 = .ok (.goto 7, 3) := by decide +kernel
theorem dX5_reason_17 : decode cX5_reason 17 = .ok (.aload_n 0, 1) := by decide +kernel
theorem dX5_reason_18 : decode cX5_reason 18 = .ok (.getfield 50, 3) := by decide +kernel
theorem dX5_reason_21 : decode cX5_reason 21 = .ok (.ireturn, 1) := by decide +kernel
theorem dX5_reasonSample_0 : decode cX5_reasonSample 0 = .ok (.aload_n 0, 1) := by decide +kernel
theorem dX5_reasonSample_1 : decode cX5_reasonSample 1 = .ok (.getfield 53, 3) := by decide +kernel
theorem dX5_reasonSample_4 : decode cX5_reasonSample 4 = .ok (.ireturn, 1) := by decide +kernel
theorem dX5_refuse_0 : decode cX5_refuse 0 = .ok (.aload_n 0, 1) := by decide +kernel
theorem dX5_refuse_1 : decode cX5_refuse 1 = .ok (.iload_n 1, 1) := by decide +kernel
theorem dX5_refuse_2 : decode cX5_refuse 2 = .ok (.putfield 46, 3) := by decide +kernel
theorem dX5_refuse_5 : decode cX5_refuse 5 = .ok (.aload_n 0, 1) := by decide +kernel
theorem dX5_refuse_6 : decode cX5_refuse 6 = .ok (.iload_n 2, 1) := by decide +kernel
theorem dX5_refuse_7 : decode cX5_refuse 7 = .ok (.putfield 50, 3) := by decide +kernel
theorem dX5_refuse_10 : decode cX5_refuse 10 = .ok (.aload_n 0, 1) := by decide +kernel
theorem dX5_refuse_11 : decode cX5_refuse 11 = .ok (.iload_n 3, 1) := by decide +kernel
theorem dX5_refuse_12 : decode cX5_refuse 12 = .ok (.putfield 53, 3) := by decide +kernel
theorem dX5_refuse_15 : decode cX5_refuse 15 = .ok (.new 323, 3) := by decide +kernel
theorem dX5_refuse_18 : decode cX5_refuse 18 = .ok (.dup, 1) := by decide +kernel
theorem dX5_refuse_19 : decode cX5_refuse 19 = .ok (.ldc_w 325, 3) := by decide +kernel
theorem dX5_refuse_22 : decode cX5_refuse 22 = .ok (.invokespecial 327, 3) := by decide +kernel
theorem dX5_refuse_25 : decode cX5_refuse 25 = .ok (.athrow, 1) := by decide +kernel
theorem dX5_reset_0 : decode cX5_reset 0 = .ok (.aload_n 0, 1) := by decide +kernel
theorem dX5_reset_1 : decode cX5_reset 1 = .ok (.getfield 31, 3) := by decide +kernel
theorem dX5_reset_4 : decode cX5_reset 4 = .ok (.getfield 107, 3) := by decide +kernel
theorem dX5_reset_7 : decode cX5_reset 7 = .ok (.istore_n 1, 1) := by decide +kernel
theorem dX5_reset_8 : decode cX5_reset 8 = .ok (.aload_n 0, 1) := by decide +kernel
theorem dX5_reset_9 : decode cX5_reset 9 = .ok (.getfield 31, 3) := by decide +kernel
theorem dX5_reset_12 : decode cX5_reset 12 = .ok (.invokevirtual 60, 3) := by decide +kernel
theorem dX5_reset_15 : decode cX5_reset 15 = .ok (.iload_n 1, 1) := by decide +kernel
theorem dX5_reset_16 : decode cX5_reset 16 = .ok (.ireturn, 1) := by decide +kernel
theorem dX5_restore_0 : decode cX5_restore 0 = .ok (.iload_n 1, 1) := by decide +kernel
theorem dX5_restore_1 : decode cX5_restore 1 = .ok (.iconst 2, 1) := by decide +kernel
theorem dX5_restore_2 : decode cX5_restore 2 = .ok (.invokestatic 77, 3) := by decide +kernel
theorem dX5_restore_5 : decode cX5_restore 5 = .ok (.aload_n 0, 1) := by decide +kernel
theorem dX5_restore_6 : decode cX5_restore 6 = .ok (.getfield 42, 3) := by decide +kernel
theorem dX5_restore_9 : decode cX5_restore 9 = .ok (.iload_n 1, 1) := by decide +kernel
theorem dX5_restore_10 : decode cX5_restore 10 = .ok (.baload, 1) := by decide +kernel
theorem dX5_restore_11 : decode cX5_restore 11 = .ok (.ifCond .ne 14, 3) := by decide +kernel
theorem dX5_restore_14 : decode cX5_restore 14 = .ok (.new 247, 3) := by decide +kernel
theorem dX5_restore_17 : decode cX5_restore 17 = .ok (.dup, 1) := by decide +kernel
theorem dX5_restore_18 : decode cX5_restore 18 = .ok (.ldc_w 317, 3) := by decide +kernel
theorem dX5_restore_21 : decode cX5_restore 21 = .ok (.invokespecial 251, 3) := by decide +kernel
theorem dX5_restore_24 : decode cX5_restore 24 = .ok (.athrow, 1) := by decide +kernel
theorem dX5_sample_0 : decode cX5_sample 0 = .ok (.iload_n 1, 1) := by decide +kernel
theorem dX5_sample_1 : decode cX5_sample 1 = .ok (.aload_n 0, 1) := by decide +kernel
theorem dX5_sample_2 : decode cX5_sample 2 = .ok (.getfield 19, 3) := by decide +kernel
theorem dX5_sample_5 : decode cX5_sample 5 = .ok (.getfield 94, 3) := by decide +kernel
theorem dX5_sample_8 : decode cX5_sample 8 = .ok (.invokestatic 77, 3) := by decide +kernel
theorem dX5_sample_11 : decode cX5_sample 11 = .ok (.iload_n 2, 1) := by decide +kernel
theorem dX5_sample_12 : decode cX5_sample 12 = .ok (.tableswitch 130 0 5 #[40, 51, 62, 79, 109, 119], 40) := by decide +kernel
theorem dX5_sample_52 : decode cX5_sample 52 = .ok (.aload_n 0, 1) := by decide +kernel
theorem dX5_sample_53 : decode cX5_sample 53 = .ok (.getfield 19, 3) := by decide +kernel
theorem dX5_sample_56 : decode cX5_sample 56 = .ok (.getfield 132, 3) := by decide +kernel
theorem dX5_sample_59 : decode cX5_sample 59 = .ok (.iload_n 1, 1) := by decide +kernel
theorem dX5_sample_60 : decode cX5_sample 60 = .ok (.iaload, 1) := by decide +kernel
theorem dX5_sample_61 : decode cX5_sample 61 = .ok (.i2l, 1) := by decide +kernel
theorem dX5_sample_62 : decode cX5_sample 62 = .ok (.lreturn, 1) := by decide +kernel
theorem dX5_sample_63 : decode cX5_sample 63 = .ok (.aload_n 0, 1) := by decide +kernel
theorem dX5_sample_64 : decode cX5_sample 64 = .ok (.getfield 19, 3) := by decide +kernel
theorem dX5_sample_67 : decode cX5_sample 67 = .ok (.getfield 136, 3) := by decide +kernel
theorem dX5_sample_70 : decode cX5_sample 70 = .ok (.iload_n 1, 1) := by decide +kernel
theorem dX5_sample_71 : decode cX5_sample 71 = .ok (.iaload, 1) := by decide +kernel
theorem dX5_sample_72 : decode cX5_sample 72 = .ok (.i2l, 1) := by decide +kernel
theorem dX5_sample_73 : decode cX5_sample 73 = .ok (.lreturn, 1) := by decide +kernel
theorem dX5_sample_74 : decode cX5_sample 74 = .ok (.aload_n 0, 1) := by decide +kernel
theorem dX5_sample_75 : decode cX5_sample 75 = .ok (.getfield 31, 3) := by decide +kernel
theorem dX5_sample_78 : decode cX5_sample 78 = .ok (.iload_n 1, 1) := by decide +kernel
theorem dX5_sample_79 : decode cX5_sample 79 = .ok (.invokevirtual 139, 3) := by decide +kernel
theorem dX5_sample_82 : decode cX5_sample 82 = .ok (.ifCond .eq 7, 3) := by decide +kernel
theorem dX5_sample_85 : decode cX5_sample 85 = .ok (.lconst 1, 1) := by decide +kernel
theorem dX5_sample_86 : decode cX5_sample 86 = .ok (.goto 4, 3) := by decide +kernel
theorem dX5_sample_90 : decode cX5_sample 90 = .ok (.lreturn, 1) := by decide +kernel
theorem dX5_sample_91 : decode cX5_sample 91 = .ok (.aload_n 0, 1) := by decide +kernel
theorem dX5_sample_92 : decode cX5_sample 92 = .ok (.getfield 31, 3) := by decide +kernel
theorem dX5_sample_95 : decode cX5_sample 95 = .ok (.iload_n 1, 1) := by decide +kernel
theorem dX5_sample_96 : decode cX5_sample 96 = .ok (.invokevirtual 139, 3) := by decide +kernel
theorem dX5_sample_99 : decode cX5_sample 99 = .ok (.ifCond .eq 18, 3) := by decide +kernel
theorem dX5_sample_102 : decode cX5_sample 102 = .ok (.aload_n 0, 1) := by decide +kernel
theorem dX5_sample_103 : decode cX5_sample 103 = .ok (.getfield 31, 3) := by decide +kernel
theorem dX5_sample_106 : decode cX5_sample 106 = .ok (.getfield 143, 3) := by decide +kernel
theorem dX5_sample_109 : decode cX5_sample 109 = .ok (.iload_n 1, 1) := by decide +kernel
theorem dX5_sample_110 : decode cX5_sample 110 = .ok (.aaload, 1) := by decide +kernel
theorem dX5_sample_111 : decode cX5_sample 111 = .ok (.invokevirtual 147, 3) := by decide +kernel
theorem dX5_sample_114 : decode cX5_sample 114 = .ok (.goto 6, 3) := by decide +kernel
theorem dX5_sample_120 : decode cX5_sample 120 = .ok (.lreturn, 1) := by decide +kernel
theorem dX5_sample_121 : decode cX5_sample 121 = .ok (.aload_n 0, 1) := by decide +kernel
theorem dX5_sample_122 : decode cX5_sample 122 = .ok (.getfield 31, 3) := by decide +kernel
theorem dX5_sample_125 : decode cX5_sample 125 = .ok (.getfield 154, 3) := by decide +kernel
theorem dX5_sample_128 : decode cX5_sample 128 = .ok (.iload_n 1, 1) := by decide +kernel
theorem dX5_sample_129 : decode cX5_sample 129 = .ok (.laload, 1) := by decide +kernel
theorem dX5_sample_130 : decode cX5_sample 130 = .ok (.lreturn, 1) := by decide +kernel
theorem dX5_sample_131 : decode cX5_sample 131 = .ok (.aload_n 0, 1) := by decide +kernel
theorem dX5_sample_132 : decode cX5_sample 132 = .ok (.getfield 31, 3) := by decide +kernel
theorem dX5_sample_135 : decode cX5_sample 135 = .ok (.getfield 158, 3) := by decide +kernel
theorem dX5_sample_138 : decode cX5_sample 138 = .ok (.iload_n 1, 1) := by decide +kernel
theorem dX5_sample_139 : decode cX5_sample 139 = .ok (.iaload, 1) := by decide +kernel
theorem dX5_sample_140 : decode cX5_sample 140 = .ok (.i2l, 1) := by decide +kernel
theorem dX5_sample_141 : decode cX5_sample 141 = .ok (.lreturn, 1) := by decide +kernel
theorem dX5_sample_142 : decode cX5_sample 142 = .ok (.new 84, 3) := by decide +kernel
theorem dX5_sample_145 : decode cX5_sample 145 = .ok (.dup, 1) := by decide +kernel
theorem dX5_sample_146 : decode cX5_sample 146 = .ok (.ldc 130, 2) := by decide +kernel
theorem dX5_sample_148 : decode cX5_sample 148 = .ok (.invokespecial 88, 3) := by decide +kernel
theorem dX5_sample_151 : decode cX5_sample 151 = .ok (.athrow, 1) := by decide +kernel
theorem dX5_save_0 : decode cX5_save 0 = .ok (.iload_n 1, 1) := by decide +kernel
theorem dX5_save_1 : decode cX5_save 1 = .ok (.iconst 2, 1) := by decide +kernel
theorem dX5_save_2 : decode cX5_save 2 = .ok (.invokestatic 77, 3) := by decide +kernel
theorem dX5_save_5 : decode cX5_save 5 = .ok (.aload_n 0, 1) := by decide +kernel
theorem dX5_save_6 : decode cX5_save 6 = .ok (.getfield 38, 3) := by decide +kernel
theorem dX5_save_9 : decode cX5_save 9 = .ok (.iload_n 1, 1) := by decide +kernel
theorem dX5_save_10 : decode cX5_save 10 = .ok (.aaload, 1) := by decide +kernel
theorem dX5_save_11 : decode cX5_save 11 = .ok (.aload_n 0, 1) := by decide +kernel
theorem dX5_save_12 : decode cX5_save 12 = .ok (.getfield 31, 3) := by decide +kernel
theorem dX5_save_15 : decode cX5_save 15 = .ok (.invokevirtual 287, 3) := by decide +kernel
theorem dX5_save_18 : decode cX5_save 18 = .ok (.aload_n 0, 1) := by decide +kernel
theorem dX5_save_19 : decode cX5_save 19 = .ok (.getfield 42, 3) := by decide +kernel
theorem dX5_save_22 : decode cX5_save 22 = .ok (.iload_n 1, 1) := by decide +kernel
theorem dX5_save_23 : decode cX5_save 23 = .ok (.iconst 1, 1) := by decide +kernel
theorem dX5_save_24 : decode cX5_save 24 = .ok (.bastore, 1) := by decide +kernel
theorem dX5_save_25 : decode cX5_save 25 = .ok (.return_, 1) := by decide +kernel
theorem dX5_set_0 : decode cX5_set 0 = .ok (.iload_n 1, 1) := by decide +kernel
theorem dX5_set_1 : decode cX5_set 1 = .ok (.aload_n 0, 1) := by decide +kernel
theorem dX5_set_2 : decode cX5_set 2 = .ok (.getfield 19, 3) := by decide +kernel
theorem dX5_set_5 : decode cX5_set 5 = .ok (.getfield 94, 3) := by decide +kernel
theorem dX5_set_8 : decode cX5_set 8 = .ok (.invokestatic 77, 3) := by decide +kernel
theorem dX5_set_11 : decode cX5_set 11 = .ok (.iload_n 2, 1) := by decide +kernel
theorem dX5_set_12 : decode cX5_set 12 = .ok (.sipush (-9999), 3) := by decide +kernel
theorem dX5_set_15 : decode cX5_set 15 = .ok (.sipush 9999, 3) := by decide +kernel
theorem dX5_set_18 : decode cX5_set 18 = .ok (.invokestatic 212, 3) := by decide +kernel
theorem dX5_set_21 : decode cX5_set 21 = .ok (.aload_n 0, 1) := by decide +kernel
theorem dX5_set_22 : decode cX5_set 22 = .ok (.getfield 31, 3) := by decide +kernel
theorem dX5_set_25 : decode cX5_set 25 = .ok (.iload_n 1, 1) := by decide +kernel
theorem dX5_set_26 : decode cX5_set 26 = .ok (.invokevirtual 139, 3) := by decide +kernel
theorem dX5_set_29 : decode cX5_set 29 = .ok (.ifCond .ne 11, 3) := by decide +kernel
theorem dX5_set_40 : decode cX5_set 40 = .ok (.aload_n 0, 1) := by decide +kernel
theorem dX5_set_41 : decode cX5_set 41 = .ok (.getfield 31, 3) := by decide +kernel
theorem dX5_set_44 : decode cX5_set 44 = .ok (.getfield 143, 3) := by decide +kernel
theorem dX5_set_47 : decode cX5_set 47 = .ok (.iload_n 1, 1) := by decide +kernel
theorem dX5_set_48 : decode cX5_set 48 = .ok (.aaload, 1) := by decide +kernel
theorem dX5_set_49 : decode cX5_set 49 = .ok (.invokevirtual 147, 3) := by decide +kernel
theorem dX5_set_52 : decode cX5_set 52 = .ok (.lstore_n 3, 1) := by decide +kernel
theorem dX5_set_53 : decode cX5_set 53 = .ok (.aload_n 0, 1) := by decide +kernel
theorem dX5_set_54 : decode cX5_set 54 = .ok (.getfield 31, 3) := by decide +kernel
theorem dX5_set_57 : decode cX5_set 57 = .ok (.iload_n 1, 1) := by decide +kernel
theorem dX5_set_58 : decode cX5_set 58 = .ok (.iload_n 2, 1) := by decide +kernel
theorem dX5_set_59 : decode cX5_set 59 = .ok (.invokevirtual 255, 3) := by decide +kernel
theorem dX5_set_62 : decode cX5_set 62 = .ok (.lload_n 3, 1) := by decide +kernel
theorem dX5_set_63 : decode cX5_set 63 = .ok (.lreturn, 1) := by decide +kernel
theorem dX5_setDetail_0 : decode cX5_setDetail 0 = .ok (.iload_n 1, 1) := by decide +kernel
theorem dX5_setDetail_1 : decode cX5_setDetail 1 = .ok (.aload_n 0, 1) := by decide +kernel
theorem dX5_setDetail_2 : decode cX5_setDetail 2 = .ok (.getfield 31, 3) := by decide +kernel
theorem dX5_setDetail_5 : decode cX5_setDetail 5 = .ok (.getfield 107, 3) := by decide +kernel
theorem dX5_setDetail_8 : decode cX5_setDetail 8 = .ok (.invokestatic 77, 3) := by decide +kernel
theorem dX5_setPredict_0 : decode cX5_setPredict 0 = .ok (.iload_n 1, 1) := by decide +kernel
theorem dX5_setPredict_1 : decode cX5_setPredict 1 = .ok (.iconst 0, 1) := by decide +kernel
theorem dX5_setPredict_2 : decode cX5_setPredict 2 = .ok (.iconst 2, 1) := by decide +kernel
theorem dX5_setPredict_3 : decode cX5_setPredict 3 = .ok (.invokestatic 212, 3) := by decide +kernel
theorem dX5_setPredict_6 : decode cX5_setPredict 6 = .ok (.aload_n 0, 1) := by decide +kernel
theorem dX5_setPredict_7 : decode cX5_setPredict 7 = .ok (.getfield 31, 3) := by decide +kernel
theorem dX5_setPredict_10 : decode cX5_setPredict 10 = .ok (.getfield 116, 3) := by decide +kernel
theorem dX5_setPredict_13 : decode cX5_setPredict 13 = .ok (.istore_n 2, 1) := by decide +kernel
theorem dX5_setPredict_14 : decode cX5_setPredict 14 = .ok (.aload_n 0, 1) := by decide +kernel
theorem dX5_setPredict_15 : decode cX5_setPredict 15 = .ok (.getfield 31, 3) := by decide +kernel
theorem dX5_setPredict_18 : decode cX5_setPredict 18 = .ok (.iload_n 1, 1) := by decide +kernel
theorem dX5_setPredict_19 : decode cX5_setPredict 19 = .ok (.putfield 116, 3) := by decide +kernel
theorem dX5_setPredict_22 : decode cX5_setPredict 22 = .ok (.iload_n 2, 1) := by decide +kernel
theorem dX5_setPredict_23 : decode cX5_setPredict 23 = .ok (.ireturn, 1) := by decide +kernel
theorem dX5_setSplit_0 : decode cX5_setSplit 0 = .ok (.iload_n 1, 1) := by decide +kernel
theorem dX5_setSplit_1 : decode cX5_setSplit 1 = .ok (.iconst 0, 1) := by decide +kernel
theorem dX5_setSplit_2 : decode cX5_setSplit 2 = .ok (.iconst 2, 1) := by decide +kernel
theorem dX5_setSplit_3 : decode cX5_setSplit 3 = .ok (.invokestatic 212, 3) := by decide +kernel
theorem dX5_setSplit_6 : decode cX5_setSplit 6 = .ok (.aload_n 0, 1) := by decide +kernel
theorem dX5_setSplit_7 : decode cX5_setSplit 7 = .ok (.getfield 31, 3) := by decide +kernel
theorem dX5_setSplit_10 : decode cX5_setSplit 10 = .ok (.getfield 113, 3) := by decide +kernel
theorem dX5_setSplit_13 : decode cX5_setSplit 13 = .ok (.istore_n 2, 1) := by decide +kernel
theorem dX5_setSplit_14 : decode cX5_setSplit 14 = .ok (.aload_n 0, 1) := by decide +kernel
theorem dX5_setSplit_15 : decode cX5_setSplit 15 = .ok (.getfield 31, 3) := by decide +kernel
theorem dX5_setSplit_18 : decode cX5_setSplit 18 = .ok (.iload_n 1, 1) := by decide +kernel
theorem dX5_setSplit_19 : decode cX5_setSplit 19 = .ok (.putfield 113, 3) := by decide +kernel
theorem dX5_setSplit_22 : decode cX5_setSplit 22 = .ok (.iload_n 2, 1) := by decide +kernel
theorem dX5_setSplit_23 : decode cX5_setSplit 23 = .ok (.ireturn, 1) := by decide +kernel
theorem dX5_setUpdate_0 : decode cX5_setUpdate 0 = .ok (.aload_n 0, 1) := by decide +kernel
theorem dX5_setUpdate_1 : decode cX5_setUpdate 1 = .ok (.getfield 31, 3) := by decide +kernel
theorem dX5_setUpdate_4 : decode cX5_setUpdate 4 = .ok (.getfield 119, 3) := by decide +kernel
theorem dX5_setUpdate_7 : decode cX5_setUpdate 7 = .ok (.istore_n 2, 1) := by decide +kernel
theorem dX5_setUpdate_8 : decode cX5_setUpdate 8 = .ok (.aload_n 0, 1) := by decide +kernel
theorem dX5_setUpdate_9 : decode cX5_setUpdate 9 = .ok (.getfield 31, 3) := by decide +kernel
theorem dX5_setUpdate_12 : decode cX5_setUpdate 12 = .ok (.iload_n 1, 1) := by decide +kernel
theorem dX5_setUpdate_13 : decode cX5_setUpdate 13 = .ok (.putfield 119, 3) := by decide +kernel
theorem dX5_setUpdate_16 : decode cX5_setUpdate 16 = .ok (.iload_n 2, 1) := by decide +kernel
theorem dX5_setUpdate_17 : decode cX5_setUpdate 17 = .ok (.ireturn, 1) := by decide +kernel
theorem dX5_step_0 : decode cX5_step 0 = .ok (.iload_n 1, 1) := by decide +kernel
theorem dX5_step_1 : decode cX5_step 1 = .ok (.aload_n 0, 1) := by decide +kernel
theorem dX5_step_2 : decode cX5_step 2 = .ok (.getfield 31, 3) := by decide +kernel
theorem dX5_step_5 : decode cX5_step 5 = .ok (.getfield 107, 3) := by decide +kernel
theorem dX5_step_8 : decode cX5_step 8 = .ok (.invokestatic 77, 3) := by decide +kernel
theorem dX5_threshold_0 : decode cX5_threshold 0 = .ok (.iload_n 1, 1) := by decide +kernel
theorem dX5_threshold_1 : decode cX5_threshold 1 = .ok (.iconst 0, 1) := by decide +kernel
theorem dX5_threshold_2 : decode cX5_threshold 2 = .ok (.sipush 9999, 3) := by decide +kernel
theorem dX5_threshold_5 : decode cX5_threshold 5 = .ok (.invokestatic 212, 3) := by decide +kernel
theorem dX5_threshold_8 : decode cX5_threshold 8 = .ok (.aload_n 0, 1) := by decide +kernel
theorem dX5_threshold_9 : decode cX5_threshold 9 = .ok (.getfield 31, 3) := by decide +kernel
theorem dX5_threshold_12 : decode cX5_threshold 12 = .ok (.iload_n 1, 1) := by decide +kernel
theorem dX5_threshold_13 : decode cX5_threshold 13 = .ok (.iload_n 2, 1) := by decide +kernel
theorem dX5_threshold_14 : decode cX5_threshold 14 = .ok (.invokevirtual 277, 3) := by decide +kernel
theorem dX5_threshold_17 : decode cX5_threshold 17 = .ok (.aload_n 0, 1) := by decide +kernel
theorem dX5_threshold_18 : decode cX5_threshold 18 = .ok (.getfield 31, 3) := by decide +kernel
theorem dX5_threshold_21 : decode cX5_threshold 21 = .ok (.invokevirtual 110, 3) := by decide +kernel
theorem dX5_threshold_24 : decode cX5_threshold 24 = .ok (.ireturn, 1) := by decide +kernel
theorem dX5_truncate_0 : decode cX5_truncate 0 = .ok (.iload_n 1, 1) := by decide +kernel
theorem dX5_truncate_1 : decode cX5_truncate 1 = .ok (.aload_n 0, 1) := by decide +kernel
theorem dX5_truncate_2 : decode cX5_truncate 2 = .ok (.getfield 12, 3) := by decide +kernel
theorem dX5_truncate_5 : decode cX5_truncate 5 = .ok (.getfield 74, 3) := by decide +kernel
theorem dX5_truncate_8 : decode cX5_truncate 8 = .ok (.iconst 1, 1) := by decide +kernel
theorem dX5_truncate_9 : decode cX5_truncate 9 = .ok (.iadd, 1) := by decide +kernel
theorem dX5_truncate_10 : decode cX5_truncate 10 = .ok (.invokestatic 77, 3) := by decide +kernel
theorem dX5_truncate_13 : decode cX5_truncate 13 = .ok (.aload_n 0, 1) := by decide +kernel
theorem dX5_truncate_14 : decode cX5_truncate 14 = .ok (.getfield 12, 3) := by decide +kernel
theorem dX5_truncate_17 : decode cX5_truncate 17 = .ok (.iload_n 1, 1) := by decide +kernel
theorem dX5_truncate_18 : decode cX5_truncate 18 = .ok (.putfield 74, 3) := by decide +kernel
theorem dX5_truncate_21 : decode cX5_truncate 21 = .ok (.iload_n 1, 1) := by decide +kernel
theorem dX5_truncate_22 : decode cX5_truncate 22 = .ok (.ireturn, 1) := by decide +kernel
theorem dX5_valueAt_0 : decode cX5_valueAt 0 = .ok (.iload_n 1, 1) := by decide +kernel
theorem dX5_valueAt_1 : decode cX5_valueAt 1 = .ok (.aload_n 0, 1) := by decide +kernel
theorem dX5_valueAt_2 : decode cX5_valueAt 2 = .ok (.getfield 19, 3) := by decide +kernel
theorem dX5_valueAt_5 : decode cX5_valueAt 5 = .ok (.getfield 132, 3) := by decide +kernel
theorem dX5_valueAt_8 : decode cX5_valueAt 8 = .ok (.iconst 0, 1) := by decide +kernel
theorem dX5_valueAt_9 : decode cX5_valueAt 9 = .ok (.iaload, 1) := by decide +kernel
theorem dX5_valueAt_10 : decode cX5_valueAt 10 = .ok (.if_icmp .lt 24, 3) := by decide +kernel
theorem dX5_valueAt_13 : decode cX5_valueAt 13 = .ok (.iload_n 1, 1) := by decide +kernel
theorem dX5_valueAt_14 : decode cX5_valueAt 14 = .ok (.aload_n 0, 1) := by decide +kernel
theorem dX5_valueAt_15 : decode cX5_valueAt 15 = .ok (.getfield 19, 3) := by decide +kernel
theorem dX5_valueAt_18 : decode cX5_valueAt 18 = .ok (.getfield 132, 3) := by decide +kernel
theorem dX5_valueAt_21 : decode cX5_valueAt 21 = .ok (.aload_n 0, 1) := by decide +kernel
theorem dX5_valueAt_22 : decode cX5_valueAt 22 = .ok (.getfield 19, 3) := by decide +kernel
theorem dX5_valueAt_25 : decode cX5_valueAt 25 = .ok (.getfield 94, 3) := by decide +kernel
theorem dX5_valueAt_28 : decode cX5_valueAt 28 = .ok (.iconst 1, 1) := by decide +kernel
theorem dX5_valueAt_29 : decode cX5_valueAt 29 = .ok (.isub, 1) := by decide +kernel
theorem dX5_valueAt_30 : decode cX5_valueAt 30 = .ok (.iaload, 1) := by decide +kernel
theorem dX5_valueAt_31 : decode cX5_valueAt 31 = .ok (.if_icmp .le 13, 3) := by decide +kernel
theorem dX5_valueAt_34 : decode cX5_valueAt 34 = .ok (.new 196, 3) := by decide +kernel
theorem dX5_valueAt_37 : decode cX5_valueAt 37 = .ok (.dup, 1) := by decide +kernel
theorem dX5_valueAt_38 : decode cX5_valueAt 38 = .ok (.ldc 198, 2) := by decide +kernel
theorem dX5_valueAt_40 : decode cX5_valueAt 40 = .ok (.invokespecial 200, 3) := by decide +kernel
theorem dX5_valueAt_43 : decode cX5_valueAt 43 = .ok (.athrow, 1) := by decide +kernel
theorem dX5_valueAt_44 : decode cX5_valueAt 44 = .ok (.aload_n 0, 1) := by decide +kernel
theorem dX5_valueAt_45 : decode cX5_valueAt 45 = .ok (.getfield 31, 3) := by decide +kernel
theorem dX5_valueAt_48 : decode cX5_valueAt 48 = .ok (.iload_n 1, 1) := by decide +kernel
theorem dX5_valueAt_49 : decode cX5_valueAt 49 = .ok (.invokevirtual 201, 3) := by decide +kernel
theorem dX5_valueAt_52 : decode cX5_valueAt 52 = .ok (.invokevirtual 147, 3) := by decide +kernel
theorem dX5_valueAt_55 : decode cX5_valueAt 55 = .ok (.lreturn, 1) := by decide +kernel
theorem dX6_amount_0 : decode cX6_amount 0 = .ok (.lload_n 0, 1) := by decide +kernel
theorem dX6_amount_1 : decode cX6_amount 1 = .ok (.lconst 0, 1) := by decide +kernel
theorem dX6_amount_2 : decode cX6_amount 2 = .ok (.lcmp, 1) := by decide +kernel
theorem dX6_amount_3 : decode cX6_amount 3 = .ok (.ifCond .ge 8, 3) := by decide +kernel
theorem dX6_amount_11 : decode cX6_amount 11 = .ok (.lload_n 0, 1) := by decide +kernel
theorem dX6_amount_12 : decode cX6_amount 12 = .ok (.lreturn, 1) := by decide +kernel
theorem dX6_anew_0 : decode cX6_anew 0 = .ok (.aload_n 0, 1) := by decide +kernel
theorem dX6_anew_1 : decode cX6_anew 1 = .ok (.getfield 7, 3) := by decide +kernel
theorem dX6_anew_4 : decode cX6_anew 4 = .ok (.iconst 3, 1) := by decide +kernel
theorem dX6_anew_5 : decode cX6_anew 5 = .ok (.lconst 0, 1) := by decide +kernel
theorem dX6_anew_6 : decode cX6_anew 6 = .ok (.lastore, 1) := by decide +kernel
theorem dX6_anew_7 : decode cX6_anew 7 = .ok (.aload_n 0, 1) := by decide +kernel
theorem dX6_anew_8 : decode cX6_anew 8 = .ok (.getfield 7, 3) := by decide +kernel
theorem dX6_anew_11 : decode cX6_anew 11 = .ok (.iconst 4, 1) := by decide +kernel
theorem dX6_anew_12 : decode cX6_anew 12 = .ok (.lconst 0, 1) := by decide +kernel
theorem dX6_anew_13 : decode cX6_anew 13 = .ok (.lastore, 1) := by decide +kernel
theorem dX6_anew_14 : decode cX6_anew 14 = .ok (.iconst 0, 1) := by decide +kernel
theorem dX6_anew_15 : decode cX6_anew 15 = .ok (.istore_n 1, 1) := by decide +kernel
theorem dX6_anew_16 : decode cX6_anew 16 = .ok (.iload_n 1, 1) := by decide +kernel
theorem dX6_anew_17 : decode cX6_anew 17 = .ok (.aload_n 0, 1) := by decide +kernel
theorem dX6_anew_18 : decode cX6_anew 18 = .ok (.getfield 185, 3) := by decide +kernel
theorem dX6_anew_21 : decode cX6_anew 21 = .ok (.if_icmp .ge 99, 3) := by decide +kernel
theorem dX6_anew_24 : decode cX6_anew 24 = .ok (.aload_n 0, 1) := by decide +kernel
theorem dX6_anew_25 : decode cX6_anew 25 = .ok (.getfield 7, 3) := by decide +kernel
theorem dX6_anew_28 : decode cX6_anew 28 = .ok (.iconst 5, 1) := by decide +kernel
theorem dX6_anew_29 : decode cX6_anew 29 = .ok (.iload_n 1, 1) := by decide +kernel
theorem dX6_anew_30 : decode cX6_anew 30 = .ok (.iadd, 1) := by decide +kernel
theorem dX6_anew_31 : decode cX6_anew 31 = .ok (.aload_n 0, 1) := by decide +kernel
theorem dX6_anew_32 : decode cX6_anew 32 = .ok (.getfield 27, 3) := by decide +kernel
theorem dX6_anew_35 : decode cX6_anew 35 = .ok (.iload_n 1, 1) := by decide +kernel
theorem dX6_anew_36 : decode cX6_anew 36 = .ok (.iaload, 1) := by decide +kernel
theorem dX6_anew_37 : decode cX6_anew 37 = .ok (.i2l, 1) := by decide +kernel
theorem dX6_anew_38 : decode cX6_anew 38 = .ok (.lastore, 1) := by decide +kernel
theorem dX6_anew_39 : decode cX6_anew 39 = .ok (.iload_n 1, 1) := by decide +kernel
theorem dX6_anew_40 : decode cX6_anew 40 = .ok (.ifCond .ne 12, 3) := by decide +kernel
theorem dX6_anew_43 : decode cX6_anew 43 = .ok (.aload_n 0, 1) := by decide +kernel
theorem dX6_anew_44 : decode cX6_anew 44 = .ok (.getfield 23, 3) := by decide +kernel
theorem dX6_anew_47 : decode cX6_anew 47 = .ok (.iconst 0, 1) := by decide +kernel
theorem dX6_anew_48 : decode cX6_anew 48 = .ok (.iaload, 1) := by decide +kernel
theorem dX6_anew_49 : decode cX6_anew 49 = .ok (.goto 11, 3) := by decide +kernel
theorem dX6_anew_52 : decode cX6_anew 52 = .ok (.aload_n 0, 1) := by decide +kernel
theorem dX6_anew_53 : decode cX6_anew 53 = .ok (.getfield 23, 3) := by decide +kernel
theorem dX6_anew_56 : decode cX6_anew 56 = .ok (.iload_n 1, 1) := by decide +kernel
theorem dX6_anew_57 : decode cX6_anew 57 = .ok (.iconst 1, 1) := by decide +kernel
theorem dX6_anew_58 : decode cX6_anew 58 = .ok (.isub, 1) := by decide +kernel
theorem dX6_anew_59 : decode cX6_anew 59 = .ok (.iaload, 1) := by decide +kernel
theorem dX6_anew_60 : decode cX6_anew 60 = .ok (.istore_n 2, 1) := by decide +kernel
theorem dX6_anew_61 : decode cX6_anew 61 = .ok (.iload_n 1, 1) := by decide +kernel
theorem dX6_anew_62 : decode cX6_anew 62 = .ok (.aload_n 0, 1) := by decide +kernel
theorem dX6_anew_63 : decode cX6_anew 63 = .ok (.getfield 185, 3) := by decide +kernel
theorem dX6_anew_66 : decode cX6_anew 66 = .ok (.iconst 1, 1) := by decide +kernel
theorem dX6_anew_67 : decode cX6_anew 67 = .ok (.isub, 1) := by decide +kernel
theorem dX6_anew_68 : decode cX6_anew 68 = .ok (.if_icmp .ne 12, 3) := by decide +kernel
theorem dX6_anew_71 : decode cX6_anew 71 = .ok (.aload_n 0, 1) := by decide +kernel
theorem dX6_anew_72 : decode cX6_anew 72 = .ok (.getfield 23, 3) := by decide +kernel
theorem dX6_anew_75 : decode cX6_anew 75 = .ok (.iload_n 1, 1) := by decide +kernel
theorem dX6_anew_76 : decode cX6_anew 76 = .ok (.iaload, 1) := by decide +kernel
theorem dX6_anew_77 : decode cX6_anew 77 = .ok (.goto 11, 3) := by decide +kernel
theorem dX6_anew_80 : decode cX6_anew 80 = .ok (.aload_n 0, 1) := by decide +kernel
theorem dX6_anew_81 : decode cX6_anew 81 = .ok (.getfield 23, 3) := by decide +kernel
theorem dX6_anew_84 : decode cX6_anew 84 = .ok (.iload_n 1, 1) := by decide +kernel
theorem dX6_anew_85 : decode cX6_anew 85 = .ok (.iconst 1, 1) := by decide +kernel
theorem dX6_anew_86 : decode cX6_anew 86 = .ok (.iadd, 1) := by decide +kernel
theorem dX6_anew_87 : decode cX6_anew 87 = .ok (.iaload, 1) := by decide +kernel
theorem dX6_anew_88 : decode cX6_anew 88 = .ok (.istore_n 3, 1) := by decide +kernel
theorem dX6_anew_89 : decode cX6_anew 89 = .ok (.aload_n 0, 1) := by decide +kernel
theorem dX6_anew_90 : decode cX6_anew 90 = .ok (.getfield 7, 3) := by decide +kernel
theorem dX6_anew_93 : decode cX6_anew 93 = .ok (.bipush 53, 2) := by decide +kernel
theorem dX6_anew_95 : decode cX6_anew 95 = .ok (.iload_n 1, 1) := by decide +kernel
theorem dX6_anew_96 : decode cX6_anew 96 = .ok (.iadd, 1) := by decide +kernel
theorem dX6_anew_97 : decode cX6_anew 97 = .ok (.iload_n 3, 1) := by decide +kernel
theorem dX6_anew_98 : decode cX6_anew 98 = .ok (.iload_n 2, 1) := by decide +kernel
theorem dX6_anew_99 : decode cX6_anew 99 = .ok (.isub, 1) := by decide +kernel
theorem dX6_anew_100 : decode cX6_anew 100 = .ok (.i2l, 1) := by decide +kernel
theorem dX6_anew_101 : decode cX6_anew 101 = .ok (.lastore, 1) := by decide +kernel
theorem dX6_anew_102 : decode cX6_anew 102 = .ok (.aload_n 0, 1) := by decide +kernel
theorem dX6_anew_103 : decode cX6_anew 103 = .ok (.getfield 7, 3) := by decide +kernel
theorem dX6_anew_106 : decode cX6_anew 106 = .ok (.bipush 101, 2) := by decide +kernel
theorem dX6_anew_108 : decode cX6_anew 108 = .ok (.iload_n 1, 1) := by decide +kernel
theorem dX6_anew_109 : decode cX6_anew 109 = .ok (.iadd, 1) := by decide +kernel
theorem dX6_anew_110 : decode cX6_anew 110 = .ok (.ldc2_w 197, 3) := by decide +kernel
theorem dX6_anew_113 : decode cX6_anew 113 = .ok (.lastore, 1) := by decide +kernel
theorem dX6_anew_114 : decode cX6_anew 114 = .ok (.iinc 1 1, 3) := by decide +kernel
theorem dX6_anew_117 : decode cX6_anew 117 = .ok (.goto (-101), 3) := by decide +kernel
theorem dX6_anew_120 : decode cX6_anew 120 = .ok (.return_, 1) := by decide +kernel
theorem dX6_append_0 : decode cX6_append 0 = .ok (.aload_n 0, 1) := by decide +kernel
theorem dX6_append_1 : decode cX6_append 1 = .ok (.iconst 0, 1) := by decide +kernel
theorem dX6_append_2 : decode cX6_append 2 = .ok (.putfield 64, 3) := by decide +kernel
theorem dX6_append_5 : decode cX6_append 5 = .ok (.aload_n 0, 1) := by decide +kernel
theorem dX6_append_6 : decode cX6_append 6 = .ok (.getfield 77, 3) := by decide +kernel
theorem dX6_append_9 : decode cX6_append 9 = .ok (.bipush 20, 2) := by decide +kernel
theorem dX6_append_11 : decode cX6_append 11 = .ok (.iadd, 1) := by decide +kernel
theorem dX6_append_12 : decode cX6_append 12 = .ok (.sipush 700, 3) := by decide +kernel
theorem dX6_append_15 : decode cX6_append 15 = .ok (.if_icmp .le 5, 3) := by decide +kernel
theorem dX6_append_20 : decode cX6_append 20 = .ok (.aload_n 0, 1) := by decide +kernel
theorem dX6_append_21 : decode cX6_append 21 = .ok (.iload_n 1, 1) := by decide +kernel
theorem dX6_append_22 : decode cX6_append 22 = .ok (.invokevirtual 80, 3) := by decide +kernel
theorem dX6_append_25 : decode cX6_append 25 = .ok (.aload_n 0, 1) := by decide +kernel
theorem dX6_append_26 : decode cX6_append 26 = .ok (.iload_n 2, 1) := by decide +kernel
theorem dX6_append_27 : decode cX6_append 27 = .ok (.invokevirtual 80, 3) := by decide +kernel
theorem dX6_append_30 : decode cX6_append 30 = .ok (.aload_n 0, 1) := by decide +kernel
theorem dX6_append_31 : decode cX6_append 31 = .ok (.iload_n 3, 1) := by decide +kernel
theorem dX6_append_32 : decode cX6_append 32 = .ok (.invokevirtual 80, 3) := by decide +kernel
theorem dX6_append_35 : decode cX6_append 35 = .ok (.aload_n 0, 1) := by decide +kernel
theorem dX6_append_36 : decode cX6_append 36 = .ok (.iload 4, 2) := by decide +kernel
theorem dX6_append_38 : decode cX6_append 38 = .ok (.invokevirtual 80, 3) := by decide +kernel
theorem dX6_append_41 : decode cX6_append 41 = .ok (.aload_n 0, 1) := by decide +kernel
theorem dX6_append_42 : decode cX6_append 42 = .ok (.iload 5, 2) := by decide +kernel
theorem dX6_append_44 : decode cX6_append 44 = .ok (.invokevirtual 80, 3) := by decide +kernel
theorem dX6_append_47 : decode cX6_append 47 = .ok (.aload_n 0, 1) := by decide +kernel
theorem dX6_append_48 : decode cX6_append 48 = .ok (.getfield 77, 3) := by decide +kernel
theorem dX6_append_51 : decode cX6_append 51 = .ok (.ireturn, 1) := by decide +kernel
theorem dX6_beside_0 : decode cX6_beside 0 = .ok (.iload_n 1, 1) := by decide +kernel
theorem dX6_beside_1 : decode cX6_beside 1 = .ok (.iload_n 2, 1) := by decide +kernel
theorem dX6_beside_2 : decode cX6_beside 2 = .ok (.iadd, 1) := by decide +kernel
theorem dX6_beside_3 : decode cX6_beside 3 = .ok (.istore_n 3, 1) := by decide +kernel
theorem dX6_beside_4 : decode cX6_beside 4 = .ok (.iload_n 3, 1) := by decide +kernel
theorem dX6_beside_5 : decode cX6_beside 5 = .ok (.ifCond .lt 26, 3) := by decide +kernel
theorem dX6_beside_8 : decode cX6_beside 8 = .ok (.iload_n 3, 1) := by decide +kernel
theorem dX6_beside_9 : decode cX6_beside 9 = .ok (.aload_n 0, 1) := by decide +kernel
theorem dX6_beside_10 : decode cX6_beside 10 = .ok (.getfield 185, 3) := by decide +kernel
theorem dX6_beside_13 : decode cX6_beside 13 = .ok (.if_icmp .ge 18, 3) := by decide +kernel
theorem dX6_beside_16 : decode cX6_beside 16 = .ok (.aload_n 0, 1) := by decide +kernel
theorem dX6_beside_17 : decode cX6_beside 17 = .ok (.iload_n 3, 1) := by decide +kernel
theorem dX6_beside_18 : decode cX6_beside 18 = .ok (.invokevirtual 202, 3) := by decide +kernel
theorem dX6_beside_21 : decode cX6_beside 21 = .ok (.ifCond .ne 10, 3) := by decide +kernel
theorem dX6_beside_31 : decode cX6_beside 31 = .ok (.aload_n 0, 1) := by decide +kernel
theorem dX6_beside_32 : decode cX6_beside 32 = .ok (.iload_n 3, 1) := by decide +kernel
theorem dX6_beside_33 : decode cX6_beside 33 = .ok (.invokevirtual 205, 3) := by decide +kernel
theorem dX6_beside_36 : decode cX6_beside 36 = .ok (.ifCond .eq 7, 3) := by decide +kernel
theorem dX6_beside_39 : decode cX6_beside 39 = .ok (.iload_n 3, 1) := by decide +kernel
theorem dX6_beside_40 : decode cX6_beside 40 = .ok (.goto 4, 3) := by decide +kernel
theorem dX6_beside_43 : decode cX6_beside 43 = .ok (.iconst (-1), 1) := by decide +kernel
theorem dX6_beside_44 : decode cX6_beside 44 = .ok (.ireturn, 1) := by decide +kernel
theorem dX6_bestScheme_0 : decode cX6_bestScheme 0 = .ok (.aload_n 0, 1) := by decide +kernel
theorem dX6_bestScheme_1 : decode cX6_bestScheme 1 = .ok (.iconst 0, 1) := by decide +kernel
theorem dX6_bestScheme_2 : decode cX6_bestScheme 2 = .ok (.putfield 64, 3) := by decide +kernel
theorem dX6_bestScheme_5 : decode cX6_bestScheme 5 = .ok (.iconst 0, 1) := by decide +kernel
theorem dX6_bestScheme_6 : decode cX6_bestScheme 6 = .ok (.istore_n 1, 1) := by decide +kernel
theorem dX6_bestScheme_7 : decode cX6_bestScheme 7 = .ok (.aload_n 0, 1) := by decide +kernel
theorem dX6_bestScheme_8 : decode cX6_bestScheme 8 = .ok (.iconst 0, 1) := by decide +kernel
theorem dX6_bestScheme_9 : decode cX6_bestScheme 9 = .ok (.iconst 0, 1) := by decide +kernel
theorem dX6_bestScheme_10 : decode cX6_bestScheme 10 = .ok (.invokevirtual 333, 3) := by decide +kernel
theorem dX6_bestScheme_13 : decode cX6_bestScheme 13 = .ok (.istore_n 2, 1) := by decide +kernel
theorem dX6_bestScheme_14 : decode cX6_bestScheme 14 = .ok (.iconst 1, 1) := by decide +kernel
theorem dX6_bestScheme_15 : decode cX6_bestScheme 15 = .ok (.istore_n 3, 1) := by decide +kernel
theorem dX6_bestScheme_16 : decode cX6_bestScheme 16 = .ok (.iload_n 3, 1) := by decide +kernel
theorem dX6_bestScheme_17 : decode cX6_bestScheme 17 = .ok (.bipush 9, 2) := by decide +kernel
theorem dX6_bestScheme_19 : decode cX6_bestScheme 19 = .ok (.if_icmp .ge 32, 3) := by decide +kernel
theorem dX6_bestScheme_22 : decode cX6_bestScheme 22 = .ok (.aload_n 0, 1) := by decide +kernel
theorem dX6_bestScheme_23 : decode cX6_bestScheme 23 = .ok (.iload_n 3, 1) := by decide +kernel
theorem dX6_bestScheme_24 : decode cX6_bestScheme 24 = .ok (.iconst 3, 1) := by decide +kernel
theorem dX6_bestScheme_25 : decode cX6_bestScheme 25 = .ok (.idiv, 1) := by decide +kernel
theorem dX6_bestScheme_26 : decode cX6_bestScheme 26 = .ok (.iload_n 3, 1) := by decide +kernel
theorem dX6_bestScheme_27 : decode cX6_bestScheme 27 = .ok (.iconst 3, 1) := by decide +kernel
theorem dX6_bestScheme_28 : decode cX6_bestScheme 28 = .ok (.irem, 1) := by decide +kernel
theorem dX6_bestScheme_29 : decode cX6_bestScheme 29 = .ok (.invokevirtual 333, 3) := by decide +kernel
theorem dX6_bestScheme_32 : decode cX6_bestScheme 32 = .ok (.istore 4, 2) := by decide +kernel
theorem dX6_bestScheme_34 : decode cX6_bestScheme 34 = .ok (.iload 4, 2) := by decide +kernel
theorem dX6_bestScheme_36 : decode cX6_bestScheme 36 = .ok (.iload_n 2, 1) := by decide +kernel
theorem dX6_bestScheme_37 : decode cX6_bestScheme 37 = .ok (.if_icmp .ge 8, 3) := by decide +kernel
theorem dX6_bestScheme_45 : decode cX6_bestScheme 45 = .ok (.iinc 3 1, 3) := by decide +kernel
theorem dX6_bestScheme_48 : decode cX6_bestScheme 48 = .ok (.goto (-32), 3) := by decide +kernel
theorem dX6_bestScheme_51 : decode cX6_bestScheme 51 = .ok (.iload_n 1, 1) := by decide +kernel
theorem dX6_bestScheme_52 : decode cX6_bestScheme 52 = .ok (.ireturn, 1) := by decide +kernel
theorem dX6_bestThreshold_0 : decode cX6_bestThreshold 0 = .ok (.aload_n 0, 1) := by decide +kernel
theorem dX6_bestThreshold_1 : decode cX6_bestThreshold 1 = .ok (.iload_n 1, 1) := by decide +kernel
theorem dX6_bestThreshold_2 : decode cX6_bestThreshold 2 = .ok (.i2l, 1) := by decide +kernel
theorem dX6_bestThreshold_3 : decode cX6_bestThreshold 3 = .ok (.lconst 0, 1) := by decide +kernel
theorem dX6_bestThreshold_4 : decode cX6_bestThreshold 4 = .ok (.ldc2_w 314, 3) := by decide +kernel
theorem dX6_bestThreshold_7 : decode cX6_bestThreshold 7 = .ok (.invokestatic 84, 3) := by decide +kernel
theorem dX6_bestThreshold_10 : decode cX6_bestThreshold 10 = .ok (.ifCond .eq 7, 3) := by decide +kernel
theorem dX6_bestThreshold_13 : decode cX6_bestThreshold 13 = .ok (.iconst 0, 1) := by decide +kernel
theorem dX6_bestThreshold_14 : decode cX6_bestThreshold 14 = .ok (.goto 4, 3) := by decide +kernel
theorem dX6_bestThreshold_17 : decode cX6_bestThreshold 17 = .ok (.iconst 1, 1) := by decide +kernel
theorem dX6_bestThreshold_18 : decode cX6_bestThreshold 18 = .ok (.putfield 64, 3) := by decide +kernel
theorem dX6_bestThreshold_21 : decode cX6_bestThreshold 21 = .ok (.aload_n 0, 1) := by decide +kernel
theorem dX6_bestThreshold_22 : decode cX6_bestThreshold 22 = .ok (.getfield 64, 3) := by decide +kernel
theorem dX6_bestThreshold_25 : decode cX6_bestThreshold 25 = .ok (.ifCond .le 5, 3) := by decide +kernel
theorem dX6_bestThreshold_28 : decode cX6_bestThreshold 28 = .ok (.iconst 0, 1) := by decide +kernel
theorem dX6_bestThreshold_29 : decode cX6_bestThreshold 29 = .ok (.ireturn, 1) := by decide +kernel
theorem dX6_bestThreshold_30 : decode cX6_bestThreshold 30 = .ok (.sipush 1000, 3) := by decide +kernel
theorem dX6_bestThreshold_33 : decode cX6_bestThreshold 33 = .ok (.istore_n 2, 1) := by decide +kernel
theorem dX6_bestThreshold_34 : decode cX6_bestThreshold 34 = .ok (.iload_n 2, 1) := by decide +kernel
theorem dX6_bestThreshold_35 : decode cX6_bestThreshold 35 = .ok (.ifCond .lt 21, 3) := by decide +kernel
theorem dX6_bestThreshold_38 : decode cX6_bestThreshold 38 = .ok (.aload_n 0, 1) := by decide +kernel
theorem dX6_bestThreshold_39 : decode cX6_bestThreshold 39 = .ok (.iload_n 2, 1) := by decide +kernel
theorem dX6_bestThreshold_40 : decode cX6_bestThreshold 40 = .ok (.iconst 0, 1) := by decide +kernel
theorem dX6_bestThreshold_41 : decode cX6_bestThreshold 41 = .ok (.invokevirtual 329, 3) := by decide +kernel
theorem dX6_bestThreshold_44 : decode cX6_bestThreshold 44 = .ok (.iload_n 1, 1) := by decide +kernel
theorem dX6_bestThreshold_45 : decode cX6_bestThreshold 45 = .ok (.i2l, 1) := by decide +kernel
theorem dX6_bestThreshold_46 : decode cX6_bestThreshold 46 = .ok (.lcmp, 1) := by decide +kernel
theorem dX6_bestThreshold_47 : decode cX6_bestThreshold 47 = .ok (.ifCond .le 9, 3) := by decide +kernel
theorem dX6_bestThreshold_56 : decode cX6_bestThreshold 56 = .ok (.iload_n 2, 1) := by decide +kernel
theorem dX6_bestThreshold_57 : decode cX6_bestThreshold 57 = .ok (.ifCond .ge 11, 3) := by decide +kernel
theorem dX6_bestThreshold_68 : decode cX6_bestThreshold 68 = .ok (.iload_n 2, 1) := by decide +kernel
theorem dX6_bestThreshold_69 : decode cX6_bestThreshold 69 = .ok (.ireturn, 1) := by decide +kernel
theorem dX6_bits_0 : decode cX6_bits 0 = .ok (.aload_n 0, 1) := by decide +kernel
theorem dX6_bits_1 : decode cX6_bits 1 = .ok (.iconst 0, 1) := by decide +kernel
theorem dX6_bits_2 : decode cX6_bits 2 = .ok (.putfield 64, 3) := by decide +kernel
theorem dX6_bits_5 : decode cX6_bits 5 = .ok (.aload_n 0, 1) := by decide +kernel
theorem dX6_bits_6 : decode cX6_bits 6 = .ok (.invokevirtual 248, 3) := by decide +kernel
theorem dX6_bits_9 : decode cX6_bits 9 = .ok (.ireturn, 1) := by decide +kernel
theorem dX6_bitsBy_0 : decode cX6_bitsBy 0 = .ok (.aload_n 0, 1) := by decide +kernel
theorem dX6_bitsBy_1 : decode cX6_bitsBy 1 = .ok (.iload_n 1, 1) := by decide +kernel
theorem dX6_bitsBy_2 : decode cX6_bitsBy 2 = .ok (.i2l, 1) := by decide +kernel
theorem dX6_bitsBy_3 : decode cX6_bitsBy 3 = .ok (.lconst 0, 1) := by decide +kernel
theorem dX6_bitsBy_4 : decode cX6_bitsBy 4 = .ok (.ldc2_w 246, 3) := by decide +kernel
theorem dX6_bitsBy_7 : decode cX6_bitsBy 7 = .ok (.invokestatic 84, 3) := by decide +kernel
theorem dX6_bitsBy_10 : decode cX6_bitsBy 10 = .ok (.ifCond .eq 19, 3) := by decide +kernel
theorem dX6_bitsBy_13 : decode cX6_bitsBy 13 = .ok (.iload_n 2, 1) := by decide +kernel
theorem dX6_bitsBy_14 : decode cX6_bitsBy 14 = .ok (.i2l, 1) := by decide +kernel
theorem dX6_bitsBy_15 : decode cX6_bitsBy 15 = .ok (.lconst 0, 1) := by decide +kernel
theorem dX6_bitsBy_16 : decode cX6_bitsBy 16 = .ok (.ldc2_w 246, 3) := by decide +kernel
theorem dX6_bitsBy_19 : decode cX6_bitsBy 19 = .ok (.invokestatic 84, 3) := by decide +kernel
theorem dX6_bitsBy_22 : decode cX6_bitsBy 22 = .ok (.ifCond .eq 7, 3) := by decide +kernel
theorem dX6_bitsBy_25 : decode cX6_bitsBy 25 = .ok (.iconst 0, 1) := by decide +kernel
theorem dX6_bitsBy_26 : decode cX6_bitsBy 26 = .ok (.goto 4, 3) := by decide +kernel
theorem dX6_bitsBy_29 : decode cX6_bitsBy 29 = .ok (.iconst 1, 1) := by decide +kernel
theorem dX6_bitsBy_30 : decode cX6_bitsBy 30 = .ok (.putfield 64, 3) := by decide +kernel
theorem dX6_bitsBy_33 : decode cX6_bitsBy 33 = .ok (.aload_n 0, 1) := by decide +kernel
theorem dX6_bitsBy_34 : decode cX6_bitsBy 34 = .ok (.getfield 64, 3) := by decide +kernel
theorem dX6_bitsBy_37 : decode cX6_bitsBy 37 = .ok (.ifCond .le 7, 3) := by decide +kernel
theorem dX6_bitsBy_40 : decode cX6_bitsBy 40 = .ok (.iconst 0, 1) := by decide +kernel
theorem dX6_bitsBy_41 : decode cX6_bitsBy 41 = .ok (.goto 9, 3) := by decide +kernel
theorem dX6_bitsBy_44 : decode cX6_bitsBy 44 = .ok (.aload_n 0, 1) := by decide +kernel
theorem dX6_bitsBy_45 : decode cX6_bitsBy 45 = .ok (.iload_n 1, 1) := by decide +kernel
theorem dX6_bitsBy_46 : decode cX6_bitsBy 46 = .ok (.iload_n 2, 1) := by decide +kernel
theorem dX6_bitsBy_47 : decode cX6_bitsBy 47 = .ok (.invokevirtual 333, 3) := by decide +kernel
theorem dX6_bitsBy_50 : decode cX6_bitsBy 50 = .ok (.ireturn, 1) := by decide +kernel
theorem dX6_bitsNow_0 : decode cX6_bitsNow 0 = .ok (.aload_n 0, 1) := by decide +kernel
theorem dX6_bitsNow_1 : decode cX6_bitsNow 1 = .ok (.invokevirtual 199, 3) := by decide +kernel
theorem dX6_bitsNow_4 : decode cX6_bitsNow 4 = .ok (.istore_n 1, 1) := by decide +kernel
theorem dX6_bitsNow_5 : decode cX6_bitsNow 5 = .ok (.iconst 0, 1) := by decide +kernel
theorem dX6_bitsNow_6 : decode cX6_bitsNow 6 = .ok (.istore_n 2, 1) := by decide +kernel
theorem dX6_bitsNow_7 : decode cX6_bitsNow 7 = .ok (.iload_n 2, 1) := by decide +kernel
theorem dX6_bitsNow_8 : decode cX6_bitsNow 8 = .ok (.aload_n 0, 1) := by decide +kernel
theorem dX6_bitsNow_9 : decode cX6_bitsNow 9 = .ok (.invokevirtual 199, 3) := by decide +kernel
theorem dX6_bitsNow_12 : decode cX6_bitsNow 12 = .ok (.if_icmp .ge 37, 3) := by decide +kernel
theorem dX6_bitsNow_49 : decode cX6_bitsNow 49 = .ok (.iload_n 1, 1) := by decide +kernel
theorem dX6_bitsNow_50 : decode cX6_bitsNow 50 = .ok (.ireturn, 1) := by decide +kernel
theorem dX6_bitsOf_0 : decode cX6_bitsOf 0 = .ok (.aload_n 0, 1) := by decide +kernel
theorem dX6_bitsOf_1 : decode cX6_bitsOf 1 = .ok (.invokevirtual 323, 3) := by decide +kernel
theorem dX6_bitsOf_4 : decode cX6_bitsOf 4 = .ok (.aload_n 0, 1) := by decide +kernel
theorem dX6_bitsOf_5 : decode cX6_bitsOf 5 = .ok (.getfield 7, 3) := by decide +kernel
theorem dX6_bitsOf_8 : decode cX6_bitsOf 8 = .ok (.iconst 0, 1) := by decide +kernel
theorem dX6_bitsOf_9 : decode cX6_bitsOf 9 = .ok (.iload_n 1, 1) := by decide +kernel
theorem dX6_bitsOf_10 : decode cX6_bitsOf 10 = .ok (.i2l, 1) := by decide +kernel
theorem dX6_bitsOf_11 : decode cX6_bitsOf 11 = .ok (.lastore, 1) := by decide +kernel
theorem dX6_bitsOf_12 : decode cX6_bitsOf 12 = .ok (.aload_n 0, 1) := by decide +kernel
theorem dX6_bitsOf_13 : decode cX6_bitsOf 13 = .ok (.getfield 7, 3) := by decide +kernel
theorem dX6_bitsOf_16 : decode cX6_bitsOf 16 = .ok (.iconst 1, 1) := by decide +kernel
theorem dX6_bitsOf_17 : decode cX6_bitsOf 17 = .ok (.iload_n 2, 1) := by decide +kernel
theorem dX6_bitsOf_18 : decode cX6_bitsOf 18 = .ok (.i2l, 1) := by decide +kernel
theorem dX6_bitsOf_19 : decode cX6_bitsOf 19 = .ok (.lastore, 1) := by decide +kernel
theorem dX6_bitsOf_20 : decode cX6_bitsOf 20 = .ok (.aload_n 0, 1) := by decide +kernel
theorem dX6_bitsOf_21 : decode cX6_bitsOf 21 = .ok (.invokevirtual 191, 3) := by decide +kernel
theorem dX6_bitsOf_24 : decode cX6_bitsOf 24 = .ok (.aload_n 0, 1) := by decide +kernel
theorem dX6_bitsOf_25 : decode cX6_bitsOf 25 = .ok (.bipush 46, 2) := by decide +kernel
theorem dX6_bitsOf_27 : decode cX6_bitsOf 27 = .ok (.invokevirtual 306, 3) := by decide +kernel
theorem dX6_bitsOf_30 : decode cX6_bitsOf 30 = .ok (.istore_n 3, 1) := by decide +kernel
theorem dX6_bitsOf_31 : decode cX6_bitsOf 31 = .ok (.aload_n 0, 1) := by decide +kernel
theorem dX6_bitsOf_32 : decode cX6_bitsOf 32 = .ok (.invokevirtual 248, 3) := by decide +kernel
theorem dX6_bitsOf_35 : decode cX6_bitsOf 35 = .ok (.istore_n 3, 1) := by decide +kernel
theorem dX6_bitsOf_36 : decode cX6_bitsOf 36 = .ok (.aload_n 0, 1) := by decide +kernel
theorem dX6_bitsOf_37 : decode cX6_bitsOf 37 = .ok (.invokevirtual 320, 3) := by decide +kernel
theorem dX6_bitsOf_40 : decode cX6_bitsOf 40 = .ok (.iload_n 3, 1) := by decide +kernel
theorem dX6_bitsOf_41 : decode cX6_bitsOf 41 = .ok (.ireturn, 1) := by decide +kernel
theorem dX6_common_0 : decode cX6_common 0 = .ok (.lload_n 0, 1) := by decide +kernel
theorem dX6_common_1 : decode cX6_common 1 = .ok (.lstore 4, 2) := by decide +kernel
theorem dX6_common_3 : decode cX6_common 3 = .ok (.lload_n 2, 1) := by decide +kernel
theorem dX6_common_4 : decode cX6_common 4 = .ok (.lstore 6, 2) := by decide +kernel
theorem dX6_common_6 : decode cX6_common 6 = .ok (.lload 6, 2) := by decide +kernel
theorem dX6_common_8 : decode cX6_common 8 = .ok (.lconst 0, 1) := by decide +kernel
theorem dX6_common_9 : decode cX6_common 9 = .ok (.lcmp, 1) := by decide +kernel
theorem dX6_common_10 : decode cX6_common 10 = .ok (.ifCond .eq 21, 3) := by decide +kernel
theorem dX6_common_13 : decode cX6_common 13 = .ok (.lload 4, 2) := by decide +kernel
theorem dX6_common_15 : decode cX6_common 15 = .ok (.lload 6, 2) := by decide +kernel
theorem dX6_common_17 : decode cX6_common 17 = .ok (.lrem, 1) := by decide +kernel
theorem dX6_common_18 : decode cX6_common 18 = .ok (.lstore 8, 2) := by decide +kernel
theorem dX6_common_20 : decode cX6_common 20 = .ok (.lload 6, 2) := by decide +kernel
theorem dX6_common_22 : decode cX6_common 22 = .ok (.lstore 4, 2) := by decide +kernel
theorem dX6_common_24 : decode cX6_common 24 = .ok (.lload 8, 2) := by decide +kernel
theorem dX6_common_26 : decode cX6_common 26 = .ok (.lstore 6, 2) := by decide +kernel
theorem dX6_common_28 : decode cX6_common 28 = .ok (.goto (-22), 3) := by decide +kernel
theorem dX6_common_31 : decode cX6_common 31 = .ok (.lload 4, 2) := by decide +kernel
theorem dX6_common_33 : decode cX6_common 33 = .ok (.lreturn, 1) := by decide +kernel
theorem dX6_count_0 : decode cX6_count 0 = .ok (.aload_n 0, 1) := by decide +kernel
theorem dX6_count_1 : decode cX6_count 1 = .ok (.iload_n 1, 1) := by decide +kernel
theorem dX6_count_2 : decode cX6_count 2 = .ok (.i2l, 1) := by decide +kernel
theorem dX6_count_3 : decode cX6_count 3 = .ok (.lconst 0, 1) := by decide +kernel
theorem dX6_count_4 : decode cX6_count 4 = .ok (.ldc2_w 212, 3) := by decide +kernel
theorem dX6_count_7 : decode cX6_count 7 = .ok (.invokestatic 84, 3) := by decide +kernel
theorem dX6_count_10 : decode cX6_count 10 = .ok (.ifCond .eq 7, 3) := by decide +kernel
theorem dX6_count_13 : decode cX6_count 13 = .ok (.iconst 0, 1) := by decide +kernel
theorem dX6_count_14 : decode cX6_count 14 = .ok (.goto 4, 3) := by decide +kernel
theorem dX6_count_17 : decode cX6_count 17 = .ok (.iconst 1, 1) := by decide +kernel
theorem dX6_count_18 : decode cX6_count 18 = .ok (.putfield 64, 3) := by decide +kernel
theorem dX6_count_21 : decode cX6_count 21 = .ok (.aload_n 0, 1) := by decide +kernel
theorem dX6_count_22 : decode cX6_count 22 = .ok (.getfield 64, 3) := by decide +kernel
theorem dX6_count_25 : decode cX6_count 25 = .ok (.ifCond .le 5, 3) := by decide +kernel
theorem dX6_count_28 : decode cX6_count 28 = .ok (.iconst 0, 1) := by decide +kernel
theorem dX6_count_29 : decode cX6_count 29 = .ok (.ireturn, 1) := by decide +kernel
theorem dX6_count_30 : decode cX6_count 30 = .ok (.iload_n 1, 1) := by decide +kernel
theorem dX6_count_31 : decode cX6_count 31 = .ok (.tableswitch 94 0 7 #[45, 50, 55, 60, 65, 73, 81, 89], 45) := by decide +kernel
theorem dX6_count_76 : decode cX6_count 76 = .ok (.aload_n 0, 1) := by decide +kernel
theorem dX6_count_77 : decode cX6_count 77 = .ok (.getfield 185, 3) := by decide +kernel
theorem dX6_count_80 : decode cX6_count 80 = .ok (.ireturn, 1) := by decide +kernel
theorem dX6_count_81 : decode cX6_count 81 = .ok (.aload_n 0, 1) := by decide +kernel
theorem dX6_count_82 : decode cX6_count 82 = .ok (.invokevirtual 214, 3) := by decide +kernel
theorem dX6_count_85 : decode cX6_count 85 = .ok (.ireturn, 1) := by decide +kernel
theorem dX6_count_86 : decode cX6_count 86 = .ok (.aload_n 0, 1) := by decide +kernel
theorem dX6_count_87 : decode cX6_count 87 = .ok (.invokevirtual 199, 3) := by decide +kernel
theorem dX6_count_90 : decode cX6_count 90 = .ok (.ireturn, 1) := by decide +kernel
theorem dX6_count_91 : decode cX6_count 91 = .ok (.aload_n 0, 1) := by decide +kernel
theorem dX6_count_92 : decode cX6_count 92 = .ok (.invokevirtual 217, 3) := by decide +kernel
theorem dX6_count_95 : decode cX6_count 95 = .ok (.ireturn, 1) := by decide +kernel
theorem dX6_count_96 : decode cX6_count 96 = .ok (.aload_n 0, 1) := by decide +kernel
theorem dX6_count_97 : decode cX6_count 97 = .ok (.getfield 7, 3) := by decide +kernel
theorem dX6_count_100 : decode cX6_count 100 = .ok (.iconst 0, 1) := by decide +kernel
theorem dX6_count_101 : decode cX6_count 101 = .ok (.laload, 1) := by decide +kernel
theorem dX6_count_102 : decode cX6_count 102 = .ok (.l2i, 1) := by decide +kernel
theorem dX6_count_103 : decode cX6_count 103 = .ok (.ireturn, 1) := by decide +kernel
theorem dX6_count_104 : decode cX6_count 104 = .ok (.aload_n 0, 1) := by decide +kernel
theorem dX6_count_105 : decode cX6_count 105 = .ok (.getfield 7, 3) := by decide +kernel
theorem dX6_count_108 : decode cX6_count 108 = .ok (.iconst 1, 1) := by decide +kernel
theorem dX6_count_109 : decode cX6_count 109 = .ok (.laload, 1) := by decide +kernel
theorem dX6_count_110 : decode cX6_count 110 = .ok (.l2i, 1) := by decide +kernel
theorem dX6_count_111 : decode cX6_count 111 = .ok (.ireturn, 1) := by decide +kernel
theorem dX6_count_112 : decode cX6_count 112 = .ok (.aload_n 0, 1) := by decide +kernel
theorem dX6_count_113 : decode cX6_count 113 = .ok (.getfield 7, 3) := by decide +kernel
theorem dX6_count_116 : decode cX6_count 116 = .ok (.iconst 2, 1) := by decide +kernel
theorem dX6_count_117 : decode cX6_count 117 = .ok (.laload, 1) := by decide +kernel
theorem dX6_count_118 : decode cX6_count 118 = .ok (.l2i, 1) := by decide +kernel
theorem dX6_count_119 : decode cX6_count 119 = .ok (.ireturn, 1) := by decide +kernel
theorem dX6_count_120 : decode cX6_count 120 = .ok (.aload_n 0, 1) := by decide +kernel
theorem dX6_count_121 : decode cX6_count 121 = .ok (.getfield 188, 3) := by decide +kernel
theorem dX6_count_124 : decode cX6_count 124 = .ok (.ireturn, 1) := by decide +kernel
theorem dX6_count_125 : decode cX6_count 125 = .ok (.aload_n 0, 1) := by decide +kernel
theorem dX6_count_126 : decode cX6_count 126 = .ok (.invokevirtual 220, 3) := by decide +kernel
theorem dX6_count_129 : decode cX6_count 129 = .ok (.l2i, 1) := by decide +kernel
theorem dX6_count_130 : decode cX6_count 130 = .ok (.ireturn, 1) := by decide +kernel
theorem dX6_cuts_0 : decode cX6_cuts 0 = .ok (.iconst 0, 1) := by decide +kernel
theorem dX6_cuts_1 : decode cX6_cuts 1 = .ok (.istore_n 3, 1) := by decide +kernel
theorem dX6_cuts_2 : decode cX6_cuts 2 = .ok (.iload_n 3, 1) := by decide +kernel
theorem dX6_cuts_3 : decode cX6_cuts 3 = .ok (.aload_n 0, 1) := by decide +kernel
theorem dX6_cuts_4 : decode cX6_cuts 4 = .ok (.invokevirtual 199, 3) := by decide +kernel
theorem dX6_cuts_7 : decode cX6_cuts 7 = .ok (.if_icmp .ge 70, 3) := by decide +kernel
theorem dX6_cuts_77 : decode cX6_cuts 77 = .ok (.return_, 1) := by decide +kernel
theorem dX6_drift_0 : decode cX6_drift 0 = .ok (.aload_n 0, 1) := by decide +kernel
theorem dX6_drift_1 : decode cX6_drift 1 = .ok (.iconst 0, 1) := by decide +kernel
theorem dX6_drift_2 : decode cX6_drift 2 = .ok (.putfield 64, 3) := by decide +kernel
theorem dX6_drift_5 : decode cX6_drift 5 = .ok (.aload_n 0, 1) := by decide +kernel
theorem dX6_drift_6 : decode cX6_drift 6 = .ok (.getfield 7, 3) := by decide +kernel
theorem dX6_drift_9 : decode cX6_drift 9 = .ok (.iconst 3, 1) := by decide +kernel
theorem dX6_drift_10 : decode cX6_drift 10 = .ok (.laload, 1) := by decide +kernel
theorem dX6_drift_11 : decode cX6_drift 11 = .ok (.lreturn, 1) := by decide +kernel
theorem dX6_energy_0 : decode cX6_energy 0 = .ok (.aload_n 0, 1) := by decide +kernel
theorem dX6_energy_1 : decode cX6_energy 1 = .ok (.iconst 0, 1) := by decide +kernel
theorem dX6_energy_2 : decode cX6_energy 2 = .ok (.putfield 64, 3) := by decide +kernel
theorem dX6_energy_5 : decode cX6_energy 5 = .ok (.lconst 0, 1) := by decide +kernel
theorem dX6_energy_6 : decode cX6_energy 6 = .ok (.lstore_n 1, 1) := by decide +kernel
theorem dX6_energy_7 : decode cX6_energy 7 = .ok (.iconst 0, 1) := by decide +kernel
theorem dX6_energy_8 : decode cX6_energy 8 = .ok (.istore_n 3, 1) := by decide +kernel
theorem dX6_energy_9 : decode cX6_energy 9 = .ok (.iload_n 3, 1) := by decide +kernel
theorem dX6_energy_10 : decode cX6_energy 10 = .ok (.aload_n 0, 1) := by decide +kernel
theorem dX6_energy_11 : decode cX6_energy 11 = .ok (.invokevirtual 199, 3) := by decide +kernel
theorem dX6_energy_14 : decode cX6_energy 14 = .ok (.if_icmp .ge 32, 3) := by decide +kernel
theorem dX6_energy_46 : decode cX6_energy 46 = .ok (.lload_n 1, 1) := by decide +kernel
theorem dX6_energy_47 : decode cX6_energy 47 = .ok (.lreturn, 1) := by decide +kernel
theorem dX6_error_0 : decode cX6_error 0 = .ok (.aload_n 0, 1) := by decide +kernel
theorem dX6_error_1 : decode cX6_error 1 = .ok (.iload_n 1, 1) := by decide +kernel
theorem dX6_error_2 : decode cX6_error 2 = .ok (.i2l, 1) := by decide +kernel
theorem dX6_error_3 : decode cX6_error 3 = .ok (.lconst 0, 1) := by decide +kernel
theorem dX6_error_4 : decode cX6_error 4 = .ok (.ldc2_w 246, 3) := by decide +kernel
theorem dX6_error_7 : decode cX6_error 7 = .ok (.invokestatic 84, 3) := by decide +kernel
theorem dX6_error_10 : decode cX6_error 10 = .ok (.ifCond .eq 7, 3) := by decide +kernel
theorem dX6_error_13 : decode cX6_error 13 = .ok (.iconst 0, 1) := by decide +kernel
theorem dX6_error_14 : decode cX6_error 14 = .ok (.goto 4, 3) := by decide +kernel
theorem dX6_error_17 : decode cX6_error 17 = .ok (.iconst 1, 1) := by decide +kernel
theorem dX6_error_18 : decode cX6_error 18 = .ok (.putfield 64, 3) := by decide +kernel
theorem dX6_error_21 : decode cX6_error 21 = .ok (.aload_n 0, 1) := by decide +kernel
theorem dX6_error_22 : decode cX6_error 22 = .ok (.getfield 64, 3) := by decide +kernel
theorem dX6_error_25 : decode cX6_error 25 = .ok (.ifCond .le 5, 3) := by decide +kernel
theorem dX6_error_28 : decode cX6_error 28 = .ok (.lconst 0, 1) := by decide +kernel
theorem dX6_error_29 : decode cX6_error 29 = .ok (.lreturn, 1) := by decide +kernel
theorem dX6_error_30 : decode cX6_error 30 = .ok (.aload_n 0, 1) := by decide +kernel
theorem dX6_error_31 : decode cX6_error 31 = .ok (.invokevirtual 323, 3) := by decide +kernel
theorem dX6_error_34 : decode cX6_error 34 = .ok (.aload_n 0, 1) := by decide +kernel
theorem dX6_error_35 : decode cX6_error 35 = .ok (.iload_n 1, 1) := by decide +kernel
theorem dX6_error_36 : decode cX6_error 36 = .ok (.invokevirtual 326, 3) := by decide +kernel
theorem dX6_error_39 : decode cX6_error 39 = .ok (.lreturn, 1) := by decide +kernel
theorem dX6_errorBy_0 : decode cX6_errorBy 0 = .ok (.aload_n 0, 1) := by decide +kernel
theorem dX6_errorBy_1 : decode cX6_errorBy 1 = .ok (.invokevirtual 323, 3) := by decide +kernel
theorem dX6_errorBy_4 : decode cX6_errorBy 4 = .ok (.aload_n 0, 1) := by decide +kernel
theorem dX6_errorBy_5 : decode cX6_errorBy 5 = .ok (.iload_n 1, 1) := by decide +kernel
theorem dX6_errorBy_6 : decode cX6_errorBy 6 = .ok (.iload_n 2, 1) := by decide +kernel
theorem dX6_errorBy_7 : decode cX6_errorBy 7 = .ok (.invokevirtual 316, 3) := by decide +kernel
theorem dX6_errorBy_10 : decode cX6_errorBy 10 = .ok (.aload_n 0, 1) := by decide +kernel
theorem dX6_errorBy_11 : decode cX6_errorBy 11 = .ok (.iconst 0, 1) := by decide +kernel
theorem dX6_errorBy_12 : decode cX6_errorBy 12 = .ok (.invokevirtual 326, 3) := by decide +kernel
theorem dX6_errorBy_15 : decode cX6_errorBy 15 = .ok (.lreturn, 1) := by decide +kernel
theorem dX6_errorCode_0 : decode cX6_errorCode 0 = .ok (.aload_n 0, 1) := by decide +kernel
theorem dX6_errorCode_1 : decode cX6_errorCode 1 = .ok (.iconst 0, 1) := by decide +kernel
theorem dX6_errorCode_2 : decode cX6_errorCode 2 = .ok (.putfield 64, 3) := by decide +kernel
theorem dX6_errorCode_5 : decode cX6_errorCode 5 = .ok (.aload_n 0, 1) := by decide +kernel
theorem dX6_errorCode_6 : decode cX6_errorCode 6 = .ok (.getfield 95, 3) := by decide +kernel
theorem dX6_errorCode_9 : decode cX6_errorCode 9 = .ok (.ireturn, 1) := by decide +kernel
theorem dX6_errorOf_0 : decode cX6_errorOf 0 = .ok (.aload_n 0, 1) := by decide +kernel
theorem dX6_errorOf_1 : decode cX6_errorOf 1 = .ok (.invokevirtual 199, 3) := by decide +kernel
theorem dX6_errorOf_4 : decode cX6_errorOf 4 = .ok (.ifCond .le 10, 3) := by decide +kernel
theorem dX6_errorOf_14 : decode cX6_errorOf 14 = .ok (.lconst 0, 1) := by decide +kernel
theorem dX6_errorOf_15 : decode cX6_errorOf 15 = .ok (.lstore_n 2, 1) := by decide +kernel
theorem dX6_errorOf_16 : decode cX6_errorOf 16 = .ok (.iconst 0, 1) := by decide +kernel
theorem dX6_errorOf_17 : decode cX6_errorOf 17 = .ok (.istore 4, 2) := by decide +kernel
theorem dX6_errorOf_19 : decode cX6_errorOf 19 = .ok (.iload 4, 2) := by decide +kernel
theorem dX6_errorOf_21 : decode cX6_errorOf 21 = .ok (.aload_n 0, 1) := by decide +kernel
theorem dX6_errorOf_22 : decode cX6_errorOf 22 = .ok (.getfield 185, 3) := by decide +kernel
theorem dX6_errorOf_25 : decode cX6_errorOf 25 = .ok (.if_icmp .ge 79, 3) := by decide +kernel
theorem dX6_errorOf_28 : decode cX6_errorOf 28 = .ok (.aload_n 0, 1) := by decide +kernel
theorem dX6_errorOf_29 : decode cX6_errorOf 29 = .ok (.getfield 7, 3) := by decide +kernel
theorem dX6_errorOf_32 : decode cX6_errorOf 32 = .ok (.iconst 5, 1) := by decide +kernel
theorem dX6_errorOf_33 : decode cX6_errorOf 33 = .ok (.iload 4, 2) := by decide +kernel
theorem dX6_errorOf_35 : decode cX6_errorOf 35 = .ok (.iadd, 1) := by decide +kernel
theorem dX6_errorOf_36 : decode cX6_errorOf 36 = .ok (.laload, 1) := by decide +kernel
theorem dX6_errorOf_37 : decode cX6_errorOf 37 = .ok (.aload_n 0, 1) := by decide +kernel
theorem dX6_errorOf_38 : decode cX6_errorOf 38 = .ok (.getfield 27, 3) := by decide +kernel
theorem dX6_errorOf_41 : decode cX6_errorOf 41 = .ok (.iload 4, 2) := by decide +kernel
theorem dX6_errorOf_43 : decode cX6_errorOf 43 = .ok (.iaload, 1) := by decide +kernel
theorem dX6_errorOf_44 : decode cX6_errorOf 44 = .ok (.i2l, 1) := by decide +kernel
theorem dX6_errorOf_45 : decode cX6_errorOf 45 = .ok (.lsub, 1) := by decide +kernel
theorem dX6_errorOf_46 : decode cX6_errorOf 46 = .ok (.invokestatic 239, 3) := by decide +kernel
theorem dX6_errorOf_49 : decode cX6_errorOf 49 = .ok (.lstore 5, 2) := by decide +kernel
theorem dX6_errorOf_51 : decode cX6_errorOf 51 = .ok (.iload_n 1, 1) := by decide +kernel
theorem dX6_errorOf_52 : decode cX6_errorOf 52 = .ok (.ifCond .ne 19, 3) := by decide +kernel
theorem dX6_errorOf_55 : decode cX6_errorOf 55 = .ok (.lload 5, 2) := by decide +kernel
theorem dX6_errorOf_57 : decode cX6_errorOf 57 = .ok (.lload_n 2, 1) := by decide +kernel
theorem dX6_errorOf_58 : decode cX6_errorOf 58 = .ok (.lcmp, 1) := by decide +kernel
theorem dX6_errorOf_59 : decode cX6_errorOf 59 = .ok (.ifCond .le 8, 3) := by decide +kernel
theorem dX6_errorOf_67 : decode cX6_errorOf 67 = .ok (.lload_n 2, 1) := by decide +kernel
theorem dX6_errorOf_68 : decode cX6_errorOf 68 = .ok (.goto 29, 3) := by decide +kernel
theorem dX6_errorOf_71 : decode cX6_errorOf 71 = .ok (.iload_n 1, 1) := by decide +kernel
theorem dX6_errorOf_72 : decode cX6_errorOf 72 = .ok (.iconst 1, 1) := by decide +kernel
theorem dX6_errorOf_73 : decode cX6_errorOf 73 = .ok (.if_icmp .ne 10, 3) := by decide +kernel
theorem dX6_errorOf_76 : decode cX6_errorOf 76 = .ok (.lload_n 2, 1) := by decide +kernel
theorem dX6_errorOf_77 : decode cX6_errorOf 77 = .ok (.lload 5, 2) := by decide +kernel
theorem dX6_errorOf_79 : decode cX6_errorOf 79 = .ok (.ladd, 1) := by decide +kernel
theorem dX6_errorOf_80 : decode cX6_errorOf 80 = .ok (.goto 17, 3) := by decide +kernel
theorem dX6_errorOf_83 : decode cX6_errorOf 83 = .ok (.lload 5, 2) := by decide +kernel
theorem dX6_errorOf_85 : decode cX6_errorOf 85 = .ok (.lconst 0, 1) := by decide +kernel
theorem dX6_errorOf_86 : decode cX6_errorOf 86 = .ok (.lcmp, 1) := by decide +kernel
theorem dX6_errorOf_87 : decode cX6_errorOf 87 = .ok (.ifCond .le 9, 3) := by decide +kernel
theorem dX6_errorOf_96 : decode cX6_errorOf 96 = .ok (.lload_n 2, 1) := by decide +kernel
theorem dX6_errorOf_97 : decode cX6_errorOf 97 = .ok (.lstore_n 2, 1) := by decide +kernel
theorem dX6_errorOf_98 : decode cX6_errorOf 98 = .ok (.iinc 4 1, 3) := by decide +kernel
theorem dX6_errorOf_101 : decode cX6_errorOf 101 = .ok (.goto (-82), 3) := by decide +kernel
theorem dX6_errorOf_104 : decode cX6_errorOf 104 = .ok (.aload_n 0, 1) := by decide +kernel
theorem dX6_errorOf_105 : decode cX6_errorOf 105 = .ok (.invokevirtual 320, 3) := by decide +kernel
theorem dX6_errorOf_108 : decode cX6_errorOf 108 = .ok (.lload_n 2, 1) := by decide +kernel
theorem dX6_errorOf_109 : decode cX6_errorOf 109 = .ok (.lreturn, 1) := by decide +kernel
theorem dX6_errorPosition_0 : decode cX6_errorPosition 0 = .ok (.aload_n 0, 1) := by decide +kernel
theorem dX6_errorPosition_1 : decode cX6_errorPosition 1 = .ok (.iconst 0, 1) := by decide +kernel
theorem dX6_errorPosition_2 : decode cX6_errorPosition 2 = .ok (.putfield 64, 3) := by decide +kernel
theorem dX6_errorPosition_5 : decode cX6_errorPosition 5 = .ok (.aload_n 0, 1) := by decide +kernel
theorem dX6_errorPosition_6 : decode cX6_errorPosition 6 = .ok (.getfield 37, 3) := by decide +kernel
theorem dX6_errorPosition_9 : decode cX6_errorPosition 9 = .ok (.ireturn, 1) := by decide +kernel
theorem dX6_errorWith_0 : decode cX6_errorWith 0 = .ok (.aload_n 0, 1) := by decide +kernel
theorem dX6_errorWith_1 : decode cX6_errorWith 1 = .ok (.iload_n 1, 1) := by decide +kernel
theorem dX6_errorWith_2 : decode cX6_errorWith 2 = .ok (.i2l, 1) := by decide +kernel
theorem dX6_errorWith_3 : decode cX6_errorWith 3 = .ok (.lconst 0, 1) := by decide +kernel
theorem dX6_errorWith_4 : decode cX6_errorWith 4 = .ok (.ldc2_w 292, 3) := by decide +kernel
theorem dX6_errorWith_7 : decode cX6_errorWith 7 = .ok (.invokestatic 84, 3) := by decide +kernel
theorem dX6_errorWith_10 : decode cX6_errorWith 10 = .ok (.ifCond .eq 7, 3) := by decide +kernel
theorem dX6_errorWith_13 : decode cX6_errorWith 13 = .ok (.iconst 0, 1) := by decide +kernel
theorem dX6_errorWith_14 : decode cX6_errorWith 14 = .ok (.goto 4, 3) := by decide +kernel
theorem dX6_errorWith_17 : decode cX6_errorWith 17 = .ok (.iconst 1, 1) := by decide +kernel
theorem dX6_errorWith_18 : decode cX6_errorWith 18 = .ok (.putfield 64, 3) := by decide +kernel
theorem dX6_errorWith_21 : decode cX6_errorWith 21 = .ok (.aload_n 0, 1) := by decide +kernel
theorem dX6_errorWith_22 : decode cX6_errorWith 22 = .ok (.getfield 64, 3) := by decide +kernel
theorem dX6_errorWith_25 : decode cX6_errorWith 25 = .ok (.ifCond .le 7, 3) := by decide +kernel
theorem dX6_errorWith_28 : decode cX6_errorWith 28 = .ok (.lconst 0, 1) := by decide +kernel
theorem dX6_errorWith_29 : decode cX6_errorWith 29 = .ok (.goto 9, 3) := by decide +kernel
theorem dX6_errorWith_32 : decode cX6_errorWith 32 = .ok (.aload_n 0, 1) := by decide +kernel
theorem dX6_errorWith_33 : decode cX6_errorWith 33 = .ok (.iload_n 1, 1) := by decide +kernel
theorem dX6_errorWith_34 : decode cX6_errorWith 34 = .ok (.iload_n 2, 1) := by decide +kernel
theorem dX6_errorWith_35 : decode cX6_errorWith 35 = .ok (.invokevirtual 329, 3) := by decide +kernel
theorem dX6_errorWith_38 : decode cX6_errorWith 38 = .ok (.lreturn, 1) := by decide +kernel
theorem dX6_fails_0 : decode cX6_fails 0 = .ok (.aload_n 0, 1) := by decide +kernel
theorem dX6_fails_1 : decode cX6_fails 1 = .ok (.iload_n 1, 1) := by decide +kernel
theorem dX6_fails_2 : decode cX6_fails 2 = .ok (.putfield 64, 3) := by decide +kernel
theorem dX6_fails_5 : decode cX6_fails 5 = .ok (.iconst 0, 1) := by decide +kernel
theorem dX6_fails_6 : decode cX6_fails 6 = .ok (.ireturn, 1) := by decide +kernel
theorem dX6_floor_0 : decode cX6_floor 0 = .ok (.lload_n 0, 1) := by decide +kernel
theorem dX6_floor_1 : decode cX6_floor 1 = .ok (.lload_n 2, 1) := by decide +kernel
theorem dX6_floor_2 : decode cX6_floor 2 = .ok (.ldiv, 1) := by decide +kernel
theorem dX6_floor_3 : decode cX6_floor 3 = .ok (.lstore 4, 2) := by decide +kernel
theorem dX6_floor_5 : decode cX6_floor 5 = .ok (.lload_n 0, 1) := by decide +kernel
theorem dX6_floor_6 : decode cX6_floor 6 = .ok (.lload_n 2, 1) := by decide +kernel
theorem dX6_floor_7 : decode cX6_floor 7 = .ok (.lrem, 1) := by decide +kernel
theorem dX6_floor_8 : decode cX6_floor 8 = .ok (.lconst 0, 1) := by decide +kernel
theorem dX6_floor_9 : decode cX6_floor 9 = .ok (.lcmp, 1) := by decide +kernel
theorem dX6_floor_10 : decode cX6_floor 10 = .ok (.ifCond .ge 10, 3) := by decide +kernel
theorem dX6_floor_20 : decode cX6_floor 20 = .ok (.lload 4, 2) := by decide +kernel
theorem dX6_floor_22 : decode cX6_floor 22 = .ok (.lreturn, 1) := by decide +kernel
theorem dX6_forward_0 : decode cX6_forward 0 = .ok (.aload_n 0, 1) := by decide +kernel
theorem dX6_forward_1 : decode cX6_forward 1 = .ok (.iload_n 1, 1) := by decide +kernel
theorem dX6_forward_2 : decode cX6_forward 2 = .ok (.i2l, 1) := by decide +kernel
theorem dX6_forward_3 : decode cX6_forward 3 = .ok (.lconst 1, 1) := by decide +kernel
theorem dX6_forward_4 : decode cX6_forward 4 = .ok (.ldc2_w 304, 3) := by decide +kernel
theorem dX6_forward_7 : decode cX6_forward 7 = .ok (.invokestatic 84, 3) := by decide +kernel
theorem dX6_forward_10 : decode cX6_forward 10 = .ok (.ifCond .eq 7, 3) := by decide +kernel
theorem dX6_forward_13 : decode cX6_forward 13 = .ok (.iconst 0, 1) := by decide +kernel
theorem dX6_forward_14 : decode cX6_forward 14 = .ok (.goto 4, 3) := by decide +kernel
theorem dX6_forward_17 : decode cX6_forward 17 = .ok (.iconst 1, 1) := by decide +kernel
theorem dX6_forward_18 : decode cX6_forward 18 = .ok (.putfield 64, 3) := by decide +kernel
theorem dX6_forward_21 : decode cX6_forward 21 = .ok (.aload_n 0, 1) := by decide +kernel
theorem dX6_forward_22 : decode cX6_forward 22 = .ok (.getfield 64, 3) := by decide +kernel
theorem dX6_forward_25 : decode cX6_forward 25 = .ok (.ifCond .le 5, 3) := by decide +kernel
theorem dX6_forward_28 : decode cX6_forward 28 = .ok (.iconst 0, 1) := by decide +kernel
theorem dX6_forward_29 : decode cX6_forward 29 = .ok (.ireturn, 1) := by decide +kernel
theorem dX6_forward_30 : decode cX6_forward 30 = .ok (.aload_n 0, 1) := by decide +kernel
theorem dX6_forward_31 : decode cX6_forward 31 = .ok (.invokevirtual 283, 3) := by decide +kernel
theorem dX6_forward_34 : decode cX6_forward 34 = .ok (.iconst (-1), 1) := by decide +kernel
theorem dX6_forward_35 : decode cX6_forward 35 = .ok (.if_icmp .ne 14, 3) := by decide +kernel
theorem dX6_forward_38 : decode cX6_forward 38 = .ok (.aload_n 0, 1) := by decide +kernel
theorem dX6_forward_39 : decode cX6_forward 39 = .ok (.iconst 2, 1) := by decide +kernel
theorem dX6_forward_40 : decode cX6_forward 40 = .ok (.iconst 1, 1) := by decide +kernel
theorem dX6_forward_41 : decode cX6_forward 41 = .ok (.iconst 0, 1) := by decide +kernel
theorem dX6_forward_42 : decode cX6_forward 42 = .ok (.iconst (-1), 1) := by decide +kernel
theorem dX6_forward_43 : decode cX6_forward 43 = .ok (.invokevirtual 294, 3) := by decide +kernel
theorem dX6_forward_46 : decode cX6_forward 46 = .ok (.goto 8, 3) := by decide +kernel
theorem dX6_forward_54 : decode cX6_forward 54 = .ok (.ireturn, 1) := by decide +kernel
theorem dX6_four_0 : decode cX6_four 0 = .ok (.bipush 24, 2) := by decide +kernel
theorem dX6_four_2 : decode cX6_four 2 = .ok (.istore_n 2, 1) := by decide +kernel
theorem dX6_four_3 : decode cX6_four 3 = .ok (.iload_n 2, 1) := by decide +kernel
theorem dX6_four_4 : decode cX6_four 4 = .ok (.ifCond .lt 35, 3) := by decide +kernel
theorem dX6_four_7 : decode cX6_four 7 = .ok (.aload_n 0, 1) := by decide +kernel
theorem dX6_four_8 : decode cX6_four 8 = .ok (.getfield 34, 3) := by decide +kernel
theorem dX6_four_11 : decode cX6_four 11 = .ok (.aload_n 0, 1) := by decide +kernel
theorem dX6_four_12 : decode cX6_four 12 = .ok (.getfield 77, 3) := by decide +kernel
theorem dX6_four_15 : decode cX6_four 15 = .ok (.iload_n 1, 1) := by decide +kernel
theorem dX6_four_16 : decode cX6_four 16 = .ok (.iload_n 2, 1) := by decide +kernel
theorem dX6_four_17 : decode cX6_four 17 = .ok (.ishr, 1) := by decide +kernel
theorem dX6_four_18 : decode cX6_four 18 = .ok (.sipush 255, 3) := by decide +kernel
theorem dX6_four_21 : decode cX6_four 21 = .ok (.iand, 1) := by decide +kernel
theorem dX6_four_22 : decode cX6_four 22 = .ok (.iastore, 1) := by decide +kernel
theorem dX6_four_23 : decode cX6_four 23 = .ok (.aload_n 0, 1) := by decide +kernel
theorem dX6_four_24 : decode cX6_four 24 = .ok (.dup, 1) := by decide +kernel
theorem dX6_four_25 : decode cX6_four 25 = .ok (.getfield 77, 3) := by decide +kernel
theorem dX6_four_28 : decode cX6_four 28 = .ok (.iconst 1, 1) := by decide +kernel
theorem dX6_four_29 : decode cX6_four 29 = .ok (.iadd, 1) := by decide +kernel
theorem dX6_four_30 : decode cX6_four 30 = .ok (.putfield 77, 3) := by decide +kernel
theorem dX6_four_33 : decode cX6_four 33 = .ok (.iinc 2 (-8), 3) := by decide +kernel
theorem dX6_four_36 : decode cX6_four 36 = .ok (.goto (-33), 3) := by decide +kernel
theorem dX6_four_39 : decode cX6_four 39 = .ok (.return_, 1) := by decide +kernel
theorem dX6_goesOn_0 : decode cX6_goesOn 0 = .ok (.iconst 0, 1) := by decide +kernel
theorem dX6_goesOn_1 : decode cX6_goesOn 1 = .ok (.istore_n 2, 1) := by decide +kernel
theorem dX6_goesOn_2 : decode cX6_goesOn 2 = .ok (.aload_n 0, 1) := by decide +kernel
theorem dX6_goesOn_3 : decode cX6_goesOn 3 = .ok (.invokevirtual 283, 3) := by decide +kernel
theorem dX6_goesOn_6 : decode cX6_goesOn 6 = .ok (.istore_n 3, 1) := by decide +kernel
theorem dX6_goesOn_7 : decode cX6_goesOn 7 = .ok (.iload_n 2, 1) := by decide +kernel
theorem dX6_goesOn_8 : decode cX6_goesOn 8 = .ok (.iload_n 1, 1) := by decide +kernel
theorem dX6_goesOn_9 : decode cX6_goesOn 9 = .ok (.if_icmp .ge 24, 3) := by decide +kernel
theorem dX6_goesOn_12 : decode cX6_goesOn 12 = .ok (.iload_n 3, 1) := by decide +kernel
theorem dX6_goesOn_13 : decode cX6_goesOn 13 = .ok (.iconst (-1), 1) := by decide +kernel
theorem dX6_goesOn_14 : decode cX6_goesOn 14 = .ok (.if_icmp .eq 19, 3) := by decide +kernel
theorem dX6_goesOn_33 : decode cX6_goesOn 33 = .ok (.iload_n 2, 1) := by decide +kernel
theorem dX6_goesOn_34 : decode cX6_goesOn 34 = .ok (.ireturn, 1) := by decide +kernel
theorem dX6_here_0 : decode cX6_here 0 = .ok (.aload_n 0, 1) := by decide +kernel
theorem dX6_here_1 : decode cX6_here 1 = .ok (.getfield 88, 3) := by decide +kernel
theorem dX6_here_4 : decode cX6_here 4 = .ok (.aload_n 0, 1) := by decide +kernel
theorem dX6_here_5 : decode cX6_here 5 = .ok (.getfield 77, 3) := by decide +kernel
theorem dX6_here_8 : decode cX6_here 8 = .ok (.if_icmp .ge 44, 3) := by decide +kernel
theorem dX6_here_52 : decode cX6_here 52 = .ok (.aload_n 0, 1) := by decide +kernel
theorem dX6_here_53 : decode cX6_here 53 = .ok (.getfield 88, 3) := by decide +kernel
theorem dX6_here_56 : decode cX6_here 56 = .ok (.aload_n 0, 1) := by decide +kernel
theorem dX6_here_57 : decode cX6_here 57 = .ok (.getfield 77, 3) := by decide +kernel
theorem dX6_here_60 : decode cX6_here 60 = .ok (.if_icmp .ge 15, 3) := by decide +kernel
theorem dX6_here_75 : decode cX6_here 75 = .ok (.iconst (-1), 1) := by decide +kernel
theorem dX6_here_76 : decode cX6_here 76 = .ok (.ireturn, 1) := by decide +kernel
theorem dX6_in_0 : decode cX6_in 0 = .ok (.lload_n 0, 1) := by decide +kernel
theorem dX6_in_1 : decode cX6_in 1 = .ok (.lload_n 2, 1) := by decide +kernel
theorem dX6_in_2 : decode cX6_in 2 = .ok (.lcmp, 1) := by decide +kernel
theorem dX6_in_3 : decode cX6_in 3 = .ok (.ifCond .lt 14, 3) := by decide +kernel
theorem dX6_in_6 : decode cX6_in 6 = .ok (.lload_n 0, 1) := by decide +kernel
theorem dX6_in_7 : decode cX6_in 7 = .ok (.lload 4, 2) := by decide +kernel
theorem dX6_in_9 : decode cX6_in 9 = .ok (.lcmp, 1) := by decide +kernel
theorem dX6_in_10 : decode cX6_in 10 = .ok (.ifCond .gt 7, 3) := by decide +kernel
theorem dX6_in_13 : decode cX6_in 13 = .ok (.iconst 1, 1) := by decide +kernel
theorem dX6_in_14 : decode cX6_in 14 = .ok (.goto 4, 3) := by decide +kernel
theorem dX6_in_17 : decode cX6_in 17 = .ok (.iconst 0, 1) := by decide +kernel
theorem dX6_in_18 : decode cX6_in 18 = .ok (.ireturn, 1) := by decide +kernel
theorem dX6_integral_0 : decode cX6_integral 0 = .ok (.aload_n 0, 1) := by decide +kernel
theorem dX6_integral_1 : decode cX6_integral 1 = .ok (.iconst 0, 1) := by decide +kernel
theorem dX6_integral_2 : decode cX6_integral 2 = .ok (.putfield 64, 3) := by decide +kernel
theorem dX6_integral_5 : decode cX6_integral 5 = .ok (.aload_n 0, 1) := by decide +kernel
theorem dX6_integral_6 : decode cX6_integral 6 = .ok (.invokevirtual 236, 3) := by decide +kernel
theorem dX6_integral_9 : decode cX6_integral 9 = .ok (.lreturn, 1) := by decide +kernel
theorem dX6_inverse_0 : decode cX6_inverse 0 = .ok (.aload_n 0, 1) := by decide +kernel
theorem dX6_inverse_1 : decode cX6_inverse 1 = .ok (.iload_n 1, 1) := by decide +kernel
theorem dX6_inverse_2 : decode cX6_inverse 2 = .ok (.i2l, 1) := by decide +kernel
theorem dX6_inverse_3 : decode cX6_inverse 3 = .ok (.lconst 1, 1) := by decide +kernel
theorem dX6_inverse_4 : decode cX6_inverse 4 = .ok (.ldc2_w 304, 3) := by decide +kernel
theorem dX6_inverse_7 : decode cX6_inverse 7 = .ok (.invokestatic 84, 3) := by decide +kernel
theorem dX6_inverse_10 : decode cX6_inverse 10 = .ok (.ifCond .eq 7, 3) := by decide +kernel
theorem dX6_inverse_13 : decode cX6_inverse 13 = .ok (.iconst 0, 1) := by decide +kernel
theorem dX6_inverse_14 : decode cX6_inverse 14 = .ok (.goto 4, 3) := by decide +kernel
theorem dX6_inverse_17 : decode cX6_inverse 17 = .ok (.iconst 1, 1) := by decide +kernel
theorem dX6_inverse_18 : decode cX6_inverse 18 = .ok (.putfield 64, 3) := by decide +kernel
theorem dX6_inverse_21 : decode cX6_inverse 21 = .ok (.aload_n 0, 1) := by decide +kernel
theorem dX6_inverse_22 : decode cX6_inverse 22 = .ok (.getfield 64, 3) := by decide +kernel
theorem dX6_inverse_25 : decode cX6_inverse 25 = .ok (.ifCond .le 5, 3) := by decide +kernel
theorem dX6_inverse_28 : decode cX6_inverse 28 = .ok (.iconst 0, 1) := by decide +kernel
theorem dX6_inverse_29 : decode cX6_inverse 29 = .ok (.ireturn, 1) := by decide +kernel
theorem dX6_inverse_30 : decode cX6_inverse 30 = .ok (.aload_n 0, 1) := by decide +kernel
theorem dX6_inverse_31 : decode cX6_inverse 31 = .ok (.invokevirtual 199, 3) := by decide +kernel
theorem dX6_inverse_34 : decode cX6_inverse 34 = .ok (.ifCond .ne 12, 3) := by decide +kernel
theorem dX6_inverse_37 : decode cX6_inverse 37 = .ok (.aload_n 0, 1) := by decide +kernel
theorem dX6_inverse_38 : decode cX6_inverse 38 = .ok (.iconst 2, 1) := by decide +kernel
theorem dX6_inverse_39 : decode cX6_inverse 39 = .ok (.iconst 2, 1) := by decide +kernel
theorem dX6_inverse_40 : decode cX6_inverse 40 = .ok (.iconst 0, 1) := by decide +kernel
theorem dX6_inverse_41 : decode cX6_inverse 41 = .ok (.iconst (-1), 1) := by decide +kernel
theorem dX6_inverse_42 : decode cX6_inverse 42 = .ok (.invokevirtual 294, 3) := by decide +kernel
theorem dX6_inverse_45 : decode cX6_inverse 45 = .ok (.ireturn, 1) := by decide +kernel
theorem dX6_isInner_0 : decode cX6_isInner 0 = .ok (.iload_n 1, 1) := by decide +kernel
theorem dX6_isInner_1 : decode cX6_isInner 1 = .ok (.ifCond .le 25, 3) := by decide +kernel
theorem dX6_isInner_4 : decode cX6_isInner 4 = .ok (.iload_n 1, 1) := by decide +kernel
theorem dX6_isInner_5 : decode cX6_isInner 5 = .ok (.aload_n 0, 1) := by decide +kernel
theorem dX6_isInner_6 : decode cX6_isInner 6 = .ok (.getfield 185, 3) := by decide +kernel
theorem dX6_isInner_9 : decode cX6_isInner 9 = .ok (.iconst 1, 1) := by decide +kernel
theorem dX6_isInner_10 : decode cX6_isInner 10 = .ok (.isub, 1) := by decide +kernel
theorem dX6_isInner_11 : decode cX6_isInner 11 = .ok (.if_icmp .ge 15, 3) := by decide +kernel
theorem dX6_isInner_26 : decode cX6_isInner 26 = .ok (.iconst 0, 1) := by decide +kernel
theorem dX6_isInner_27 : decode cX6_isInner 27 = .ok (.ireturn, 1) := by decide +kernel
theorem dX6_isPresent_0 : decode cX6_isPresent 0 = .ok (.aload_n 0, 1) := by decide +kernel
theorem dX6_isPresent_1 : decode cX6_isPresent 1 = .ok (.getfield 7, 3) := by decide +kernel
theorem dX6_isPresent_4 : decode cX6_isPresent 4 = .ok (.bipush 101, 2) := by decide +kernel
theorem dX6_isPresent_6 : decode cX6_isPresent 6 = .ok (.iload_n 1, 1) := by decide +kernel
theorem dX6_isPresent_7 : decode cX6_isPresent 7 = .ok (.iadd, 1) := by decide +kernel
theorem dX6_isPresent_8 : decode cX6_isPresent 8 = .ok (.laload, 1) := by decide +kernel
theorem dX6_isPresent_9 : decode cX6_isPresent 9 = .ok (.ldc2_w 197, 3) := by decide +kernel
theorem dX6_isPresent_12 : decode cX6_isPresent 12 = .ok (.lcmp, 1) := by decide +kernel
theorem dX6_isPresent_13 : decode cX6_isPresent 13 = .ok (.ifCond .ne 7, 3) := by decide +kernel
theorem dX6_isPresent_16 : decode cX6_isPresent 16 = .ok (.iconst 1, 1) := by decide +kernel
theorem dX6_isPresent_17 : decode cX6_isPresent 17 = .ok (.goto 4, 3) := by decide +kernel
theorem dX6_isPresent_21 : decode cX6_isPresent 21 = .ok (.ireturn, 1) := by decide +kernel
theorem dX6_isSample_0 : decode cX6_isSample 0 = .ok (.iload_n 1, 1) := by decide +kernel
theorem dX6_isSample_1 : decode cX6_isSample 1 = .ok (.i2l, 1) := by decide +kernel
theorem dX6_isSample_2 : decode cX6_isSample 2 = .ok (.lconst 0, 1) := by decide +kernel
theorem dX6_isSample_3 : decode cX6_isSample 3 = .ok (.aload_n 0, 1) := by decide +kernel
theorem dX6_isSample_4 : decode cX6_isSample 4 = .ok (.getfield 185, 3) := by decide +kernel
theorem dX6_isSample_7 : decode cX6_isSample 7 = .ok (.iconst 1, 1) := by decide +kernel
theorem dX6_isSample_8 : decode cX6_isSample 8 = .ok (.isub, 1) := by decide +kernel
theorem dX6_isSample_9 : decode cX6_isSample 9 = .ok (.i2l, 1) := by decide +kernel
theorem dX6_isSample_10 : decode cX6_isSample 10 = .ok (.invokestatic 84, 3) := by decide +kernel
theorem dX6_isSample_13 : decode cX6_isSample 13 = .ok (.ireturn, 1) := by decide +kernel
theorem dX6_isStep_0 : decode cX6_isStep 0 = .ok (.iload_n 1, 1) := by decide +kernel
theorem dX6_isStep_1 : decode cX6_isStep 1 = .ok (.i2l, 1) := by decide +kernel
theorem dX6_isStep_2 : decode cX6_isStep 2 = .ok (.lconst 0, 1) := by decide +kernel
theorem dX6_isStep_3 : decode cX6_isStep 3 = .ok (.aload_n 0, 1) := by decide +kernel
theorem dX6_isStep_4 : decode cX6_isStep 4 = .ok (.invokevirtual 199, 3) := by decide +kernel
theorem dX6_isStep_7 : decode cX6_isStep 7 = .ok (.iconst 1, 1) := by decide +kernel
theorem dX6_isStep_8 : decode cX6_isStep 8 = .ok (.isub, 1) := by decide +kernel
theorem dX6_isStep_9 : decode cX6_isStep 9 = .ok (.i2l, 1) := by decide +kernel
theorem dX6_isStep_10 : decode cX6_isStep 10 = .ok (.invokestatic 84, 3) := by decide +kernel
theorem dX6_isStep_13 : decode cX6_isStep 13 = .ok (.ireturn, 1) := by decide +kernel
theorem dX6_isWord_0 : decode cX6_isWord 0 = .ok (.aload_n 0, 1) := by decide +kernel
theorem dX6_isWord_1 : decode cX6_isWord 1 = .ok (.getfield 91, 3) := by decide +kernel
theorem dX6_isWord_4 : decode cX6_isWord 4 = .ok (.ifCond .ne 16, 3) := by decide +kernel
theorem dX6_isWord_7 : decode cX6_isWord 7 = .ok (.aload_n 0, 1) := by decide +kernel
theorem dX6_isWord_8 : decode cX6_isWord 8 = .ok (.invokevirtual 113, 3) := by decide +kernel
theorem dX6_isWord_11 : decode cX6_isWord 11 = .ok (.lload_n 1, 1) := by decide +kernel
theorem dX6_isWord_12 : decode cX6_isWord 12 = .ok (.lcmp, 1) := by decide +kernel
theorem dX6_isWord_13 : decode cX6_isWord 13 = .ok (.ifCond .ne 7, 3) := by decide +kernel
theorem dX6_isWord_20 : decode cX6_isWord 20 = .ok (.iconst 0, 1) := by decide +kernel
theorem dX6_isWord_21 : decode cX6_isWord 21 = .ok (.ireturn, 1) := by decide +kernel
theorem dX6_keepLargest_0 : decode cX6_keepLargest 0 = .ok (.aload_n 0, 1) := by decide +kernel
theorem dX6_keepLargest_1 : decode cX6_keepLargest 1 = .ok (.iload_n 1, 1) := by decide +kernel
theorem dX6_keepLargest_2 : decode cX6_keepLargest 2 = .ok (.i2l, 1) := by decide +kernel
theorem dX6_keepLargest_3 : decode cX6_keepLargest 3 = .ok (.lconst 0, 1) := by decide +kernel
theorem dX6_keepLargest_4 : decode cX6_keepLargest 4 = .ok (.ldc2_w 304, 3) := by decide +kernel
theorem dX6_keepLargest_7 : decode cX6_keepLargest 7 = .ok (.invokestatic 84, 3) := by decide +kernel
theorem dX6_keepLargest_10 : decode cX6_keepLargest 10 = .ok (.ifCond .eq 7, 3) := by decide +kernel
theorem dX6_keepLargest_13 : decode cX6_keepLargest 13 = .ok (.iconst 0, 1) := by decide +kernel
theorem dX6_keepLargest_14 : decode cX6_keepLargest 14 = .ok (.goto 4, 3) := by decide +kernel
theorem dX6_keepLargest_17 : decode cX6_keepLargest 17 = .ok (.iconst 1, 1) := by decide +kernel
theorem dX6_keepLargest_18 : decode cX6_keepLargest 18 = .ok (.putfield 64, 3) := by decide +kernel
theorem dX6_keepLargest_21 : decode cX6_keepLargest 21 = .ok (.aload_n 0, 1) := by decide +kernel
theorem dX6_keepLargest_22 : decode cX6_keepLargest 22 = .ok (.getfield 64, 3) := by decide +kernel
theorem dX6_keepLargest_25 : decode cX6_keepLargest 25 = .ok (.ifCond .le 5, 3) := by decide +kernel
theorem dX6_keepLargest_28 : decode cX6_keepLargest 28 = .ok (.lconst 0, 1) := by decide +kernel
theorem dX6_keepLargest_29 : decode cX6_keepLargest 29 = .ok (.lreturn, 1) := by decide +kernel
theorem dX6_keepLargest_30 : decode cX6_keepLargest 30 = .ok (.iconst 0, 1) := by decide +kernel
theorem dX6_keepLargest_31 : decode cX6_keepLargest 31 = .ok (.istore_n 2, 1) := by decide +kernel
theorem dX6_keepLargest_32 : decode cX6_keepLargest 32 = .ok (.iconst 0, 1) := by decide +kernel
theorem dX6_keepLargest_33 : decode cX6_keepLargest 33 = .ok (.istore_n 3, 1) := by decide +kernel
theorem dX6_keepLargest_34 : decode cX6_keepLargest 34 = .ok (.iload_n 3, 1) := by decide +kernel
theorem dX6_keepLargest_35 : decode cX6_keepLargest 35 = .ok (.aload_n 0, 1) := by decide +kernel
theorem dX6_keepLargest_36 : decode cX6_keepLargest 36 = .ok (.invokevirtual 199, 3) := by decide +kernel
theorem dX6_keepLargest_39 : decode cX6_keepLargest 39 = .ok (.if_icmp .ge 39, 3) := by decide +kernel
theorem dX6_keepLargest_78 : decode cX6_keepLargest 78 = .ok (.lconst 0, 1) := by decide +kernel
theorem dX6_keepLargest_79 : decode cX6_keepLargest 79 = .ok (.lstore_n 3, 1) := by decide +kernel
theorem dX6_keepLargest_80 : decode cX6_keepLargest 80 = .ok (.iconst 0, 1) := by decide +kernel
theorem dX6_keepLargest_81 : decode cX6_keepLargest 81 = .ok (.istore 5, 2) := by decide +kernel
theorem dX6_keepLargest_83 : decode cX6_keepLargest 83 = .ok (.iload 5, 2) := by decide +kernel
theorem dX6_keepLargest_85 : decode cX6_keepLargest 85 = .ok (.aload_n 0, 1) := by decide +kernel
theorem dX6_keepLargest_86 : decode cX6_keepLargest 86 = .ok (.invokevirtual 199, 3) := by decide +kernel
theorem dX6_keepLargest_89 : decode cX6_keepLargest 89 = .ok (.if_icmp .ge 63, 3) := by decide +kernel
theorem dX6_keepLargest_152 : decode cX6_keepLargest 152 = .ok (.lload_n 3, 1) := by decide +kernel
theorem dX6_keepLargest_153 : decode cX6_keepLargest 153 = .ok (.lreturn, 1) := by decide +kernel
theorem dX6_largest_0 : decode cX6_largest 0 = .ok (.aload_n 0, 1) := by decide +kernel
theorem dX6_largest_1 : decode cX6_largest 1 = .ok (.aload_n 0, 1) := by decide +kernel
theorem dX6_largest_2 : decode cX6_largest 2 = .ok (.iload_n 1, 1) := by decide +kernel
theorem dX6_largest_3 : decode cX6_largest 3 = .ok (.invokevirtual 229, 3) := by decide +kernel
theorem dX6_largest_6 : decode cX6_largest 6 = .ok (.ifCond .eq 7, 3) := by decide +kernel
theorem dX6_largest_13 : decode cX6_largest 13 = .ok (.iconst 1, 1) := by decide +kernel
theorem dX6_largest_14 : decode cX6_largest 14 = .ok (.putfield 64, 3) := by decide +kernel
theorem dX6_largest_17 : decode cX6_largest 17 = .ok (.iconst 0, 1) := by decide +kernel
theorem dX6_largest_18 : decode cX6_largest 18 = .ok (.istore_n 2, 1) := by decide +kernel
theorem dX6_largest_19 : decode cX6_largest 19 = .ok (.aload_n 0, 1) := by decide +kernel
theorem dX6_largest_20 : decode cX6_largest 20 = .ok (.getfield 64, 3) := by decide +kernel
theorem dX6_largest_23 : decode cX6_largest 23 = .ok (.ifCond .ne 18, 3) := by decide +kernel
theorem dX6_largest_41 : decode cX6_largest 41 = .ok (.iload_n 2, 1) := by decide +kernel
theorem dX6_largest_42 : decode cX6_largest 42 = .ok (.ireturn, 1) := by decide +kernel
theorem dX6_lift_0 : decode cX6_lift 0 = .ok (.aload_n 0, 1) := by decide +kernel
theorem dX6_lift_1 : decode cX6_lift 1 = .ok (.aload_n 0, 1) := by decide +kernel
theorem dX6_lift_2 : decode cX6_lift 2 = .ok (.iload_n 1, 1) := by decide +kernel
theorem dX6_lift_3 : decode cX6_lift 3 = .ok (.invokevirtual 205, 3) := by decide +kernel
theorem dX6_lift_6 : decode cX6_lift 6 = .ok (.ifCond .eq 7, 3) := by decide +kernel
theorem dX6_lift_9 : decode cX6_lift 9 = .ok (.iconst 0, 1) := by decide +kernel
theorem dX6_lift_10 : decode cX6_lift 10 = .ok (.goto 4, 3) := by decide +kernel
theorem dX6_lift_13 : decode cX6_lift 13 = .ok (.iconst 1, 1) := by decide +kernel
theorem dX6_lift_14 : decode cX6_lift 14 = .ok (.putfield 64, 3) := by decide +kernel
theorem dX6_lift_17 : decode cX6_lift 17 = .ok (.aload_n 0, 1) := by decide +kernel
theorem dX6_lift_18 : decode cX6_lift 18 = .ok (.getfield 64, 3) := by decide +kernel
theorem dX6_lift_21 : decode cX6_lift 21 = .ok (.ifCond .le 5, 3) := by decide +kernel
theorem dX6_lift_24 : decode cX6_lift 24 = .ok (.lconst 0, 1) := by decide +kernel
theorem dX6_lift_25 : decode cX6_lift 25 = .ok (.lreturn, 1) := by decide +kernel
theorem dX6_lift_26 : decode cX6_lift 26 = .ok (.aload_n 0, 1) := by decide +kernel
theorem dX6_lift_27 : decode cX6_lift 27 = .ok (.iload_n 1, 1) := by decide +kernel
theorem dX6_lift_28 : decode cX6_lift 28 = .ok (.invokevirtual 277, 3) := by decide +kernel
theorem dX6_lift_31 : decode cX6_lift 31 = .ok (.ifCond .ne 25, 3) := by decide +kernel
theorem dX6_lift_34 : decode cX6_lift 34 = .ok (.aload_n 0, 1) := by decide +kernel
theorem dX6_lift_35 : decode cX6_lift 35 = .ok (.iconst 2, 1) := by decide +kernel
theorem dX6_lift_36 : decode cX6_lift 36 = .ok (.iconst 3, 1) := by decide +kernel
theorem dX6_lift_37 : decode cX6_lift 37 = .ok (.aload_n 0, 1) := by decide +kernel
theorem dX6_lift_38 : decode cX6_lift 38 = .ok (.iload_n 1, 1) := by decide +kernel
theorem dX6_lift_39 : decode cX6_lift 39 = .ok (.invokevirtual 202, 3) := by decide +kernel
theorem dX6_lift_42 : decode cX6_lift 42 = .ok (.ifCond .eq 7, 3) := by decide +kernel
theorem dX6_lift_45 : decode cX6_lift 45 = .ok (.iconst 5, 1) := by decide +kernel
theorem dX6_lift_46 : decode cX6_lift 46 = .ok (.goto 4, 3) := by decide +kernel
theorem dX6_lift_50 : decode cX6_lift 50 = .ok (.iload_n 1, 1) := by decide +kernel
theorem dX6_lift_51 : decode cX6_lift 51 = .ok (.invokevirtual 294, 3) := by decide +kernel
theorem dX6_lift_54 : decode cX6_lift 54 = .ok (.i2l, 1) := by decide +kernel
theorem dX6_lift_55 : decode cX6_lift 55 = .ok (.lreturn, 1) := by decide +kernel
theorem dX6_load_0 : decode cX6_load 0 = .ok (.aload_n 0, 1) := by decide +kernel
theorem dX6_load_1 : decode cX6_load 1 = .ok (.iconst 0, 1) := by decide +kernel
theorem dX6_load_2 : decode cX6_load 2 = .ok (.putfield 64, 3) := by decide +kernel
theorem dX6_load_5 : decode cX6_load 5 = .ok (.aload_n 0, 1) := by decide +kernel
theorem dX6_load_6 : decode cX6_load 6 = .ok (.iconst 0, 1) := by decide +kernel
theorem dX6_load_7 : decode cX6_load 7 = .ok (.putfield 95, 3) := by decide +kernel
theorem dX6_load_10 : decode cX6_load 10 = .ok (.aload_n 0, 1) := by decide +kernel
theorem dX6_load_11 : decode cX6_load 11 = .ok (.iconst (-1), 1) := by decide +kernel
theorem dX6_load_12 : decode cX6_load 12 = .ok (.putfield 37, 3) := by decide +kernel
theorem dX6_load_15 : decode cX6_load 15 = .ok (.aload_n 0, 1) := by decide +kernel
theorem dX6_load_16 : decode cX6_load 16 = .ok (.iconst 0, 1) := by decide +kernel
theorem dX6_load_17 : decode cX6_load 17 = .ok (.putfield 46, 3) := by decide +kernel
theorem dX6_load_20 : decode cX6_load 20 = .ok (.aload_n 0, 1) := by decide +kernel
theorem dX6_load_21 : decode cX6_load 21 = .ok (.iconst 2, 1) := by decide +kernel
theorem dX6_load_22 : decode cX6_load 22 = .ok (.putfield 49, 3) := by decide +kernel
theorem dX6_load_25 : decode cX6_load 25 = .ok (.aload_n 0, 1) := by decide +kernel
theorem dX6_load_26 : decode cX6_load 26 = .ok (.iconst 0, 1) := by decide +kernel
theorem dX6_load_27 : decode cX6_load 27 = .ok (.putfield 52, 3) := by decide +kernel
theorem dX6_load_30 : decode cX6_load 30 = .ok (.aload_n 0, 1) := by decide +kernel
theorem dX6_load_31 : decode cX6_load 31 = .ok (.iconst 2, 1) := by decide +kernel
theorem dX6_load_32 : decode cX6_load 32 = .ok (.putfield 55, 3) := by decide +kernel
theorem dX6_load_35 : decode cX6_load 35 = .ok (.aload_n 0, 1) := by decide +kernel
theorem dX6_load_36 : decode cX6_load 36 = .ok (.iconst 1, 1) := by decide +kernel
theorem dX6_load_37 : decode cX6_load 37 = .ok (.putfield 58, 3) := by decide +kernel
theorem dX6_load_40 : decode cX6_load 40 = .ok (.aload_n 0, 1) := by decide +kernel
theorem dX6_load_41 : decode cX6_load 41 = .ok (.iconst 0, 1) := by decide +kernel
theorem dX6_load_42 : decode cX6_load 42 = .ok (.putfield 135, 3) := by decide +kernel
theorem dX6_load_45 : decode cX6_load 45 = .ok (.aload_n 0, 1) := by decide +kernel
theorem dX6_load_46 : decode cX6_load 46 = .ok (.iconst 0, 1) := by decide +kernel
theorem dX6_load_47 : decode cX6_load 47 = .ok (.putfield 88, 3) := by decide +kernel
theorem dX6_load_50 : decode cX6_load 50 = .ok (.aload_n 0, 1) := by decide +kernel
theorem dX6_load_51 : decode cX6_load 51 = .ok (.iconst 0, 1) := by decide +kernel
theorem dX6_load_52 : decode cX6_load 52 = .ok (.putfield 91, 3) := by decide +kernel
theorem dX6_load_55 : decode cX6_load 55 = .ok (.aload_n 0, 1) := by decide +kernel
theorem dX6_load_56 : decode cX6_load 56 = .ok (.invokevirtual 194, 3) := by decide +kernel
theorem dX6_load_59 : decode cX6_load 59 = .ok (.aload_n 0, 1) := by decide +kernel
theorem dX6_load_60 : decode cX6_load 60 = .ok (.iconst 0, 1) := by decide +kernel
theorem dX6_load_61 : decode cX6_load 61 = .ok (.putfield 77, 3) := by decide +kernel
theorem dX6_load_64 : decode cX6_load 64 = .ok (.aload_n 0, 1) := by decide +kernel
theorem dX6_load_65 : decode cX6_load 65 = .ok (.getfield 91, 3) := by decide +kernel
theorem dX6_load_68 : decode cX6_load 68 = .ok (.ifCond .eq 9, 3) := by decide +kernel
theorem dX6_load_71 : decode cX6_load 71 = .ok (.aload_n 0, 1) := by decide +kernel
theorem dX6_load_72 : decode cX6_load 72 = .ok (.iconst 1, 1) := by decide +kernel
theorem dX6_load_73 : decode cX6_load 73 = .ok (.invokevirtual 73, 3) := by decide +kernel
theorem dX6_load_76 : decode cX6_load 76 = .ok (.ireturn, 1) := by decide +kernel
theorem dX6_mean_0 : decode cX6_mean 0 = .ok (.aload_n 0, 1) := by decide +kernel
theorem dX6_mean_1 : decode cX6_mean 1 = .ok (.iload_n 1, 1) := by decide +kernel
theorem dX6_mean_2 : decode cX6_mean 2 = .ok (.i2l, 1) := by decide +kernel
theorem dX6_mean_3 : decode cX6_mean 3 = .ok (.lconst 0, 1) := by decide +kernel
theorem dX6_mean_4 : decode cX6_mean 4 = .ok (.lconst 1, 1) := by decide +kernel
theorem dX6_mean_5 : decode cX6_mean 5 = .ok (.invokestatic 84, 3) := by decide +kernel
theorem dX6_mean_8 : decode cX6_mean 8 = .ok (.ifCond .eq 7, 3) := by decide +kernel
theorem dX6_mean_11 : decode cX6_mean 11 = .ok (.iconst 0, 1) := by decide +kernel
theorem dX6_mean_12 : decode cX6_mean 12 = .ok (.goto 4, 3) := by decide +kernel
theorem dX6_mean_15 : decode cX6_mean 15 = .ok (.iconst 1, 1) := by decide +kernel
theorem dX6_mean_16 : decode cX6_mean 16 = .ok (.putfield 64, 3) := by decide +kernel
theorem dX6_mean_19 : decode cX6_mean 19 = .ok (.aload_n 0, 1) := by decide +kernel
theorem dX6_mean_20 : decode cX6_mean 20 = .ok (.getfield 64, 3) := by decide +kernel
theorem dX6_mean_23 : decode cX6_mean 23 = .ok (.ifCond .le 5, 3) := by decide +kernel
theorem dX6_mean_26 : decode cX6_mean 26 = .ok (.lconst 0, 1) := by decide +kernel
theorem dX6_mean_27 : decode cX6_mean 27 = .ok (.lreturn, 1) := by decide +kernel
theorem dX6_mean_28 : decode cX6_mean 28 = .ok (.aload_n 0, 1) := by decide +kernel
theorem dX6_mean_29 : decode cX6_mean 29 = .ok (.invokevirtual 236, 3) := by decide +kernel
theorem dX6_mean_32 : decode cX6_mean 32 = .ok (.invokestatic 239, 3) := by decide +kernel
theorem dX6_mean_35 : decode cX6_mean 35 = .ok (.aload_n 0, 1) := by decide +kernel
theorem dX6_mean_36 : decode cX6_mean 36 = .ok (.invokevirtual 220, 3) := by decide +kernel
theorem dX6_mean_39 : decode cX6_mean 39 = .ok (.invokestatic 243, 3) := by decide +kernel
theorem dX6_mean_42 : decode cX6_mean 42 = .ok (.lstore_n 2, 1) := by decide +kernel
theorem dX6_mean_43 : decode cX6_mean 43 = .ok (.iload_n 1, 1) := by decide +kernel
theorem dX6_mean_44 : decode cX6_mean 44 = .ok (.ifCond .ne 10, 3) := by decide +kernel
theorem dX6_mean_47 : decode cX6_mean 47 = .ok (.aload_n 0, 1) := by decide +kernel
theorem dX6_mean_48 : decode cX6_mean 48 = .ok (.invokevirtual 236, 3) := by decide +kernel
theorem dX6_mean_51 : decode cX6_mean 51 = .ok (.goto 7, 3) := by decide +kernel
theorem dX6_mean_54 : decode cX6_mean 54 = .ok (.aload_n 0, 1) := by decide +kernel
theorem dX6_mean_55 : decode cX6_mean 55 = .ok (.invokevirtual 220, 3) := by decide +kernel
theorem dX6_mean_58 : decode cX6_mean 58 = .ok (.lload_n 2, 1) := by decide +kernel
theorem dX6_mean_59 : decode cX6_mean 59 = .ok (.ldiv, 1) := by decide +kernel
theorem dX6_mean_60 : decode cX6_mean 60 = .ok (.lreturn, 1) := by decide +kernel
theorem dX6_neighbour_0 : decode cX6_neighbour 0 = .ok (.aload_n 0, 1) := by decide +kernel
theorem dX6_neighbour_1 : decode cX6_neighbour 1 = .ok (.aload_n 0, 1) := by decide +kernel
theorem dX6_neighbour_2 : decode cX6_neighbour 2 = .ok (.iload_n 1, 1) := by decide +kernel
theorem dX6_neighbour_3 : decode cX6_neighbour 3 = .ok (.invokevirtual 205, 3) := by decide +kernel
theorem dX6_neighbour_6 : decode cX6_neighbour 6 = .ok (.ifCond .eq 7, 3) := by decide +kernel
theorem dX6_neighbour_9 : decode cX6_neighbour 9 = .ok (.iconst 0, 1) := by decide +kernel
theorem dX6_neighbour_10 : decode cX6_neighbour 10 = .ok (.goto 4, 3) := by decide +kernel
theorem dX6_neighbour_13 : decode cX6_neighbour 13 = .ok (.iconst 1, 1) := by decide +kernel
theorem dX6_neighbour_14 : decode cX6_neighbour 14 = .ok (.putfield 64, 3) := by decide +kernel
theorem dX6_neighbour_17 : decode cX6_neighbour 17 = .ok (.aload_n 0, 1) := by decide +kernel
theorem dX6_neighbour_18 : decode cX6_neighbour 18 = .ok (.getfield 64, 3) := by decide +kernel
theorem dX6_neighbour_21 : decode cX6_neighbour 21 = .ok (.ifCond .le 7, 3) := by decide +kernel
theorem dX6_neighbour_24 : decode cX6_neighbour 24 = .ok (.iconst 0, 1) := by decide +kernel
theorem dX6_neighbour_25 : decode cX6_neighbour 25 = .ok (.goto 17, 3) := by decide +kernel
theorem dX6_neighbour_28 : decode cX6_neighbour 28 = .ok (.aload_n 0, 1) := by decide +kernel
theorem dX6_neighbour_29 : decode cX6_neighbour 29 = .ok (.iload_n 1, 1) := by decide +kernel
theorem dX6_neighbour_30 : decode cX6_neighbour 30 = .ok (.iload_n 2, 1) := by decide +kernel
theorem dX6_neighbour_31 : decode cX6_neighbour 31 = .ok (.ifCond .eq 7, 3) := by decide +kernel
theorem dX6_neighbour_34 : decode cX6_neighbour 34 = .ok (.iconst 1, 1) := by decide +kernel
theorem dX6_neighbour_35 : decode cX6_neighbour 35 = .ok (.goto 4, 3) := by decide +kernel
theorem dX6_neighbour_38 : decode cX6_neighbour 38 = .ok (.iconst (-1), 1) := by decide +kernel
theorem dX6_neighbour_39 : decode cX6_neighbour 39 = .ok (.invokevirtual 225, 3) := by decide +kernel
theorem dX6_neighbour_42 : decode cX6_neighbour 42 = .ok (.ireturn, 1) := by decide +kernel
theorem dX6_next_0 : decode cX6_next 0 = .ok (.aload_n 0, 1) := by decide +kernel
theorem dX6_next_1 : decode cX6_next 1 = .ok (.invokevirtual 283, 3) := by decide +kernel
theorem dX6_next_4 : decode cX6_next 4 = .ok (.istore_n 1, 1) := by decide +kernel
theorem dX6_next_5 : decode cX6_next 5 = .ok (.aload_n 0, 1) := by decide +kernel
theorem dX6_next_6 : decode cX6_next 6 = .ok (.iload_n 1, 1) := by decide +kernel
theorem dX6_next_7 : decode cX6_next 7 = .ok (.iconst (-1), 1) := by decide +kernel
theorem dX6_next_8 : decode cX6_next 8 = .ok (.if_icmp .ne 7, 3) := by decide +kernel
theorem dX6_next_11 : decode cX6_next 11 = .ok (.iconst 1, 1) := by decide +kernel
theorem dX6_next_12 : decode cX6_next 12 = .ok (.goto 4, 3) := by decide +kernel
theorem dX6_next_16 : decode cX6_next 16 = .ok (.putfield 64, 3) := by decide +kernel
theorem dX6_next_19 : decode cX6_next 19 = .ok (.iload_n 1, 1) := by decide +kernel
theorem dX6_next_20 : decode cX6_next 20 = .ok (.ireturn, 1) := by decide +kernel
theorem dX6_nextOne_0 : decode cX6_nextOne 0 = .ok (.aload_n 0, 1) := by decide +kernel
theorem dX6_nextOne_1 : decode cX6_nextOne 1 = .ok (.invokevirtual 214, 3) := by decide +kernel
theorem dX6_nextOne_4 : decode cX6_nextOne 4 = .ok (.aload_n 0, 1) := by decide +kernel
theorem dX6_nextOne_5 : decode cX6_nextOne 5 = .ok (.getfield 188, 3) := by decide +kernel
theorem dX6_nextOne_8 : decode cX6_nextOne 8 = .ok (.if_icmp .gt 5, 3) := by decide +kernel
theorem dX6_nextOne_11 : decode cX6_nextOne 11 = .ok (.iconst (-1), 1) := by decide +kernel
theorem dX6_nextOne_12 : decode cX6_nextOne 12 = .ok (.ireturn, 1) := by decide +kernel
theorem dX6_noise_0 : decode cX6_noise 0 = .ok (.aload_n 0, 1) := by decide +kernel
theorem dX6_noise_1 : decode cX6_noise 1 = .ok (.iload_n 2, 1) := by decide +kernel
theorem dX6_noise_2 : decode cX6_noise 2 = .ok (.i2l, 1) := by decide +kernel
theorem dX6_noise_3 : decode cX6_noise 3 = .ok (.lconst 0, 1) := by decide +kernel
theorem dX6_noise_4 : decode cX6_noise 4 = .ok (.ldc2_w 298, 3) := by decide +kernel
theorem dX6_noise_7 : decode cX6_noise 7 = .ok (.invokestatic 84, 3) := by decide +kernel
theorem dX6_noise_10 : decode cX6_noise 10 = .ok (.ifCond .eq 7, 3) := by decide +kernel
theorem dX6_noise_17 : decode cX6_noise 17 = .ok (.iconst 1, 1) := by decide +kernel
theorem dX6_noise_18 : decode cX6_noise 18 = .ok (.putfield 64, 3) := by decide +kernel
theorem dX6_noise_21 : decode cX6_noise 21 = .ok (.aload_n 0, 1) := by decide +kernel
theorem dX6_noise_22 : decode cX6_noise 22 = .ok (.getfield 64, 3) := by decide +kernel
theorem dX6_noise_25 : decode cX6_noise 25 = .ok (.ifCond .le 5, 3) := by decide +kernel
theorem dX6_noise_28 : decode cX6_noise 28 = .ok (.lconst 0, 1) := by decide +kernel
theorem dX6_noise_29 : decode cX6_noise 29 = .ok (.lreturn, 1) := by decide +kernel
theorem dX6_plainMean_0 : decode cX6_plainMean 0 = .ok (.aload_n 0, 1) := by decide +kernel
theorem dX6_plainMean_1 : decode cX6_plainMean 1 = .ok (.iconst 0, 1) := by decide +kernel
theorem dX6_plainMean_2 : decode cX6_plainMean 2 = .ok (.putfield 64, 3) := by decide +kernel
theorem dX6_plainMean_5 : decode cX6_plainMean 5 = .ok (.lconst 0, 1) := by decide +kernel
theorem dX6_plainMean_6 : decode cX6_plainMean 6 = .ok (.lstore_n 1, 1) := by decide +kernel
theorem dX6_plainMean_7 : decode cX6_plainMean 7 = .ok (.iconst 0, 1) := by decide +kernel
theorem dX6_plainMean_8 : decode cX6_plainMean 8 = .ok (.istore_n 3, 1) := by decide +kernel
theorem dX6_plainMean_9 : decode cX6_plainMean 9 = .ok (.iload_n 3, 1) := by decide +kernel
theorem dX6_plainMean_10 : decode cX6_plainMean 10 = .ok (.aload_n 0, 1) := by decide +kernel
theorem dX6_plainMean_11 : decode cX6_plainMean 11 = .ok (.getfield 185, 3) := by decide +kernel
theorem dX6_plainMean_14 : decode cX6_plainMean 14 = .ok (.if_icmp .ge 32, 3) := by decide +kernel
theorem dX6_plainMean_17 : decode cX6_plainMean 17 = .ok (.lload_n 1, 1) := by decide +kernel
theorem dX6_plainMean_18 : decode cX6_plainMean 18 = .ok (.aload_n 0, 1) := by decide +kernel
theorem dX6_plainMean_19 : decode cX6_plainMean 19 = .ok (.iload_n 3, 1) := by decide +kernel
theorem dX6_plainMean_20 : decode cX6_plainMean 20 = .ok (.invokevirtual 202, 3) := by decide +kernel
theorem dX6_plainMean_23 : decode cX6_plainMean 23 = .ok (.ifCond .eq 14, 3) := by decide +kernel
theorem dX6_plainMean_26 : decode cX6_plainMean 26 = .ok (.aload_n 0, 1) := by decide +kernel
theorem dX6_plainMean_27 : decode cX6_plainMean 27 = .ok (.getfield 7, 3) := by decide +kernel
theorem dX6_plainMean_30 : decode cX6_plainMean 30 = .ok (.iconst 5, 1) := by decide +kernel
theorem dX6_plainMean_31 : decode cX6_plainMean 31 = .ok (.iload_n 3, 1) := by decide +kernel
theorem dX6_plainMean_32 : decode cX6_plainMean 32 = .ok (.iadd, 1) := by decide +kernel
theorem dX6_plainMean_33 : decode cX6_plainMean 33 = .ok (.laload, 1) := by decide +kernel
theorem dX6_plainMean_34 : decode cX6_plainMean 34 = .ok (.goto 4, 3) := by decide +kernel
theorem dX6_plainMean_38 : decode cX6_plainMean 38 = .ok (.ladd, 1) := by decide +kernel
theorem dX6_plainMean_39 : decode cX6_plainMean 39 = .ok (.lstore_n 1, 1) := by decide +kernel
theorem dX6_plainMean_40 : decode cX6_plainMean 40 = .ok (.iinc 3 1, 3) := by decide +kernel
theorem dX6_plainMean_43 : decode cX6_plainMean 43 = .ok (.goto (-34), 3) := by decide +kernel
theorem dX6_plainMean_46 : decode cX6_plainMean 46 = .ok (.lload_n 1, 1) := by decide +kernel
theorem dX6_plainMean_47 : decode cX6_plainMean 47 = .ok (.l2d, 1) := by decide +kernel
theorem dX6_plainMean_48 : decode cX6_plainMean 48 = .ok (.aload_n 0, 1) := by decide +kernel
theorem dX6_plainMean_49 : decode cX6_plainMean 49 = .ok (.invokevirtual 214, 3) := by decide +kernel
theorem dX6_plainMean_52 : decode cX6_plainMean 52 = .ok (.i2d, 1) := by decide +kernel
theorem dX6_plainMean_53 : decode cX6_plainMean 53 = .ok (.ddiv, 1) := by decide +kernel
theorem dX6_plainMean_54 : decode cX6_plainMean 54 = .ok (.dreturn, 1) := by decide +kernel
theorem dX6_present_0 : decode cX6_present 0 = .ok (.aload_n 0, 1) := by decide +kernel
theorem dX6_present_1 : decode cX6_present 1 = .ok (.iload_n 1, 1) := by decide +kernel
theorem dX6_present_2 : decode cX6_present 2 = .ok (.i2l, 1) := by decide +kernel
theorem dX6_present_3 : decode cX6_present 3 = .ok (.lconst 0, 1) := by decide +kernel
theorem dX6_present_4 : decode cX6_present 4 = .ok (.aload_n 0, 1) := by decide +kernel
theorem dX6_present_5 : decode cX6_present 5 = .ok (.invokevirtual 214, 3) := by decide +kernel
theorem dX6_present_8 : decode cX6_present 8 = .ok (.iconst 1, 1) := by decide +kernel
theorem dX6_present_9 : decode cX6_present 9 = .ok (.isub, 1) := by decide +kernel
theorem dX6_present_10 : decode cX6_present 10 = .ok (.i2l, 1) := by decide +kernel
theorem dX6_present_11 : decode cX6_present 11 = .ok (.invokestatic 84, 3) := by decide +kernel
theorem dX6_present_14 : decode cX6_present 14 = .ok (.ifCond .eq 7, 3) := by decide +kernel
theorem dX6_present_17 : decode cX6_present 17 = .ok (.iconst 0, 1) := by decide +kernel
theorem dX6_present_18 : decode cX6_present 18 = .ok (.goto 4, 3) := by decide +kernel
theorem dX6_present_21 : decode cX6_present 21 = .ok (.iconst 1, 1) := by decide +kernel
theorem dX6_present_22 : decode cX6_present 22 = .ok (.putfield 64, 3) := by decide +kernel
theorem dX6_present_25 : decode cX6_present 25 = .ok (.iconst 0, 1) := by decide +kernel
theorem dX6_present_26 : decode cX6_present 26 = .ok (.istore_n 2, 1) := by decide +kernel
theorem dX6_present_27 : decode cX6_present 27 = .ok (.iload_n 1, 1) := by decide +kernel
theorem dX6_present_28 : decode cX6_present 28 = .ok (.istore_n 3, 1) := by decide +kernel
theorem dX6_present_29 : decode cX6_present 29 = .ok (.aload_n 0, 1) := by decide +kernel
theorem dX6_present_30 : decode cX6_present 30 = .ok (.getfield 64, 3) := by decide +kernel
theorem dX6_present_33 : decode cX6_present 33 = .ok (.ifCond .ne 20, 3) := by decide +kernel
theorem dX6_present_36 : decode cX6_present 36 = .ok (.iload_n 3, 1) := by decide +kernel
theorem dX6_present_37 : decode cX6_present 37 = .ok (.ifCond .le 16, 3) := by decide +kernel
theorem dX6_present_40 : decode cX6_present 40 = .ok (.aload_n 0, 1) := by decide +kernel
theorem dX6_present_41 : decode cX6_present 41 = .ok (.iload_n 2, 1) := by decide +kernel
theorem dX6_present_42 : decode cX6_present 42 = .ok (.iconst 1, 1) := by decide +kernel
theorem dX6_present_43 : decode cX6_present 43 = .ok (.invokevirtual 225, 3) := by decide +kernel
theorem dX6_present_46 : decode cX6_present 46 = .ok (.istore_n 2, 1) := by decide +kernel
theorem dX6_present_47 : decode cX6_present 47 = .ok (.iinc 3 (-1), 3) := by decide +kernel
theorem dX6_present_50 : decode cX6_present 50 = .ok (.goto (-21), 3) := by decide +kernel
theorem dX6_present_53 : decode cX6_present 53 = .ok (.iload_n 2, 1) := by decide +kernel
theorem dX6_present_54 : decode cX6_present 54 = .ok (.ireturn, 1) := by decide +kernel
theorem dX6_presents_0 : decode cX6_presents 0 = .ok (.aload_n 0, 1) := by decide +kernel
theorem dX6_presents_1 : decode cX6_presents 1 = .ok (.getfield 185, 3) := by decide +kernel
theorem dX6_presents_4 : decode cX6_presents 4 = .ok (.aload_n 0, 1) := by decide +kernel
theorem dX6_presents_5 : decode cX6_presents 5 = .ok (.invokevirtual 199, 3) := by decide +kernel
theorem dX6_presents_8 : decode cX6_presents 8 = .ok (.isub, 1) := by decide +kernel
theorem dX6_presents_9 : decode cX6_presents 9 = .ok (.ireturn, 1) := by decide +kernel
theorem dX6_puts_0 : decode cX6_puts 0 = .ok (.iconst 0, 1) := by decide +kernel
theorem dX6_puts_1 : decode cX6_puts 1 = .ok (.istore_n 1, 1) := by decide +kernel
theorem dX6_puts_2 : decode cX6_puts 2 = .ok (.iload_n 1, 1) := by decide +kernel
theorem dX6_puts_3 : decode cX6_puts 3 = .ok (.sipush 609, 3) := by decide +kernel
theorem dX6_puts_6 : decode cX6_puts 6 = .ok (.if_icmp .ge 21, 3) := by decide +kernel
theorem dX6_puts_9 : decode cX6_puts 9 = .ok (.aload_n 0, 1) := by decide +kernel
theorem dX6_puts_10 : decode cX6_puts 10 = .ok (.getfield 13, 3) := by decide +kernel
theorem dX6_puts_13 : decode cX6_puts 13 = .ok (.iload_n 1, 1) := by decide +kernel
theorem dX6_puts_14 : decode cX6_puts 14 = .ok (.aload_n 0, 1) := by decide +kernel
theorem dX6_puts_15 : decode cX6_puts 15 = .ok (.getfield 7, 3) := by decide +kernel
theorem dX6_puts_18 : decode cX6_puts 18 = .ok (.iload_n 1, 1) := by decide +kernel
theorem dX6_puts_19 : decode cX6_puts 19 = .ok (.laload, 1) := by decide +kernel
theorem dX6_puts_20 : decode cX6_puts 20 = .ok (.lastore, 1) := by decide +kernel
theorem dX6_puts_21 : decode cX6_puts 21 = .ok (.iinc 1 1, 3) := by decide +kernel
theorem dX6_puts_24 : decode cX6_puts 24 = .ok (.goto (-22), 3) := by decide +kernel
theorem dX6_puts_27 : decode cX6_puts 27 = .ok (.return_, 1) := by decide +kernel
theorem dX6_quantize_0 : decode cX6_quantize 0 = .ok (.aload_n 0, 1) := by decide +kernel
theorem dX6_quantize_1 : decode cX6_quantize 1 = .ok (.iload_n 1, 1) := by decide +kernel
theorem dX6_quantize_2 : decode cX6_quantize 2 = .ok (.i2l, 1) := by decide +kernel
theorem dX6_quantize_3 : decode cX6_quantize 3 = .ok (.lconst 1, 1) := by decide +kernel
theorem dX6_quantize_4 : decode cX6_quantize 4 = .ok (.ldc2_w 292, 3) := by decide +kernel
theorem dX6_quantize_7 : decode cX6_quantize 7 = .ok (.invokestatic 84, 3) := by decide +kernel
theorem dX6_quantize_10 : decode cX6_quantize 10 = .ok (.ifCond .eq 7, 3) := by decide +kernel
theorem dX6_quantize_13 : decode cX6_quantize 13 = .ok (.iconst 0, 1) := by decide +kernel
theorem dX6_quantize_14 : decode cX6_quantize 14 = .ok (.goto 4, 3) := by decide +kernel
theorem dX6_quantize_17 : decode cX6_quantize 17 = .ok (.iconst 1, 1) := by decide +kernel
theorem dX6_quantize_18 : decode cX6_quantize 18 = .ok (.putfield 64, 3) := by decide +kernel
theorem dX6_quantize_21 : decode cX6_quantize 21 = .ok (.lconst 0, 1) := by decide +kernel
theorem dX6_quantize_22 : decode cX6_quantize 22 = .ok (.lstore_n 2, 1) := by decide +kernel
theorem dX6_quantize_23 : decode cX6_quantize 23 = .ok (.iconst 0, 1) := by decide +kernel
theorem dX6_quantize_24 : decode cX6_quantize 24 = .ok (.istore 4, 2) := by decide +kernel
theorem dX6_quantize_26 : decode cX6_quantize 26 = .ok (.aload_n 0, 1) := by decide +kernel
theorem dX6_quantize_27 : decode cX6_quantize 27 = .ok (.getfield 64, 3) := by decide +kernel
theorem dX6_quantize_30 : decode cX6_quantize 30 = .ok (.ifCond .ne 104, 3) := by decide +kernel
theorem dX6_quantize_33 : decode cX6_quantize 33 = .ok (.iload 4, 2) := by decide +kernel
theorem dX6_quantize_35 : decode cX6_quantize 35 = .ok (.aload_n 0, 1) := by decide +kernel
theorem dX6_quantize_36 : decode cX6_quantize 36 = .ok (.invokevirtual 199, 3) := by decide +kernel
theorem dX6_quantize_39 : decode cX6_quantize 39 = .ok (.if_icmp .ge 95, 3) := by decide +kernel
theorem dX6_quantize_134 : decode cX6_quantize 134 = .ok (.lload_n 2, 1) := by decide +kernel
theorem dX6_quantize_135 : decode cX6_quantize 135 = .ok (.lreturn, 1) := by decide +kernel
theorem dX6_reads_0 : decode cX6_reads 0 = .ok (.iconst 1, 1) := by decide +kernel
theorem dX6_reads_1 : decode cX6_reads 1 = .ok (.istore_n 1, 1) := by decide +kernel
theorem dX6_reads_2 : decode cX6_reads 2 = .ok (.aload_n 0, 1) := by decide +kernel
theorem dX6_reads_3 : decode cX6_reads 3 = .ok (.getfield 91, 3) := by decide +kernel
theorem dX6_reads_6 : decode cX6_reads 6 = .ok (.ifCond .ne 15, 3) := by decide +kernel
theorem dX6_reads_9 : decode cX6_reads 9 = .ok (.iload_n 1, 1) := by decide +kernel
theorem dX6_reads_10 : decode cX6_reads 10 = .ok (.ifCond .eq 11, 3) := by decide +kernel
theorem dX6_reads_13 : decode cX6_reads 13 = .ok (.aload_n 0, 1) := by decide +kernel
theorem dX6_reads_14 : decode cX6_reads 14 = .ok (.invokevirtual 176, 3) := by decide +kernel
theorem dX6_reads_17 : decode cX6_reads 17 = .ok (.istore_n 1, 1) := by decide +kernel
theorem dX6_reads_18 : decode cX6_reads 18 = .ok (.goto (-16), 3) := by decide +kernel
theorem dX6_reads_21 : decode cX6_reads 21 = .ok (.aload_n 0, 1) := by decide +kernel
theorem dX6_reads_22 : decode cX6_reads 22 = .ok (.ldc2_w 180, 3) := by decide +kernel
theorem dX6_reads_25 : decode cX6_reads 25 = .ok (.invokevirtual 117, 3) := by decide +kernel
theorem dX6_reads_28 : decode cX6_reads 28 = .ok (.ifCond .eq 10, 3) := by decide +kernel
theorem dX6_reads_38 : decode cX6_reads 38 = .ok (.aload_n 0, 1) := by decide +kernel
theorem dX6_reads_39 : decode cX6_reads 39 = .ok (.getfield 91, 3) := by decide +kernel
theorem dX6_reads_42 : decode cX6_reads 42 = .ok (.ifCond .ne 33, 3) := by decide +kernel
theorem dX6_reads_45 : decode cX6_reads 45 = .ok (.aload_n 0, 1) := by decide +kernel
theorem dX6_reads_46 : decode cX6_reads 46 = .ok (.getfield 46, 3) := by decide +kernel
theorem dX6_reads_49 : decode cX6_reads 49 = .ok (.iconst 2, 1) := by decide +kernel
theorem dX6_reads_50 : decode cX6_reads 50 = .ok (.if_icmp .lt 11, 3) := by decide +kernel
theorem dX6_reads_61 : decode cX6_reads 61 = .ok (.aload_n 0, 1) := by decide +kernel
theorem dX6_reads_62 : decode cX6_reads 62 = .ok (.invokevirtual 102, 3) := by decide +kernel
theorem dX6_reads_65 : decode cX6_reads 65 = .ok (.istore_n 2, 1) := by decide +kernel
theorem dX6_reads_66 : decode cX6_reads 66 = .ok (.aload_n 0, 1) := by decide +kernel
theorem dX6_reads_67 : decode cX6_reads 67 = .ok (.iconst 1, 1) := by decide +kernel
theorem dX6_reads_68 : decode cX6_reads 68 = .ok (.aload_n 0, 1) := by decide +kernel
theorem dX6_reads_69 : decode cX6_reads 69 = .ok (.getfield 88, 3) := by decide +kernel
theorem dX6_reads_72 : decode cX6_reads 72 = .ok (.invokevirtual 128, 3) := by decide +kernel
theorem dX6_reads_75 : decode cX6_reads 75 = .ok (.return_, 1) := by decide +kernel
theorem dX6_reason_0 : decode cX6_reason 0 = .ok (.aload_n 0, 1) := by decide +kernel
theorem dX6_reason_1 : decode cX6_reason 1 = .ok (.iload_n 1, 1) := by decide +kernel
theorem dX6_reason_2 : decode cX6_reason 2 = .ok (.i2l, 1) := by decide +kernel
theorem dX6_reason_3 : decode cX6_reason 3 = .ok (.lconst 0, 1) := by decide +kernel
theorem dX6_reason_4 : decode cX6_reason 4 = .ok (.lconst 1, 1) := by decide +kernel
theorem dX6_reason_5 : decode cX6_reason 5 = .ok (.invokestatic 84, 3) := by decide +kernel
theorem dX6_reason_8 : decode cX6_reason 8 = .ok (.ifCond .eq 7, 3) := by decide +kernel
theorem dX6_reason_11 : decode cX6_reason 11 = .ok (.iconst 0, 1) := by decide +kernel
theorem dX6_reason_12 : decode cX6_reason 12 = .ok (.goto 4, 3) := by decide +kernel
theorem dX6_reason_15 : decode cX6_reason 15 = .ok (.iconst 1, 1) := by decide +kernel
theorem dX6_reason_16 : decode cX6_reason 16 = .ok (.putfield 64, 3) := by decide +kernel
theorem dX6_reason_19 : decode cX6_reason 19 = .ok (.aload_n 0, 1) := by decide +kernel
theorem dX6_reason_20 : decode cX6_reason 20 = .ok (.getfield 64, 3) := by decide +kernel
theorem dX6_reason_23 : decode cX6_reason 23 = .ok (.ifCond .le 7, 3) := by decide +kernel
theorem dX6_reason_26 : decode cX6_reason 26 = .ok (.iconst 0, 1) := by decide +kernel
theorem dX6_reason_27 : decode cX6_reason 27 = .ok (.goto 18, 3) := by decide +kernel
theorem dX6_reason_30 : decode cX6_reason 30 = .ok (.iload_n 1, 1) := by decide +kernel
theorem dX6_reason_31 : decode cX6_reason 31 = .ok (.ifCond .ne 10, 3) := by decide +kernel
theorem dX6_reason_34 : decode cX6_reason 34 = .ok (.aload_n 0, 1) := by decide +kernel
theorem dX6_reason_35 : decode cX6_reason 35 = .ok (.getfield 67, 3) := by decide +kernel
theorem dX6_reason_38 : decode cX6_reason 38 = .ok (.goto 7, 3) := by decide +kernel
theorem dX6_reason_41 : decode cX6_reason 41 = .ok (.aload_n 0, 1) := by decide +kernel
theorem dX6_reason_42 : decode cX6_reason 42 = .ok (.getfield 70, 3) := by decide +kernel
theorem dX6_reason_45 : decode cX6_reason 45 = .ok (.ireturn, 1) := by decide +kernel
theorem dX6_reasonSample_0 : decode cX6_reasonSample 0 = .ok (.aload_n 0, 1) := by decide +kernel
theorem dX6_reasonSample_1 : decode cX6_reasonSample 1 = .ok (.iconst 0, 1) := by decide +kernel
theorem dX6_reasonSample_2 : decode cX6_reasonSample 2 = .ok (.putfield 64, 3) := by decide +kernel
theorem dX6_reasonSample_5 : decode cX6_reasonSample 5 = .ok (.aload_n 0, 1) := by decide +kernel
theorem dX6_reasonSample_6 : decode cX6_reasonSample 6 = .ok (.getfield 30, 3) := by decide +kernel
theorem dX6_reasonSample_9 : decode cX6_reasonSample 9 = .ok (.ireturn, 1) := by decide +kernel
theorem dX6_reset_0 : decode cX6_reset 0 = .ok (.aload_n 0, 1) := by decide +kernel
theorem dX6_reset_1 : decode cX6_reset 1 = .ok (.iconst 0, 1) := by decide +kernel
theorem dX6_reset_2 : decode cX6_reset 2 = .ok (.putfield 64, 3) := by decide +kernel
theorem dX6_reset_5 : decode cX6_reset 5 = .ok (.aload_n 0, 1) := by decide +kernel
theorem dX6_reset_6 : decode cX6_reset 6 = .ok (.invokevirtual 199, 3) := by decide +kernel
theorem dX6_reset_9 : decode cX6_reset 9 = .ok (.istore_n 1, 1) := by decide +kernel
theorem dX6_reset_10 : decode cX6_reset 10 = .ok (.aload_n 0, 1) := by decide +kernel
theorem dX6_reset_11 : decode cX6_reset 11 = .ok (.invokevirtual 191, 3) := by decide +kernel
theorem dX6_reset_14 : decode cX6_reset 14 = .ok (.iload_n 1, 1) := by decide +kernel
theorem dX6_reset_15 : decode cX6_reset 15 = .ok (.ireturn, 1) := by decide +kernel
theorem dX6_restore_0 : decode cX6_restore 0 = .ok (.aload_n 0, 1) := by decide +kernel
theorem dX6_restore_1 : decode cX6_restore 1 = .ok (.iload_n 1, 1) := by decide +kernel
theorem dX6_restore_2 : decode cX6_restore 2 = .ok (.i2l, 1) := by decide +kernel
theorem dX6_restore_3 : decode cX6_restore 3 = .ok (.lconst 0, 1) := by decide +kernel
theorem dX6_restore_4 : decode cX6_restore 4 = .ok (.lconst 1, 1) := by decide +kernel
theorem dX6_restore_5 : decode cX6_restore 5 = .ok (.invokestatic 84, 3) := by decide +kernel
theorem dX6_restore_8 : decode cX6_restore 8 = .ok (.ifCond .ne 7, 3) := by decide +kernel
theorem dX6_restore_11 : decode cX6_restore 11 = .ok (.iconst 1, 1) := by decide +kernel
theorem dX6_restore_12 : decode cX6_restore 12 = .ok (.goto 17, 3) := by decide +kernel
theorem dX6_restore_15 : decode cX6_restore 15 = .ok (.aload_n 0, 1) := by decide +kernel
theorem dX6_restore_16 : decode cX6_restore 16 = .ok (.getfield 19, 3) := by decide +kernel
theorem dX6_restore_19 : decode cX6_restore 19 = .ok (.iload_n 1, 1) := by decide +kernel
theorem dX6_restore_20 : decode cX6_restore 20 = .ok (.baload, 1) := by decide +kernel
theorem dX6_restore_21 : decode cX6_restore 21 = .ok (.ifCond .eq 7, 3) := by decide +kernel
theorem dX6_restore_28 : decode cX6_restore 28 = .ok (.iconst 2, 1) := by decide +kernel
theorem dX6_restore_29 : decode cX6_restore 29 = .ok (.putfield 64, 3) := by decide +kernel
theorem dX6_restore_32 : decode cX6_restore 32 = .ok (.iconst 0, 1) := by decide +kernel
theorem dX6_restore_33 : decode cX6_restore 33 = .ok (.istore_n 2, 1) := by decide +kernel
theorem dX6_restore_34 : decode cX6_restore 34 = .ok (.aload_n 0, 1) := by decide +kernel
theorem dX6_restore_35 : decode cX6_restore 35 = .ok (.getfield 64, 3) := by decide +kernel
theorem dX6_restore_38 : decode cX6_restore 38 = .ok (.ifCond .ne 34, 3) := by decide +kernel
theorem dX6_restore_72 : decode cX6_restore 72 = .ok (.return_, 1) := by decide +kernel
theorem dX6_sample_0 : decode cX6_sample 0 = .ok (.aload_n 0, 1) := by decide +kernel
theorem dX6_sample_1 : decode cX6_sample 1 = .ok (.aload_n 0, 1) := by decide +kernel
theorem dX6_sample_2 : decode cX6_sample 2 = .ok (.iload_n 1, 1) := by decide +kernel
theorem dX6_sample_3 : decode cX6_sample 3 = .ok (.invokevirtual 205, 3) := by decide +kernel
theorem dX6_sample_6 : decode cX6_sample 6 = .ok (.ifCond .ne 7, 3) := by decide +kernel
theorem dX6_sample_9 : decode cX6_sample 9 = .ok (.iconst 1, 1) := by decide +kernel
theorem dX6_sample_10 : decode cX6_sample 10 = .ok (.goto 20, 3) := by decide +kernel
theorem dX6_sample_13 : decode cX6_sample 13 = .ok (.iload_n 2, 1) := by decide +kernel
theorem dX6_sample_14 : decode cX6_sample 14 = .ok (.i2l, 1) := by decide +kernel
theorem dX6_sample_15 : decode cX6_sample 15 = .ok (.lconst 0, 1) := by decide +kernel
theorem dX6_sample_16 : decode cX6_sample 16 = .ok (.ldc2_w 223, 3) := by decide +kernel
theorem dX6_sample_19 : decode cX6_sample 19 = .ok (.invokestatic 84, 3) := by decide +kernel
theorem dX6_sample_22 : decode cX6_sample 22 = .ok (.ifCond .eq 7, 3) := by decide +kernel
theorem dX6_sample_25 : decode cX6_sample 25 = .ok (.iconst 0, 1) := by decide +kernel
theorem dX6_sample_26 : decode cX6_sample 26 = .ok (.goto 4, 3) := by decide +kernel
theorem dX6_sample_29 : decode cX6_sample 29 = .ok (.iconst 2, 1) := by decide +kernel
theorem dX6_sample_30 : decode cX6_sample 30 = .ok (.putfield 64, 3) := by decide +kernel
theorem dX6_sample_33 : decode cX6_sample 33 = .ok (.aload_n 0, 1) := by decide +kernel
theorem dX6_sample_34 : decode cX6_sample 34 = .ok (.getfield 64, 3) := by decide +kernel
theorem dX6_sample_37 : decode cX6_sample 37 = .ok (.ifCond .le 5, 3) := by decide +kernel
theorem dX6_sample_40 : decode cX6_sample 40 = .ok (.lconst 0, 1) := by decide +kernel
theorem dX6_sample_41 : decode cX6_sample 41 = .ok (.lreturn, 1) := by decide +kernel
theorem dX6_sample_42 : decode cX6_sample 42 = .ok (.iload_n 2, 1) := by decide +kernel
theorem dX6_sample_43 : decode cX6_sample 43 = .ok (.tableswitch 122 0 4 #[33, 41, 49, 63, 86], 33) := by decide +kernel
theorem dX6_sample_76 : decode cX6_sample 76 = .ok (.aload_n 0, 1) := by decide +kernel
theorem dX6_sample_77 : decode cX6_sample 77 = .ok (.getfield 23, 3) := by decide +kernel
theorem dX6_sample_80 : decode cX6_sample 80 = .ok (.iload_n 1, 1) := by decide +kernel
theorem dX6_sample_81 : decode cX6_sample 81 = .ok (.iaload, 1) := by decide +kernel
theorem dX6_sample_82 : decode cX6_sample 82 = .ok (.i2l, 1) := by decide +kernel
theorem dX6_sample_83 : decode cX6_sample 83 = .ok (.lreturn, 1) := by decide +kernel
theorem dX6_sample_84 : decode cX6_sample 84 = .ok (.aload_n 0, 1) := by decide +kernel
theorem dX6_sample_85 : decode cX6_sample 85 = .ok (.getfield 27, 3) := by decide +kernel
theorem dX6_sample_88 : decode cX6_sample 88 = .ok (.iload_n 1, 1) := by decide +kernel
theorem dX6_sample_89 : decode cX6_sample 89 = .ok (.iaload, 1) := by decide +kernel
theorem dX6_sample_90 : decode cX6_sample 90 = .ok (.i2l, 1) := by decide +kernel
theorem dX6_sample_91 : decode cX6_sample 91 = .ok (.lreturn, 1) := by decide +kernel
theorem dX6_sample_92 : decode cX6_sample 92 = .ok (.aload_n 0, 1) := by decide +kernel
theorem dX6_sample_93 : decode cX6_sample 93 = .ok (.iload_n 1, 1) := by decide +kernel
theorem dX6_sample_94 : decode cX6_sample 94 = .ok (.invokevirtual 202, 3) := by decide +kernel
theorem dX6_sample_97 : decode cX6_sample 97 = .ok (.ifCond .eq 7, 3) := by decide +kernel
theorem dX6_sample_100 : decode cX6_sample 100 = .ok (.lconst 1, 1) := by decide +kernel
theorem dX6_sample_101 : decode cX6_sample 101 = .ok (.goto 4, 3) := by decide +kernel
theorem dX6_sample_105 : decode cX6_sample 105 = .ok (.lreturn, 1) := by decide +kernel
theorem dX6_sample_106 : decode cX6_sample 106 = .ok (.aload_n 0, 1) := by decide +kernel
theorem dX6_sample_107 : decode cX6_sample 107 = .ok (.iload_n 1, 1) := by decide +kernel
theorem dX6_sample_108 : decode cX6_sample 108 = .ok (.invokevirtual 202, 3) := by decide +kernel
theorem dX6_sample_111 : decode cX6_sample 111 = .ok (.ifCond .eq 14, 3) := by decide +kernel
theorem dX6_sample_114 : decode cX6_sample 114 = .ok (.aload_n 0, 1) := by decide +kernel
theorem dX6_sample_115 : decode cX6_sample 115 = .ok (.getfield 7, 3) := by decide +kernel
theorem dX6_sample_118 : decode cX6_sample 118 = .ok (.iconst 5, 1) := by decide +kernel
theorem dX6_sample_119 : decode cX6_sample 119 = .ok (.iload_n 1, 1) := by decide +kernel
theorem dX6_sample_120 : decode cX6_sample 120 = .ok (.iadd, 1) := by decide +kernel
theorem dX6_sample_121 : decode cX6_sample 121 = .ok (.laload, 1) := by decide +kernel
theorem dX6_sample_122 : decode cX6_sample 122 = .ok (.goto 6, 3) := by decide +kernel
theorem dX6_sample_128 : decode cX6_sample 128 = .ok (.lreturn, 1) := by decide +kernel
theorem dX6_sample_129 : decode cX6_sample 129 = .ok (.aload_n 0, 1) := by decide +kernel
theorem dX6_sample_130 : decode cX6_sample 130 = .ok (.iload_n 1, 1) := by decide +kernel
theorem dX6_sample_131 : decode cX6_sample 131 = .ok (.invokevirtual 202, 3) := by decide +kernel
theorem dX6_sample_134 : decode cX6_sample 134 = .ok (.ifCond .eq 15, 3) := by decide +kernel
theorem dX6_sample_137 : decode cX6_sample 137 = .ok (.aload_n 0, 1) := by decide +kernel
theorem dX6_sample_138 : decode cX6_sample 138 = .ok (.getfield 7, 3) := by decide +kernel
theorem dX6_sample_141 : decode cX6_sample 141 = .ok (.bipush 53, 2) := by decide +kernel
theorem dX6_sample_143 : decode cX6_sample 143 = .ok (.iload_n 1, 1) := by decide +kernel
theorem dX6_sample_144 : decode cX6_sample 144 = .ok (.iadd, 1) := by decide +kernel
theorem dX6_sample_145 : decode cX6_sample 145 = .ok (.laload, 1) := by decide +kernel
theorem dX6_sample_146 : decode cX6_sample 146 = .ok (.goto 18, 3) := by decide +kernel
theorem dX6_sample_164 : decode cX6_sample 164 = .ok (.lreturn, 1) := by decide +kernel
theorem dX6_sample_165 : decode cX6_sample 165 = .ok (.aload_n 0, 1) := by decide +kernel
theorem dX6_sample_166 : decode cX6_sample 166 = .ok (.getfield 7, 3) := by decide +kernel
theorem dX6_sample_169 : decode cX6_sample 169 = .ok (.bipush 101, 2) := by decide +kernel
theorem dX6_sample_171 : decode cX6_sample 171 = .ok (.iload_n 1, 1) := by decide +kernel
theorem dX6_sample_172 : decode cX6_sample 172 = .ok (.iadd, 1) := by decide +kernel
theorem dX6_sample_173 : decode cX6_sample 173 = .ok (.laload, 1) := by decide +kernel
theorem dX6_sample_174 : decode cX6_sample 174 = .ok (.lreturn, 1) := by decide +kernel
theorem dX6_save_0 : decode cX6_save 0 = .ok (.aload_n 0, 1) := by decide +kernel
theorem dX6_save_1 : decode cX6_save 1 = .ok (.iload_n 1, 1) := by decide +kernel
theorem dX6_save_2 : decode cX6_save 2 = .ok (.i2l, 1) := by decide +kernel
theorem dX6_save_3 : decode cX6_save 3 = .ok (.lconst 0, 1) := by decide +kernel
theorem dX6_save_4 : decode cX6_save 4 = .ok (.lconst 1, 1) := by decide +kernel
theorem dX6_save_5 : decode cX6_save 5 = .ok (.invokestatic 84, 3) := by decide +kernel
theorem dX6_save_8 : decode cX6_save 8 = .ok (.ifCond .eq 7, 3) := by decide +kernel
theorem dX6_save_11 : decode cX6_save 11 = .ok (.iconst 0, 1) := by decide +kernel
theorem dX6_save_12 : decode cX6_save 12 = .ok (.goto 4, 3) := by decide +kernel
theorem dX6_save_15 : decode cX6_save 15 = .ok (.iconst 1, 1) := by decide +kernel
theorem dX6_save_16 : decode cX6_save 16 = .ok (.putfield 64, 3) := by decide +kernel
theorem dX6_save_19 : decode cX6_save 19 = .ok (.iconst 0, 1) := by decide +kernel
theorem dX6_save_20 : decode cX6_save 20 = .ok (.istore_n 2, 1) := by decide +kernel
theorem dX6_save_21 : decode cX6_save 21 = .ok (.aload_n 0, 1) := by decide +kernel
theorem dX6_save_22 : decode cX6_save 22 = .ok (.getfield 64, 3) := by decide +kernel
theorem dX6_save_25 : decode cX6_save 25 = .ok (.ifCond .ne 34, 3) := by decide +kernel
theorem dX6_save_28 : decode cX6_save 28 = .ok (.iload_n 2, 1) := by decide +kernel
theorem dX6_save_29 : decode cX6_save 29 = .ok (.sipush 609, 3) := by decide +kernel
theorem dX6_save_32 : decode cX6_save 32 = .ok (.if_icmp .ge 27, 3) := by decide +kernel
theorem dX6_save_35 : decode cX6_save 35 = .ok (.aload_n 0, 1) := by decide +kernel
theorem dX6_save_36 : decode cX6_save 36 = .ok (.getfield 16, 3) := by decide +kernel
theorem dX6_save_39 : decode cX6_save 39 = .ok (.sipush 609, 3) := by decide +kernel
theorem dX6_save_42 : decode cX6_save 42 = .ok (.iload_n 1, 1) := by decide +kernel
theorem dX6_save_43 : decode cX6_save 43 = .ok (.imul, 1) := by decide +kernel
theorem dX6_save_44 : decode cX6_save 44 = .ok (.iload_n 2, 1) := by decide +kernel
theorem dX6_save_45 : decode cX6_save 45 = .ok (.iadd, 1) := by decide +kernel
theorem dX6_save_46 : decode cX6_save 46 = .ok (.aload_n 0, 1) := by decide +kernel
theorem dX6_save_47 : decode cX6_save 47 = .ok (.getfield 7, 3) := by decide +kernel
theorem dX6_save_50 : decode cX6_save 50 = .ok (.iload_n 2, 1) := by decide +kernel
theorem dX6_save_51 : decode cX6_save 51 = .ok (.laload, 1) := by decide +kernel
theorem dX6_save_52 : decode cX6_save 52 = .ok (.lastore, 1) := by decide +kernel
theorem dX6_save_53 : decode cX6_save 53 = .ok (.iinc 2 1, 3) := by decide +kernel
theorem dX6_save_56 : decode cX6_save 56 = .ok (.goto (-35), 3) := by decide +kernel
theorem dX6_save_59 : decode cX6_save 59 = .ok (.aload_n 0, 1) := by decide +kernel
theorem dX6_save_60 : decode cX6_save 60 = .ok (.getfield 64, 3) := by decide +kernel
theorem dX6_save_63 : decode cX6_save 63 = .ok (.ifCond .ne 10, 3) := by decide +kernel
theorem dX6_save_66 : decode cX6_save 66 = .ok (.aload_n 0, 1) := by decide +kernel
theorem dX6_save_67 : decode cX6_save 67 = .ok (.getfield 19, 3) := by decide +kernel
theorem dX6_save_70 : decode cX6_save 70 = .ok (.iload_n 1, 1) := by decide +kernel
theorem dX6_save_71 : decode cX6_save 71 = .ok (.iconst 1, 1) := by decide +kernel
theorem dX6_save_72 : decode cX6_save 72 = .ok (.bastore, 1) := by decide +kernel
theorem dX6_save_73 : decode cX6_save 73 = .ok (.return_, 1) := by decide +kernel
theorem dX6_set_0 : decode cX6_set 0 = .ok (.aload_n 0, 1) := by decide +kernel
theorem dX6_set_1 : decode cX6_set 1 = .ok (.aload_n 0, 1) := by decide +kernel
theorem dX6_set_2 : decode cX6_set 2 = .ok (.iload_n 1, 1) := by decide +kernel
theorem dX6_set_3 : decode cX6_set 3 = .ok (.invokevirtual 205, 3) := by decide +kernel
theorem dX6_set_6 : decode cX6_set 6 = .ok (.ifCond .ne 7, 3) := by decide +kernel
theorem dX6_set_9 : decode cX6_set 9 = .ok (.iconst 1, 1) := by decide +kernel
theorem dX6_set_10 : decode cX6_set 10 = .ok (.goto 22, 3) := by decide +kernel
theorem dX6_set_13 : decode cX6_set 13 = .ok (.iload_n 2, 1) := by decide +kernel
theorem dX6_set_14 : decode cX6_set 14 = .ok (.i2l, 1) := by decide +kernel
theorem dX6_set_15 : decode cX6_set 15 = .ok (.ldc2_w 290, 3) := by decide +kernel
theorem dX6_set_18 : decode cX6_set 18 = .ok (.ldc2_w 292, 3) := by decide +kernel
theorem dX6_set_21 : decode cX6_set 21 = .ok (.invokestatic 84, 3) := by decide +kernel
theorem dX6_set_24 : decode cX6_set 24 = .ok (.ifCond .eq 7, 3) := by decide +kernel
theorem dX6_set_27 : decode cX6_set 27 = .ok (.iconst 0, 1) := by decide +kernel
theorem dX6_set_28 : decode cX6_set 28 = .ok (.goto 4, 3) := by decide +kernel
theorem dX6_set_31 : decode cX6_set 31 = .ok (.iconst 2, 1) := by decide +kernel
theorem dX6_set_32 : decode cX6_set 32 = .ok (.putfield 64, 3) := by decide +kernel
theorem dX6_set_35 : decode cX6_set 35 = .ok (.aload_n 0, 1) := by decide +kernel
theorem dX6_set_36 : decode cX6_set 36 = .ok (.getfield 64, 3) := by decide +kernel
theorem dX6_set_39 : decode cX6_set 39 = .ok (.ifCond .le 5, 3) := by decide +kernel
theorem dX6_set_42 : decode cX6_set 42 = .ok (.lconst 0, 1) := by decide +kernel
theorem dX6_set_43 : decode cX6_set 43 = .ok (.lreturn, 1) := by decide +kernel
theorem dX6_set_44 : decode cX6_set 44 = .ok (.aload_n 0, 1) := by decide +kernel
theorem dX6_set_45 : decode cX6_set 45 = .ok (.iload_n 1, 1) := by decide +kernel
theorem dX6_set_46 : decode cX6_set 46 = .ok (.invokevirtual 202, 3) := by decide +kernel
theorem dX6_set_49 : decode cX6_set 49 = .ok (.ifCond .ne 14, 3) := by decide +kernel
theorem dX6_set_63 : decode cX6_set 63 = .ok (.aload_n 0, 1) := by decide +kernel
theorem dX6_set_64 : decode cX6_set 64 = .ok (.getfield 7, 3) := by decide +kernel
theorem dX6_set_67 : decode cX6_set 67 = .ok (.iconst 5, 1) := by decide +kernel
theorem dX6_set_68 : decode cX6_set 68 = .ok (.iload_n 1, 1) := by decide +kernel
theorem dX6_set_69 : decode cX6_set 69 = .ok (.iadd, 1) := by decide +kernel
theorem dX6_set_70 : decode cX6_set 70 = .ok (.laload, 1) := by decide +kernel
theorem dX6_set_71 : decode cX6_set 71 = .ok (.lstore_n 3, 1) := by decide +kernel
theorem dX6_set_72 : decode cX6_set 72 = .ok (.aload_n 0, 1) := by decide +kernel
theorem dX6_set_73 : decode cX6_set 73 = .ok (.getfield 7, 3) := by decide +kernel
theorem dX6_set_76 : decode cX6_set 76 = .ok (.iconst 5, 1) := by decide +kernel
theorem dX6_set_77 : decode cX6_set 77 = .ok (.iload_n 1, 1) := by decide +kernel
theorem dX6_set_78 : decode cX6_set 78 = .ok (.iadd, 1) := by decide +kernel
theorem dX6_set_79 : decode cX6_set 79 = .ok (.iload_n 2, 1) := by decide +kernel
theorem dX6_set_80 : decode cX6_set 80 = .ok (.i2l, 1) := by decide +kernel
theorem dX6_set_81 : decode cX6_set 81 = .ok (.lastore, 1) := by decide +kernel
theorem dX6_set_82 : decode cX6_set 82 = .ok (.lload_n 3, 1) := by decide +kernel
theorem dX6_set_83 : decode cX6_set 83 = .ok (.lreturn, 1) := by decide +kernel
theorem dX6_setDetail_0 : decode cX6_setDetail 0 = .ok (.aload_n 0, 1) := by decide +kernel
theorem dX6_setDetail_1 : decode cX6_setDetail 1 = .ok (.aload_n 0, 1) := by decide +kernel
theorem dX6_setDetail_2 : decode cX6_setDetail 2 = .ok (.iload_n 1, 1) := by decide +kernel
theorem dX6_setDetail_3 : decode cX6_setDetail 3 = .ok (.invokevirtual 229, 3) := by decide +kernel
theorem dX6_setDetail_6 : decode cX6_setDetail 6 = .ok (.ifCond .ne 7, 3) := by decide +kernel
theorem dX6_setDetail_9 : decode cX6_setDetail 9 = .ok (.iconst 1, 1) := by decide +kernel
theorem dX6_setDetail_10 : decode cX6_setDetail 10 = .ok (.goto 22, 3) := by decide +kernel
theorem dX6_setDetail_32 : decode cX6_setDetail 32 = .ok (.putfield 64, 3) := by decide +kernel
theorem dX6_setDetail_35 : decode cX6_setDetail 35 = .ok (.aload_n 0, 1) := by decide +kernel
theorem dX6_setDetail_36 : decode cX6_setDetail 36 = .ok (.getfield 64, 3) := by decide +kernel
theorem dX6_setDetail_39 : decode cX6_setDetail 39 = .ok (.ifCond .le 5, 3) := by decide +kernel
theorem dX6_setDetail_42 : decode cX6_setDetail 42 = .ok (.lconst 0, 1) := by decide +kernel
theorem dX6_setDetail_43 : decode cX6_setDetail 43 = .ok (.lreturn, 1) := by decide +kernel
theorem dX6_setPredict_0 : decode cX6_setPredict 0 = .ok (.aload_n 0, 1) := by decide +kernel
theorem dX6_setPredict_1 : decode cX6_setPredict 1 = .ok (.iconst 1, 1) := by decide +kernel
theorem dX6_setPredict_2 : decode cX6_setPredict 2 = .ok (.iload_n 1, 1) := by decide +kernel
theorem dX6_setPredict_3 : decode cX6_setPredict 3 = .ok (.iconst 2, 1) := by decide +kernel
theorem dX6_setPredict_4 : decode cX6_setPredict 4 = .ok (.invokevirtual 286, 3) := by decide +kernel
theorem dX6_setPredict_7 : decode cX6_setPredict 7 = .ok (.ireturn, 1) := by decide +kernel
theorem dX6_setSplit_0 : decode cX6_setSplit 0 = .ok (.aload_n 0, 1) := by decide +kernel
theorem dX6_setSplit_1 : decode cX6_setSplit 1 = .ok (.iconst 0, 1) := by decide +kernel
theorem dX6_setSplit_2 : decode cX6_setSplit 2 = .ok (.iload_n 1, 1) := by decide +kernel
theorem dX6_setSplit_3 : decode cX6_setSplit 3 = .ok (.iconst 2, 1) := by decide +kernel
theorem dX6_setSplit_4 : decode cX6_setSplit 4 = .ok (.invokevirtual 286, 3) := by decide +kernel
theorem dX6_setSplit_7 : decode cX6_setSplit 7 = .ok (.ireturn, 1) := by decide +kernel
theorem dX6_setUpdate_0 : decode cX6_setUpdate 0 = .ok (.aload_n 0, 1) := by decide +kernel
theorem dX6_setUpdate_1 : decode cX6_setUpdate 1 = .ok (.iconst 2, 1) := by decide +kernel
theorem dX6_setUpdate_2 : decode cX6_setUpdate 2 = .ok (.iload_n 1, 1) := by decide +kernel
theorem dX6_setUpdate_3 : decode cX6_setUpdate 3 = .ok (.ifCond .eq 7, 3) := by decide +kernel
theorem dX6_setUpdate_6 : decode cX6_setUpdate 6 = .ok (.iconst 1, 1) := by decide +kernel
theorem dX6_setUpdate_7 : decode cX6_setUpdate 7 = .ok (.goto 4, 3) := by decide +kernel
theorem dX6_setUpdate_10 : decode cX6_setUpdate 10 = .ok (.iconst 0, 1) := by decide +kernel
theorem dX6_setUpdate_11 : decode cX6_setUpdate 11 = .ok (.iconst 1, 1) := by decide +kernel
theorem dX6_setUpdate_12 : decode cX6_setUpdate 12 = .ok (.invokevirtual 286, 3) := by decide +kernel
theorem dX6_setUpdate_15 : decode cX6_setUpdate 15 = .ok (.iconst 1, 1) := by decide +kernel
theorem dX6_setUpdate_16 : decode cX6_setUpdate 16 = .ok (.if_icmp .ne 7, 3) := by decide +kernel
theorem dX6_setUpdate_19 : decode cX6_setUpdate 19 = .ok (.iconst 1, 1) := by decide +kernel
theorem dX6_setUpdate_20 : decode cX6_setUpdate 20 = .ok (.goto 4, 3) := by decide +kernel
theorem dX6_setUpdate_24 : decode cX6_setUpdate 24 = .ok (.ireturn, 1) := by decide +kernel
theorem dX6_sets_0 : decode cX6_sets 0 = .ok (.aload_n 0, 1) := by decide +kernel
theorem dX6_sets_1 : decode cX6_sets 1 = .ok (.iload_n 2, 1) := by decide +kernel
theorem dX6_sets_2 : decode cX6_sets 2 = .ok (.i2l, 1) := by decide +kernel
theorem dX6_sets_3 : decode cX6_sets 3 = .ok (.lconst 0, 1) := by decide +kernel
theorem dX6_sets_4 : decode cX6_sets 4 = .ok (.iload_n 3, 1) := by decide +kernel
theorem dX6_sets_5 : decode cX6_sets 5 = .ok (.i2l, 1) := by decide +kernel
theorem dX6_sets_6 : decode cX6_sets 6 = .ok (.invokestatic 84, 3) := by decide +kernel
theorem dX6_sets_9 : decode cX6_sets 9 = .ok (.ifCond .eq 7, 3) := by decide +kernel
theorem dX6_sets_12 : decode cX6_sets 12 = .ok (.iconst 0, 1) := by decide +kernel
theorem dX6_sets_13 : decode cX6_sets 13 = .ok (.goto 4, 3) := by decide +kernel
theorem dX6_sets_16 : decode cX6_sets 16 = .ok (.iconst 1, 1) := by decide +kernel
theorem dX6_sets_17 : decode cX6_sets 17 = .ok (.putfield 64, 3) := by decide +kernel
theorem dX6_sets_20 : decode cX6_sets 20 = .ok (.aload_n 0, 1) := by decide +kernel
theorem dX6_sets_21 : decode cX6_sets 21 = .ok (.getfield 7, 3) := by decide +kernel
theorem dX6_sets_24 : decode cX6_sets 24 = .ok (.iload_n 1, 1) := by decide +kernel
theorem dX6_sets_25 : decode cX6_sets 25 = .ok (.laload, 1) := by decide +kernel
theorem dX6_sets_26 : decode cX6_sets 26 = .ok (.l2i, 1) := by decide +kernel
theorem dX6_sets_27 : decode cX6_sets 27 = .ok (.istore 4, 2) := by decide +kernel
theorem dX6_sets_29 : decode cX6_sets 29 = .ok (.aload_n 0, 1) := by decide +kernel
theorem dX6_sets_30 : decode cX6_sets 30 = .ok (.getfield 64, 3) := by decide +kernel
theorem dX6_sets_33 : decode cX6_sets 33 = .ok (.ifCond .ne 11, 3) := by decide +kernel
theorem dX6_sets_36 : decode cX6_sets 36 = .ok (.aload_n 0, 1) := by decide +kernel
theorem dX6_sets_37 : decode cX6_sets 37 = .ok (.getfield 7, 3) := by decide +kernel
theorem dX6_sets_40 : decode cX6_sets 40 = .ok (.iload_n 1, 1) := by decide +kernel
theorem dX6_sets_41 : decode cX6_sets 41 = .ok (.iload_n 2, 1) := by decide +kernel
theorem dX6_sets_42 : decode cX6_sets 42 = .ok (.i2l, 1) := by decide +kernel
theorem dX6_sets_43 : decode cX6_sets 43 = .ok (.lastore, 1) := by decide +kernel
theorem dX6_sets_44 : decode cX6_sets 44 = .ok (.iload 4, 2) := by decide +kernel
theorem dX6_sets_46 : decode cX6_sets 46 = .ok (.ireturn, 1) := by decide +kernel
theorem dX6_setting_0 : decode cX6_setting 0 = .ok (.aload_n 0, 1) := by decide +kernel
theorem dX6_setting_1 : decode cX6_setting 1 = .ok (.ldc2_w 138, 3) := by decide +kernel
theorem dX6_setting_4 : decode cX6_setting 4 = .ok (.invokevirtual 117, 3) := by decide +kernel
theorem dX6_setting_7 : decode cX6_setting 7 = .ok (.ifCond .eq 31, 3) := by decide +kernel
theorem dX6_setting_38 : decode cX6_setting 38 = .ok (.aload_n 0, 1) := by decide +kernel
theorem dX6_setting_39 : decode cX6_setting 39 = .ok (.ldc2_w 154, 3) := by decide +kernel
theorem dX6_setting_42 : decode cX6_setting 42 = .ok (.invokevirtual 117, 3) := by decide +kernel
theorem dX6_setting_45 : decode cX6_setting 45 = .ok (.ifCond .eq 31, 3) := by decide +kernel
theorem dX6_setting_76 : decode cX6_setting 76 = .ok (.aload_n 0, 1) := by decide +kernel
theorem dX6_setting_77 : decode cX6_setting 77 = .ok (.ldc2_w 162, 3) := by decide +kernel
theorem dX6_setting_80 : decode cX6_setting 80 = .ok (.invokevirtual 117, 3) := by decide +kernel
theorem dX6_setting_83 : decode cX6_setting 83 = .ok (.ifCond .eq 29, 3) := by decide +kernel
theorem dX6_setting_112 : decode cX6_setting 112 = .ok (.aload_n 0, 1) := by decide +kernel
theorem dX6_setting_113 : decode cX6_setting 113 = .ok (.ldc2_w 168, 3) := by decide +kernel
theorem dX6_setting_116 : decode cX6_setting 116 = .ok (.invokevirtual 117, 3) := by decide +kernel
theorem dX6_setting_119 : decode cX6_setting 119 = .ok (.ifCond .eq 29, 3) := by decide +kernel
theorem dX6_setting_148 : decode cX6_setting 148 = .ok (.iconst 0, 1) := by decide +kernel
theorem dX6_setting_149 : decode cX6_setting 149 = .ok (.ireturn, 1) := by decide +kernel
theorem dX6_stateFails_0 : decode cX6_stateFails 0 = .ok (.aload_n 0, 1) := by decide +kernel
theorem dX6_stateFails_1 : decode cX6_stateFails 1 = .ok (.iload_n 2, 1) := by decide +kernel
theorem dX6_stateFails_2 : decode cX6_stateFails 2 = .ok (.putfield 67, 3) := by decide +kernel
theorem dX6_stateFails_5 : decode cX6_stateFails 5 = .ok (.aload_n 0, 1) := by decide +kernel
theorem dX6_stateFails_6 : decode cX6_stateFails 6 = .ok (.iload_n 3, 1) := by decide +kernel
theorem dX6_stateFails_7 : decode cX6_stateFails 7 = .ok (.putfield 70, 3) := by decide +kernel
theorem dX6_stateFails_10 : decode cX6_stateFails 10 = .ok (.aload_n 0, 1) := by decide +kernel
theorem dX6_stateFails_11 : decode cX6_stateFails 11 = .ok (.iload 4, 2) := by decide +kernel
theorem dX6_stateFails_13 : decode cX6_stateFails 13 = .ok (.putfield 30, 3) := by decide +kernel
theorem dX6_stateFails_16 : decode cX6_stateFails 16 = .ok (.aload_n 0, 1) := by decide +kernel
theorem dX6_stateFails_17 : decode cX6_stateFails 17 = .ok (.iload_n 1, 1) := by decide +kernel
theorem dX6_stateFails_18 : decode cX6_stateFails 18 = .ok (.invokevirtual 73, 3) := by decide +kernel
theorem dX6_stateFails_21 : decode cX6_stateFails 21 = .ok (.ireturn, 1) := by decide +kernel
theorem dX6_step_0 : decode cX6_step 0 = .ok (.aload_n 0, 1) := by decide +kernel
theorem dX6_step_1 : decode cX6_step 1 = .ok (.aload_n 0, 1) := by decide +kernel
theorem dX6_step_2 : decode cX6_step 2 = .ok (.iload_n 1, 1) := by decide +kernel
theorem dX6_step_3 : decode cX6_step 3 = .ok (.invokevirtual 229, 3) := by decide +kernel
theorem dX6_step_6 : decode cX6_step 6 = .ok (.ifCond .ne 7, 3) := by decide +kernel
theorem dX6_step_9 : decode cX6_step 9 = .ok (.iconst 1, 1) := by decide +kernel
theorem dX6_step_10 : decode cX6_step 10 = .ok (.goto 20, 3) := by decide +kernel
theorem dX6_step_30 : decode cX6_step 30 = .ok (.putfield 64, 3) := by decide +kernel
theorem dX6_step_33 : decode cX6_step 33 = .ok (.aload_n 0, 1) := by decide +kernel
theorem dX6_step_34 : decode cX6_step 34 = .ok (.getfield 64, 3) := by decide +kernel
theorem dX6_step_37 : decode cX6_step 37 = .ok (.ifCond .le 7, 3) := by decide +kernel
theorem dX6_step_40 : decode cX6_step 40 = .ok (.lconst 0, 1) := by decide +kernel
theorem dX6_step_41 : decode cX6_step 41 = .ok (.goto 9, 3) := by decide +kernel
theorem dX6_step_50 : decode cX6_step 50 = .ok (.lreturn, 1) := by decide +kernel
theorem dX6_steps_0 : decode cX6_steps 0 = .ok (.aload_n 0, 1) := by decide +kernel
theorem dX6_steps_1 : decode cX6_steps 1 = .ok (.getfield 7, 3) := by decide +kernel
theorem dX6_steps_4 : decode cX6_steps 4 = .ok (.iconst 4, 1) := by decide +kernel
theorem dX6_steps_5 : decode cX6_steps 5 = .ok (.laload, 1) := by decide +kernel
theorem dX6_steps_6 : decode cX6_steps 6 = .ok (.l2i, 1) := by decide +kernel
theorem dX6_steps_7 : decode cX6_steps 7 = .ok (.ireturn, 1) := by decide +kernel
theorem dX6_takesBack_0 : decode cX6_takesBack 0 = .ok (.iconst 0, 1) := by decide +kernel
theorem dX6_takesBack_1 : decode cX6_takesBack 1 = .ok (.istore_n 1, 1) := by decide +kernel
theorem dX6_takesBack_2 : decode cX6_takesBack 2 = .ok (.iload_n 1, 1) := by decide +kernel
theorem dX6_takesBack_3 : decode cX6_takesBack 3 = .ok (.sipush 609, 3) := by decide +kernel
theorem dX6_takesBack_6 : decode cX6_takesBack 6 = .ok (.if_icmp .ge 21, 3) := by decide +kernel
theorem dX6_takesBack_9 : decode cX6_takesBack 9 = .ok (.aload_n 0, 1) := by decide +kernel
theorem dX6_takesBack_10 : decode cX6_takesBack 10 = .ok (.getfield 7, 3) := by decide +kernel
theorem dX6_takesBack_13 : decode cX6_takesBack 13 = .ok (.iload_n 1, 1) := by decide +kernel
theorem dX6_takesBack_14 : decode cX6_takesBack 14 = .ok (.aload_n 0, 1) := by decide +kernel
theorem dX6_takesBack_15 : decode cX6_takesBack 15 = .ok (.getfield 13, 3) := by decide +kernel
theorem dX6_takesBack_18 : decode cX6_takesBack 18 = .ok (.iload_n 1, 1) := by decide +kernel
theorem dX6_takesBack_19 : decode cX6_takesBack 19 = .ok (.laload, 1) := by decide +kernel
theorem dX6_takesBack_20 : decode cX6_takesBack 20 = .ok (.lastore, 1) := by decide +kernel
theorem dX6_takesBack_21 : decode cX6_takesBack 21 = .ok (.iinc 1 1, 3) := by decide +kernel
theorem dX6_takesBack_24 : decode cX6_takesBack 24 = .ok (.goto (-22), 3) := by decide +kernel
theorem dX6_takesBack_27 : decode cX6_takesBack 27 = .ok (.return_, 1) := by decide +kernel
theorem dX6_threshold_0 : decode cX6_threshold 0 = .ok (.aload_n 0, 1) := by decide +kernel
theorem dX6_threshold_1 : decode cX6_threshold 1 = .ok (.iload_n 1, 1) := by decide +kernel
theorem dX6_threshold_2 : decode cX6_threshold 2 = .ok (.i2l, 1) := by decide +kernel
theorem dX6_threshold_3 : decode cX6_threshold 3 = .ok (.lconst 0, 1) := by decide +kernel
theorem dX6_threshold_4 : decode cX6_threshold 4 = .ok (.ldc2_w 292, 3) := by decide +kernel
theorem dX6_threshold_7 : decode cX6_threshold 7 = .ok (.invokestatic 84, 3) := by decide +kernel
theorem dX6_threshold_10 : decode cX6_threshold 10 = .ok (.ifCond .eq 7, 3) := by decide +kernel
theorem dX6_threshold_13 : decode cX6_threshold 13 = .ok (.iconst 0, 1) := by decide +kernel
theorem dX6_threshold_14 : decode cX6_threshold 14 = .ok (.goto 4, 3) := by decide +kernel
theorem dX6_threshold_17 : decode cX6_threshold 17 = .ok (.iconst 1, 1) := by decide +kernel
theorem dX6_threshold_18 : decode cX6_threshold 18 = .ok (.putfield 64, 3) := by decide +kernel
theorem dX6_threshold_21 : decode cX6_threshold 21 = .ok (.aload_n 0, 1) := by decide +kernel
theorem dX6_threshold_22 : decode cX6_threshold 22 = .ok (.getfield 64, 3) := by decide +kernel
theorem dX6_threshold_25 : decode cX6_threshold 25 = .ok (.ifCond .le 5, 3) := by decide +kernel
theorem dX6_threshold_28 : decode cX6_threshold 28 = .ok (.iconst 0, 1) := by decide +kernel
theorem dX6_threshold_29 : decode cX6_threshold 29 = .ok (.ireturn, 1) := by decide +kernel
theorem dX6_threshold_30 : decode cX6_threshold 30 = .ok (.aload_n 0, 1) := by decide +kernel
theorem dX6_threshold_31 : decode cX6_threshold 31 = .ok (.iload_n 1, 1) := by decide +kernel
theorem dX6_threshold_32 : decode cX6_threshold 32 = .ok (.iload_n 2, 1) := by decide +kernel
theorem dX6_threshold_33 : decode cX6_threshold 33 = .ok (.invokevirtual 316, 3) := by decide +kernel
theorem dX6_threshold_36 : decode cX6_threshold 36 = .ok (.aload_n 0, 1) := by decide +kernel
theorem dX6_threshold_37 : decode cX6_threshold 37 = .ok (.invokevirtual 217, 3) := by decide +kernel
theorem dX6_threshold_40 : decode cX6_threshold 40 = .ok (.ireturn, 1) := by decide +kernel
theorem dX6_thrown_0 : decode cX6_thrown 0 = .ok (.aload_n 0, 1) := by decide +kernel
theorem dX6_thrown_1 : decode cX6_thrown 1 = .ok (.getfield 64, 3) := by decide +kernel
theorem dX6_thrown_4 : decode cX6_thrown 4 = .ok (.ireturn, 1) := by decide +kernel
theorem dX6_truncate_0 : decode cX6_truncate 0 = .ok (.aload_n 0, 1) := by decide +kernel
theorem dX6_truncate_1 : decode cX6_truncate 1 = .ok (.iconst 0, 1) := by decide +kernel
theorem dX6_truncate_2 : decode cX6_truncate 2 = .ok (.putfield 64, 3) := by decide +kernel
theorem dX6_truncate_5 : decode cX6_truncate 5 = .ok (.iload_n 1, 1) := by decide +kernel
theorem dX6_truncate_6 : decode cX6_truncate 6 = .ok (.i2l, 1) := by decide +kernel
theorem dX6_truncate_7 : decode cX6_truncate 7 = .ok (.lconst 0, 1) := by decide +kernel
theorem dX6_truncate_8 : decode cX6_truncate 8 = .ok (.aload_n 0, 1) := by decide +kernel
theorem dX6_truncate_9 : decode cX6_truncate 9 = .ok (.getfield 77, 3) := by decide +kernel
theorem dX6_truncate_12 : decode cX6_truncate 12 = .ok (.i2l, 1) := by decide +kernel
theorem dX6_truncate_13 : decode cX6_truncate 13 = .ok (.invokestatic 84, 3) := by decide +kernel
theorem dX6_truncate_16 : decode cX6_truncate 16 = .ok (.ifCond .ne 9, 3) := by decide +kernel
theorem dX6_truncate_19 : decode cX6_truncate 19 = .ok (.aload_n 0, 1) := by decide +kernel
theorem dX6_truncate_20 : decode cX6_truncate 20 = .ok (.iconst 1, 1) := by decide +kernel
theorem dX6_truncate_21 : decode cX6_truncate 21 = .ok (.invokevirtual 73, 3) := by decide +kernel
theorem dX6_truncate_24 : decode cX6_truncate 24 = .ok (.ireturn, 1) := by decide +kernel
theorem dX6_truncate_25 : decode cX6_truncate 25 = .ok (.aload_n 0, 1) := by decide +kernel
theorem dX6_truncate_26 : decode cX6_truncate 26 = .ok (.iload_n 1, 1) := by decide +kernel
theorem dX6_truncate_27 : decode cX6_truncate 27 = .ok (.putfield 77, 3) := by decide +kernel
theorem dX6_truncate_30 : decode cX6_truncate 30 = .ok (.aload_n 0, 1) := by decide +kernel
theorem dX6_truncate_31 : decode cX6_truncate 31 = .ok (.getfield 77, 3) := by decide +kernel
theorem dX6_truncate_34 : decode cX6_truncate 34 = .ok (.ireturn, 1) := by decide +kernel
theorem dX6_valueAt_0 : decode cX6_valueAt 0 = .ok (.aload_n 0, 1) := by decide +kernel
theorem dX6_valueAt_1 : decode cX6_valueAt 1 = .ok (.iload_n 1, 1) := by decide +kernel
theorem dX6_valueAt_2 : decode cX6_valueAt 2 = .ok (.i2l, 1) := by decide +kernel
theorem dX6_valueAt_3 : decode cX6_valueAt 3 = .ok (.aload_n 0, 1) := by decide +kernel
theorem dX6_valueAt_4 : decode cX6_valueAt 4 = .ok (.getfield 23, 3) := by decide +kernel
theorem dX6_valueAt_7 : decode cX6_valueAt 7 = .ok (.iconst 0, 1) := by decide +kernel
theorem dX6_valueAt_8 : decode cX6_valueAt 8 = .ok (.iaload, 1) := by decide +kernel
theorem dX6_valueAt_9 : decode cX6_valueAt 9 = .ok (.i2l, 1) := by decide +kernel
theorem dX6_valueAt_10 : decode cX6_valueAt 10 = .ok (.aload_n 0, 1) := by decide +kernel
theorem dX6_valueAt_11 : decode cX6_valueAt 11 = .ok (.getfield 23, 3) := by decide +kernel
theorem dX6_valueAt_14 : decode cX6_valueAt 14 = .ok (.aload_n 0, 1) := by decide +kernel
theorem dX6_valueAt_15 : decode cX6_valueAt 15 = .ok (.getfield 185, 3) := by decide +kernel
theorem dX6_valueAt_18 : decode cX6_valueAt 18 = .ok (.iconst 1, 1) := by decide +kernel
theorem dX6_valueAt_19 : decode cX6_valueAt 19 = .ok (.isub, 1) := by decide +kernel
theorem dX6_valueAt_20 : decode cX6_valueAt 20 = .ok (.iaload, 1) := by decide +kernel
theorem dX6_valueAt_21 : decode cX6_valueAt 21 = .ok (.i2l, 1) := by decide +kernel
theorem dX6_valueAt_22 : decode cX6_valueAt 22 = .ok (.invokestatic 84, 3) := by decide +kernel
theorem dX6_valueAt_25 : decode cX6_valueAt 25 = .ok (.ifCond .eq 7, 3) := by decide +kernel
theorem dX6_valueAt_28 : decode cX6_valueAt 28 = .ok (.iconst 0, 1) := by decide +kernel
theorem dX6_valueAt_29 : decode cX6_valueAt 29 = .ok (.goto 4, 3) := by decide +kernel
theorem dX6_valueAt_32 : decode cX6_valueAt 32 = .ok (.iconst 1, 1) := by decide +kernel
theorem dX6_valueAt_33 : decode cX6_valueAt 33 = .ok (.putfield 64, 3) := by decide +kernel
theorem dX6_valueAt_36 : decode cX6_valueAt 36 = .ok (.aload_n 0, 1) := by decide +kernel
theorem dX6_valueAt_37 : decode cX6_valueAt 37 = .ok (.getfield 64, 3) := by decide +kernel
theorem dX6_valueAt_40 : decode cX6_valueAt 40 = .ok (.ifCond .le 5, 3) := by decide +kernel
theorem dX6_valueAt_43 : decode cX6_valueAt 43 = .ok (.lconst 0, 1) := by decide +kernel
theorem dX6_valueAt_44 : decode cX6_valueAt 44 = .ok (.lreturn, 1) := by decide +kernel
theorem dX6_valueAt_45 : decode cX6_valueAt 45 = .ok (.iconst 0, 1) := by decide +kernel
theorem dX6_valueAt_46 : decode cX6_valueAt 46 = .ok (.istore_n 2, 1) := by decide +kernel
theorem dX6_valueAt_47 : decode cX6_valueAt 47 = .ok (.aload_n 0, 1) := by decide +kernel
theorem dX6_valueAt_48 : decode cX6_valueAt 48 = .ok (.iconst 0, 1) := by decide +kernel
theorem dX6_valueAt_49 : decode cX6_valueAt 49 = .ok (.iconst 1, 1) := by decide +kernel
theorem dX6_valueAt_50 : decode cX6_valueAt 50 = .ok (.invokevirtual 225, 3) := by decide +kernel
theorem dX6_valueAt_53 : decode cX6_valueAt 53 = .ok (.istore_n 3, 1) := by decide +kernel
theorem dX6_valueAt_54 : decode cX6_valueAt 54 = .ok (.aload_n 0, 1) := by decide +kernel
theorem dX6_valueAt_55 : decode cX6_valueAt 55 = .ok (.getfield 23, 3) := by decide +kernel
theorem dX6_valueAt_58 : decode cX6_valueAt 58 = .ok (.iload_n 3, 1) := by decide +kernel
theorem dX6_valueAt_59 : decode cX6_valueAt 59 = .ok (.iaload, 1) := by decide +kernel
theorem dX6_valueAt_60 : decode cX6_valueAt 60 = .ok (.iload_n 1, 1) := by decide +kernel
theorem dX6_valueAt_61 : decode cX6_valueAt 61 = .ok (.if_icmp .ge 15, 3) := by decide +kernel
theorem dX6_valueAt_76 : decode cX6_valueAt 76 = .ok (.aload_n 0, 1) := by decide +kernel
theorem dX6_valueAt_77 : decode cX6_valueAt 77 = .ok (.getfield 7, 3) := by decide +kernel
theorem dX6_valueAt_80 : decode cX6_valueAt 80 = .ok (.iconst 5, 1) := by decide +kernel
theorem dX6_valueAt_81 : decode cX6_valueAt 81 = .ok (.iload_n 2, 1) := by decide +kernel
theorem dX6_valueAt_82 : decode cX6_valueAt 82 = .ok (.iadd, 1) := by decide +kernel
theorem dX6_valueAt_83 : decode cX6_valueAt 83 = .ok (.laload, 1) := by decide +kernel
theorem dX6_valueAt_84 : decode cX6_valueAt 84 = .ok (.aload_n 0, 1) := by decide +kernel
theorem dX6_valueAt_85 : decode cX6_valueAt 85 = .ok (.getfield 7, 3) := by decide +kernel
theorem dX6_valueAt_88 : decode cX6_valueAt 88 = .ok (.iconst 5, 1) := by decide +kernel
theorem dX6_valueAt_89 : decode cX6_valueAt 89 = .ok (.iload_n 3, 1) := by decide +kernel
theorem dX6_valueAt_90 : decode cX6_valueAt 90 = .ok (.iadd, 1) := by decide +kernel
theorem dX6_valueAt_91 : decode cX6_valueAt 91 = .ok (.laload, 1) := by decide +kernel
theorem dX6_valueAt_92 : decode cX6_valueAt 92 = .ok (.aload_n 0, 1) := by decide +kernel
theorem dX6_valueAt_93 : decode cX6_valueAt 93 = .ok (.getfield 7, 3) := by decide +kernel
theorem dX6_valueAt_96 : decode cX6_valueAt 96 = .ok (.iconst 5, 1) := by decide +kernel
theorem dX6_valueAt_97 : decode cX6_valueAt 97 = .ok (.iload_n 2, 1) := by decide +kernel
theorem dX6_valueAt_98 : decode cX6_valueAt 98 = .ok (.iadd, 1) := by decide +kernel
theorem dX6_valueAt_99 : decode cX6_valueAt 99 = .ok (.laload, 1) := by decide +kernel
theorem dX6_valueAt_100 : decode cX6_valueAt 100 = .ok (.lsub, 1) := by decide +kernel
theorem dX6_valueAt_101 : decode cX6_valueAt 101 = .ok (.iload_n 1, 1) := by decide +kernel
theorem dX6_valueAt_102 : decode cX6_valueAt 102 = .ok (.aload_n 0, 1) := by decide +kernel
theorem dX6_valueAt_103 : decode cX6_valueAt 103 = .ok (.getfield 23, 3) := by decide +kernel
theorem dX6_valueAt_106 : decode cX6_valueAt 106 = .ok (.iload_n 2, 1) := by decide +kernel
theorem dX6_valueAt_107 : decode cX6_valueAt 107 = .ok (.iaload, 1) := by decide +kernel
theorem dX6_valueAt_108 : decode cX6_valueAt 108 = .ok (.isub, 1) := by decide +kernel
theorem dX6_valueAt_109 : decode cX6_valueAt 109 = .ok (.i2l, 1) := by decide +kernel
theorem dX6_valueAt_110 : decode cX6_valueAt 110 = .ok (.lmul, 1) := by decide +kernel
theorem dX6_valueAt_111 : decode cX6_valueAt 111 = .ok (.aload_n 0, 1) := by decide +kernel
theorem dX6_valueAt_112 : decode cX6_valueAt 112 = .ok (.getfield 23, 3) := by decide +kernel
theorem dX6_valueAt_115 : decode cX6_valueAt 115 = .ok (.iload_n 3, 1) := by decide +kernel
theorem dX6_valueAt_116 : decode cX6_valueAt 116 = .ok (.iaload, 1) := by decide +kernel
theorem dX6_valueAt_117 : decode cX6_valueAt 117 = .ok (.aload_n 0, 1) := by decide +kernel
theorem dX6_valueAt_118 : decode cX6_valueAt 118 = .ok (.getfield 23, 3) := by decide +kernel
theorem dX6_valueAt_121 : decode cX6_valueAt 121 = .ok (.iload_n 2, 1) := by decide +kernel
theorem dX6_valueAt_122 : decode cX6_valueAt 122 = .ok (.iaload, 1) := by decide +kernel
theorem dX6_valueAt_123 : decode cX6_valueAt 123 = .ok (.isub, 1) := by decide +kernel
theorem dX6_valueAt_124 : decode cX6_valueAt 124 = .ok (.i2l, 1) := by decide +kernel
theorem dX6_valueAt_125 : decode cX6_valueAt 125 = .ok (.invokestatic 232, 3) := by decide +kernel
theorem dX6_valueAt_128 : decode cX6_valueAt 128 = .ok (.ladd, 1) := by decide +kernel
theorem dX6_valueAt_129 : decode cX6_valueAt 129 = .ok (.lreturn, 1) := by decide +kernel
theorem dX6_weights_0 : decode cX6_weights 0 = .ok (.lconst 0, 1) := by decide +kernel
theorem dX6_weights_1 : decode cX6_weights 1 = .ok (.lstore_n 1, 1) := by decide +kernel
theorem dX6_weights_2 : decode cX6_weights 2 = .ok (.iconst 0, 1) := by decide +kernel
theorem dX6_weights_3 : decode cX6_weights 3 = .ok (.istore_n 3, 1) := by decide +kernel
theorem dX6_weights_4 : decode cX6_weights 4 = .ok (.iload_n 3, 1) := by decide +kernel
theorem dX6_weights_5 : decode cX6_weights 5 = .ok (.aload_n 0, 1) := by decide +kernel
theorem dX6_weights_6 : decode cX6_weights 6 = .ok (.getfield 185, 3) := by decide +kernel
theorem dX6_weights_9 : decode cX6_weights 9 = .ok (.if_icmp .ge 33, 3) := by decide +kernel
theorem dX6_weights_12 : decode cX6_weights 12 = .ok (.lload_n 1, 1) := by decide +kernel
theorem dX6_weights_13 : decode cX6_weights 13 = .ok (.aload_n 0, 1) := by decide +kernel
theorem dX6_weights_14 : decode cX6_weights 14 = .ok (.iload_n 3, 1) := by decide +kernel
theorem dX6_weights_15 : decode cX6_weights 15 = .ok (.invokevirtual 202, 3) := by decide +kernel
theorem dX6_weights_18 : decode cX6_weights 18 = .ok (.ifCond .eq 15, 3) := by decide +kernel
theorem dX6_weights_21 : decode cX6_weights 21 = .ok (.aload_n 0, 1) := by decide +kernel
theorem dX6_weights_22 : decode cX6_weights 22 = .ok (.getfield 7, 3) := by decide +kernel
theorem dX6_weights_25 : decode cX6_weights 25 = .ok (.bipush 53, 2) := by decide +kernel
theorem dX6_weights_27 : decode cX6_weights 27 = .ok (.iload_n 3, 1) := by decide +kernel
theorem dX6_weights_28 : decode cX6_weights 28 = .ok (.iadd, 1) := by decide +kernel
theorem dX6_weights_29 : decode cX6_weights 29 = .ok (.laload, 1) := by decide +kernel
theorem dX6_weights_30 : decode cX6_weights 30 = .ok (.goto 4, 3) := by decide +kernel
theorem dX6_weights_34 : decode cX6_weights 34 = .ok (.ladd, 1) := by decide +kernel
theorem dX6_weights_35 : decode cX6_weights 35 = .ok (.lstore_n 1, 1) := by decide +kernel
theorem dX6_weights_36 : decode cX6_weights 36 = .ok (.iinc 3 1, 3) := by decide +kernel
theorem dX6_weights_39 : decode cX6_weights 39 = .ok (.goto (-35), 3) := by decide +kernel
theorem dX6_weights_42 : decode cX6_weights 42 = .ok (.lload_n 1, 1) := by decide +kernel
theorem dX6_weights_43 : decode cX6_weights 43 = .ok (.lreturn, 1) := by decide +kernel
theorem dX6_whole_0 : decode cX6_whole 0 = .ok (.aload_n 0, 1) := by decide +kernel
theorem dX6_whole_1 : decode cX6_whole 1 = .ok (.getfield 7, 3) := by decide +kernel
theorem dX6_whole_4 : decode cX6_whole 4 = .ok (.iconst 3, 1) := by decide +kernel
theorem dX6_whole_5 : decode cX6_whole 5 = .ok (.laload, 1) := by decide +kernel
theorem dX6_whole_6 : decode cX6_whole 6 = .ok (.lstore_n 1, 1) := by decide +kernel
theorem dX6_whole_7 : decode cX6_whole 7 = .ok (.iconst 0, 1) := by decide +kernel
theorem dX6_whole_8 : decode cX6_whole 8 = .ok (.istore_n 3, 1) := by decide +kernel
theorem dX6_whole_9 : decode cX6_whole 9 = .ok (.iload_n 3, 1) := by decide +kernel
theorem dX6_whole_10 : decode cX6_whole 10 = .ok (.aload_n 0, 1) := by decide +kernel
theorem dX6_whole_11 : decode cX6_whole 11 = .ok (.getfield 185, 3) := by decide +kernel
theorem dX6_whole_14 : decode cX6_whole 14 = .ok (.if_icmp .ge 42, 3) := by decide +kernel
theorem dX6_whole_17 : decode cX6_whole 17 = .ok (.lload_n 1, 1) := by decide +kernel
theorem dX6_whole_18 : decode cX6_whole 18 = .ok (.aload_n 0, 1) := by decide +kernel
theorem dX6_whole_19 : decode cX6_whole 19 = .ok (.iload_n 3, 1) := by decide +kernel
theorem dX6_whole_20 : decode cX6_whole 20 = .ok (.invokevirtual 202, 3) := by decide +kernel
theorem dX6_whole_23 : decode cX6_whole 23 = .ok (.ifCond .eq 24, 3) := by decide +kernel
theorem dX6_whole_26 : decode cX6_whole 26 = .ok (.aload_n 0, 1) := by decide +kernel
theorem dX6_whole_27 : decode cX6_whole 27 = .ok (.getfield 7, 3) := by decide +kernel
theorem dX6_whole_30 : decode cX6_whole 30 = .ok (.bipush 53, 2) := by decide +kernel
theorem dX6_whole_32 : decode cX6_whole 32 = .ok (.iload_n 3, 1) := by decide +kernel
theorem dX6_whole_33 : decode cX6_whole 33 = .ok (.iadd, 1) := by decide +kernel
theorem dX6_whole_34 : decode cX6_whole 34 = .ok (.laload, 1) := by decide +kernel
theorem dX6_whole_35 : decode cX6_whole 35 = .ok (.aload_n 0, 1) := by decide +kernel
theorem dX6_whole_36 : decode cX6_whole 36 = .ok (.getfield 7, 3) := by decide +kernel
theorem dX6_whole_39 : decode cX6_whole 39 = .ok (.iconst 5, 1) := by decide +kernel
theorem dX6_whole_40 : decode cX6_whole 40 = .ok (.iload_n 3, 1) := by decide +kernel
theorem dX6_whole_41 : decode cX6_whole 41 = .ok (.iadd, 1) := by decide +kernel
theorem dX6_whole_42 : decode cX6_whole 42 = .ok (.laload, 1) := by decide +kernel
theorem dX6_whole_43 : decode cX6_whole 43 = .ok (.lmul, 1) := by decide +kernel
theorem dX6_whole_44 : decode cX6_whole 44 = .ok (.goto 4, 3) := by decide +kernel
theorem dX6_whole_48 : decode cX6_whole 48 = .ok (.ladd, 1) := by decide +kernel
theorem dX6_whole_49 : decode cX6_whole 49 = .ok (.lstore_n 1, 1) := by decide +kernel
theorem dX6_whole_50 : decode cX6_whole 50 = .ok (.iinc 3 1, 3) := by decide +kernel
theorem dX6_whole_53 : decode cX6_whole 53 = .ok (.goto (-44), 3) := by decide +kernel
theorem dX6_whole_56 : decode cX6_whole 56 = .ok (.lload_n 1, 1) := by decide +kernel
theorem dX6_whole_57 : decode cX6_whole 57 = .ok (.lreturn, 1) := by decide +kernel
theorem dX6_word_0 : decode cX6_word 0 = .ok (.lconst 0, 1) := by decide +kernel
theorem dX6_word_1 : decode cX6_word 1 = .ok (.lstore_n 1, 1) := by decide +kernel
theorem dX6_word_2 : decode cX6_word 2 = .ok (.aload_n 0, 1) := by decide +kernel
theorem dX6_word_3 : decode cX6_word 3 = .ok (.invokevirtual 102, 3) := by decide +kernel
theorem dX6_word_6 : decode cX6_word 6 = .ok (.iconst (-1), 1) := by decide +kernel
theorem dX6_word_7 : decode cX6_word 7 = .ok (.if_icmp .ne 10, 3) := by decide +kernel
theorem dX6_word_10 : decode cX6_word 10 = .ok (.aload_n 0, 1) := by decide +kernel
theorem dX6_word_11 : decode cX6_word 11 = .ok (.getfield 88, 3) := by decide +kernel
theorem dX6_word_14 : decode cX6_word 14 = .ok (.goto 7, 3) := by decide +kernel
theorem dX6_word_21 : decode cX6_word 21 = .ok (.istore_n 3, 1) := by decide +kernel
theorem dX6_word_22 : decode cX6_word 22 = .ok (.aload_n 0, 1) := by decide +kernel
theorem dX6_word_23 : decode cX6_word 23 = .ok (.getfield 88, 3) := by decide +kernel
theorem dX6_word_26 : decode cX6_word 26 = .ok (.istore 4, 2) := by decide +kernel
theorem dX6_word_28 : decode cX6_word 28 = .ok (.iload 4, 2) := by decide +kernel
theorem dX6_word_30 : decode cX6_word 30 = .ok (.iload_n 3, 1) := by decide +kernel
theorem dX6_word_31 : decode cX6_word 31 = .ok (.if_icmp .ge 43, 3) := by decide +kernel
theorem dX6_word_74 : decode cX6_word 74 = .ok (.lload_n 1, 1) := by decide +kernel
theorem dX6_word_75 : decode cX6_word 75 = .ok (.lreturn, 1) := by decide +kernel
theorem dX6_wrong_0 : decode cX6_wrong 0 = .ok (.aload_n 0, 1) := by decide +kernel
theorem dX6_wrong_1 : decode cX6_wrong 1 = .ok (.getfield 91, 3) := by decide +kernel
theorem dX6_wrong_4 : decode cX6_wrong 4 = .ok (.ifCond .eq 4, 3) := by decide +kernel
theorem dX6_wrong_8 : decode cX6_wrong 8 = .ok (.aload_n 0, 1) := by decide +kernel
theorem dX6_wrong_9 : decode cX6_wrong 9 = .ok (.iconst 1, 1) := by decide +kernel
theorem dX6_wrong_10 : decode cX6_wrong 10 = .ok (.putfield 91, 3) := by decide +kernel
theorem dX6_wrong_13 : decode cX6_wrong 13 = .ok (.aload_n 0, 1) := by decide +kernel
theorem dX6_wrong_14 : decode cX6_wrong 14 = .ok (.iload_n 1, 1) := by decide +kernel
theorem dX6_wrong_15 : decode cX6_wrong 15 = .ok (.putfield 95, 3) := by decide +kernel
theorem dX6_wrong_18 : decode cX6_wrong 18 = .ok (.aload_n 0, 1) := by decide +kernel
theorem dX6_wrong_19 : decode cX6_wrong 19 = .ok (.iload_n 2, 1) := by decide +kernel
theorem dX6_wrong_20 : decode cX6_wrong 20 = .ok (.putfield 37, 3) := by decide +kernel
theorem dX6_wrong_23 : decode cX6_wrong 23 = .ok (.return_, 1) := by decide +kernel
theorem dX6_zeros_0 : decode cX6_zeros 0 = .ok (.iconst 0, 1) := by decide +kernel
theorem dX6_zeros_1 : decode cX6_zeros 1 = .ok (.istore_n 1, 1) := by decide +kernel
theorem dX6_zeros_2 : decode cX6_zeros 2 = .ok (.iconst 0, 1) := by decide +kernel
theorem dX6_zeros_3 : decode cX6_zeros 3 = .ok (.istore_n 2, 1) := by decide +kernel
theorem dX6_zeros_4 : decode cX6_zeros 4 = .ok (.iload_n 2, 1) := by decide +kernel
theorem dX6_zeros_5 : decode cX6_zeros 5 = .ok (.aload_n 0, 1) := by decide +kernel
theorem dX6_zeros_6 : decode cX6_zeros 6 = .ok (.invokevirtual 199, 3) := by decide +kernel
theorem dX6_zeros_9 : decode cX6_zeros 9 = .ok (.if_icmp .ge 28, 3) := by decide +kernel
theorem dX6_zeros_37 : decode cX6_zeros 37 = .ok (.iload_n 1, 1) := by decide +kernel
theorem dX6_zeros_38 : decode cX6_zeros 38 = .ok (.ireturn, 1) := by decide +kernel
