theorem k0 : Cond.selects RX4 yX4_lowest yX4_lowest ∈ GW := gm 0 (by decide +kernel) (by decide +kernel)
theorem k5 : Cond.selects RX4 yX4_amountFrom yX4_amountFrom ∈ GW := gm 5 (by decide +kernel) (by decide +kernel)
theorem k6 : Cond.selects RX4 yX4_limbAt yX4_limbAt ∈ GW := gm 6 (by decide +kernel) (by decide +kernel)
theorem k7 : Cond.selects RX4 yX4_isAnyBitBelow yX4_isAnyBitBelow ∈ GW := gm 7 (by decide +kernel) (by decide +kernel)
theorem k8 : Cond.selects RX5 yX5_beginTrial yX5_beginTrial ∈ GW := gm 8 (by decide +kernel) (by decide +kernel)
theorem k10 : Cond.selects RX1 yX1_predictInto yX1_predictInto ∈ GW := gm 10 (by decide +kernel) (by decide +kernel)
theorem k17 : Cond.selects RX3 yX3_pass yX3_pass ∈ GW := gm 17 (by decide +kernel) (by decide +kernel)
theorem k20 : Cond.selects RX3 yX3_readSettings yX3_readSettings ∈ GW := gm 20 (by decide +kernel) (by decide +kernel)
theorem k21 : Cond.selects RX3 yX3_settingHere yX3_settingHere ∈ GW := gm 21 (by decide +kernel) (by decide +kernel)
theorem k22 : Cond.selects RX3 yX3_isWord yX3_isWord ∈ GW := gm 22 (by decide +kernel) (by decide +kernel)
theorem k23 : Cond.selects RX3 yX3_isWrong yX3_isWrong ∈ GW := gm 23 (by decide +kernel) (by decide +kernel)
theorem k27 : Cond.selects RX3 yX3_readSamples yX3_readSamples ∈ GW := gm 27 (by decide +kernel) (by decide +kernel)
theorem k30 : Cond.selects RX5 yX5_refuse yX5_refuse ∈ GW := gm 30 (by decide +kernel) (by decide +kernel)
theorem k32 : Cond.selects RX1 yX1_differenceInto yX1_differenceInto ∈ GW := gm 32 (by decide +kernel) (by decide +kernel)
theorem k33 : Cond.selects RX5 yX5_errorOfCut yX5_errorOfCut ∈ GW := gm 33 (by decide +kernel) (by decide +kernel)
theorem k34 : Cond.selects RX6 yX6_takesText yX6_takesText ∈ GW := gm 34 (by decide +kernel) (by decide +kernel)
theorem k35 : Cond.selects RX6 yX6_anew yX6_anew ∈ GW := gm 35 (by decide +kernel) (by decide +kernel)
theorem k36 : Cond.selects RX6 yX6_four yX6_four ∈ GW := gm 36 (by decide +kernel) (by decide +kernel)
theorem k37 : Cond.selects RX6 yX6_fails yX6_fails ∈ GW := gm 37 (by decide +kernel) (by decide +kernel)
theorem k38 : Cond.selects RX6 yX6_reads yX6_reads ∈ GW := gm 38 (by decide +kernel) (by decide +kernel)
theorem k39 : Cond.selects RX6 yX6_setting yX6_setting ∈ GW := gm 39 (by decide +kernel) (by decide +kernel)
theorem k40 : Cond.selects RX6 yX6_isWord yX6_isWord ∈ GW := gm 40 (by decide +kernel) (by decide +kernel)
theorem k41 : Cond.selects RX6 yX6_word yX6_word ∈ GW := gm 41 (by decide +kernel) (by decide +kernel)
theorem k42 : Cond.selects RX6 yX6_here yX6_here ∈ GW := gm 42 (by decide +kernel) (by decide +kernel)
theorem k45 : Cond.selects RX6 yX6_wrong yX6_wrong ∈ GW := gm 45 (by decide +kernel) (by decide +kernel)
theorem k51 : Cond.selects RX6 yX6_presents yX6_presents ∈ GW := gm 51 (by decide +kernel) (by decide +kernel)
theorem k52 : Cond.selects RX6 yX6_steps yX6_steps ∈ GW := gm 52 (by decide +kernel) (by decide +kernel)
theorem k53 : Cond.selects RX6 yX6_zeros yX6_zeros ∈ GW := gm 53 (by decide +kernel) (by decide +kernel)
theorem k55 : Cond.selects RX6 yX6_weights yX6_weights ∈ GW := gm 55 (by decide +kernel) (by decide +kernel)
theorem k56 : Cond.selects RX6 yX6_isPresent yX6_isPresent ∈ GW := gm 56 (by decide +kernel) (by decide +kernel)
theorem k57 : Cond.selects RX6 yX6_isSample yX6_isSample ∈ GW := gm 57 (by decide +kernel) (by decide +kernel)
theorem k58 : Cond.selects RX6 yX6_beside yX6_beside ∈ GW := gm 58 (by decide +kernel) (by decide +kernel)
theorem k59 : Cond.selects RX6 yX6_isStep yX6_isStep ∈ GW := gm 59 (by decide +kernel) (by decide +kernel)
theorem k60 : Cond.selects RX6 yX6_whole yX6_whole ∈ GW := gm 60 (by decide +kernel) (by decide +kernel)
theorem k61 : Cond.selects RX6 yX6_bitsNow yX6_bitsNow ∈ GW := gm 61 (by decide +kernel) (by decide +kernel)
theorem k63 : Cond.selects RX6 yX6_nextOne yX6_nextOne ∈ GW := gm 63 (by decide +kernel) (by decide +kernel)
theorem k64 : Cond.selects RX6 yX6_isInner yX6_isInner ∈ GW := gm 64 (by decide +kernel) (by decide +kernel)
theorem k69 : Cond.selects RX6 yX6_sets yX6_sets ∈ GW := gm 69 (by decide +kernel) (by decide +kernel)
theorem k70 : Cond.selects RX6 yX6_stateFails yX6_stateFails ∈ GW := gm 70 (by decide +kernel) (by decide +kernel)
theorem k71 : Cond.selects RX6 yX6_goesOn yX6_goesOn ∈ GW := gm 71 (by decide +kernel) (by decide +kernel)
theorem k77 : Cond.selects RX6 yX6_cuts yX6_cuts ∈ GW := gm 77 (by decide +kernel) (by decide +kernel)
theorem k78 : Cond.selects RX6 yX6_puts yX6_puts ∈ GW := gm 78 (by decide +kernel) (by decide +kernel)
theorem k79 : Cond.selects RX6 yX6_errorOf yX6_errorOf ∈ GW := gm 79 (by decide +kernel) (by decide +kernel)
theorem k80 : Cond.selects RX6 yX6_takesBack yX6_takesBack ∈ GW := gm 80 (by decide +kernel) (by decide +kernel)
theorem k81 : Cond.selects RX6 yX6_errorBy yX6_errorBy ∈ GW := gm 81 (by decide +kernel) (by decide +kernel)
theorem k82 : Cond.selects RX6 yX6_bitsOf yX6_bitsOf ∈ GW := gm 82 (by decide +kernel) (by decide +kernel)
theorem k83 : Cond.initialized RL ∈ GW := gm 83 (by decide +kernel) (by decide +kernel)
theorem k84 : Cond.initialized RX5 ∈ GW := gm 84 (by decide +kernel) (by decide +kernel)
theorem k85 : Cond.initialized RX3 ∈ GW := gm 85 (by decide +kernel) (by decide +kernel)
theorem k86 : Cond.initialized RX0 ∈ GW := gm 86 (by decide +kernel) (by decide +kernel)
theorem k87 : Cond.initialized RX1 ∈ GW := gm 87 (by decide +kernel) (by decide +kernel)
theorem k88 : Cond.initialized RX4 ∈ GW := gm 88 (by decide +kernel) (by decide +kernel)
theorem k89 : Cond.initialized RX2 ∈ GW := gm 89 (by decide +kernel) (by decide +kernel)
theorem k90 : Cond.initialized RJ9 ∈ GW := gm 90 (by decide +kernel) (by decide +kernel)
theorem k91 : Cond.initialized RJ10 ∈ GW := gm 91 (by decide +kernel) (by decide +kernel)
theorem k92 : Cond.initialized RX6 ∈ GW := gm 92 (by decide +kernel) (by decide +kernel)
theorem k96 : Cond.initialized "java/lang/IndexOutOfBoundsException" ∈ GW := gm 96 (by decide +kernel) (by decide +kernel)
theorem k101 : Cond.initialized "java/lang/IllegalArgumentException" ∈ GW := gm 101 (by decide +kernel) (by decide +kernel)
theorem k103 : Cond.initialized "java/util/NoSuchElementException" ∈ GW := gm 103 (by decide +kernel) (by decide +kernel)
theorem k104 : Cond.initialized "java/lang/IllegalStateException" ∈ GW := gm 104 (by decide +kernel) (by decide +kernel)
theorem k110 : Cond.methodLink RX5 3 objectInit ∈ GW := gm 110 (by decide +kernel) (by decide +kernel)
theorem k111 : Cond.instanceMethod objectInit ∈ GW := gm 111 (by decide +kernel) (by decide +kernel)
theorem k112 : Cond.code objectInit ⟨#[0xb1]⟩ 1 none ∈ GW := gm 112 (by decide +kernel) (by decide +kernel)
theorem k113 : Cond.classLink RX5 9 RX3 ∈ GW := gm 113 (by decide +kernel) (by decide +kernel)
theorem k114 : Cond.instantiable RX3 8 ∈ GW := gm 114 (by decide +kernel) (by decide +kernel)
theorem k116 : Cond.instanceMethod yX3_init ∈ GW := gm 116 (by decide +kernel) (by decide +kernel)
theorem k117 : Cond.code yX3_init cX3_init 1 none ∈ GW := gm 117 (by decide +kernel) (by decide +kernel)
theorem k118 : Cond.methodLink RX3 3 objectInit ∈ GW := gm 118 (by decide +kernel) (by decide +kernel)
theorem k119 : Cond.fieldLink RX3 11 "LiftingSignal$Text" "bytes" "[B" ∈ GW := gm 119 (by decide +kernel) (by decide +kernel)
theorem k120 : Cond.fieldLink RX3 15 "LiftingSignal$Text" "length" "I" ∈ GW := gm 120 (by decide +kernel) (by decide +kernel)
theorem k121 : Cond.fieldLink RX5 74 "LiftingSignal$Text" "length" "I" ∈ GW := gm 121 (by decide +kernel) (by decide +kernel)
theorem k122 : Cond.fieldLink RX3 19 "LiftingSignal$Text" "errorCode" "I" ∈ GW := gm 122 (by decide +kernel) (by decide +kernel)
theorem k123 : Cond.fieldLink RX5 97 "LiftingSignal$Text" "errorCode" "I" ∈ GW := gm 123 (by decide +kernel) (by decide +kernel)
theorem k124 : Cond.fieldLink RX3 22 "LiftingSignal$Text" "errorPosition" "I" ∈ GW := gm 124 (by decide +kernel) (by decide +kernel)
theorem k125 : Cond.fieldLink RX5 100 "LiftingSignal$Text" "errorPosition" "I" ∈ GW := gm 125 (by decide +kernel) (by decide +kernel)
theorem k126 : Cond.fieldLink RX3 25 "LiftingSignal$Text" "kind" "I" ∈ GW := gm 126 (by decide +kernel) (by decide +kernel)
theorem k127 : Cond.fieldLink RX3 28 "LiftingSignal$Text" "start" "I" ∈ GW := gm 127 (by decide +kernel) (by decide +kernel)
theorem k128 : Cond.fieldLink RX3 31 "LiftingSignal$Text" "end" "I" ∈ GW := gm 128 (by decide +kernel) (by decide +kernel)
theorem k129 : Cond.fieldLink RX3 34 "LiftingSignal$Text" "number" "I" ∈ GW := gm 129 (by decide +kernel) (by decide +kernel)
theorem k147 : Cond.arrayClass .byte ∈ GW := gm 147 (by decide +kernel) (by decide +kernel)
theorem k148 : Cond.classLink RX5 16 RX0 ∈ GW := gm 148 (by decide +kernel) (by decide +kernel)
theorem k149 : Cond.instantiable RX0 7 ∈ GW := gm 149 (by decide +kernel) (by decide +kernel)
theorem k151 : Cond.instanceMethod yX0_init ∈ GW := gm 151 (by decide +kernel) (by decide +kernel)
theorem k152 : Cond.code yX0_init cX0_init 1 none ∈ GW := gm 152 (by decide +kernel) (by decide +kernel)
theorem k153 : Cond.methodLink RX0 3 objectInit ∈ GW := gm 153 (by decide +kernel) (by decide +kernel)
theorem k154 : Cond.fieldLink RX0 9 "LiftingSignal$Source" "position" "[I" ∈ GW := gm 154 (by decide +kernel) (by decide +kernel)
theorem k155 : Cond.fieldLink RX5 132 "LiftingSignal$Source" "position" "[I" ∈ GW := gm 155 (by decide +kernel) (by decide +kernel)
theorem k157 : Cond.fieldLink RX1 108 "LiftingSignal$Source" "position" "[I" ∈ GW := gm 157 (by decide +kernel) (by decide +kernel)
theorem k158 : Cond.fieldLink RX0 15 "LiftingSignal$Source" "original" "[I" ∈ GW := gm 158 (by decide +kernel) (by decide +kernel)
theorem k159 : Cond.fieldLink RX1 63 "LiftingSignal$Source" "original" "[I" ∈ GW := gm 159 (by decide +kernel) (by decide +kernel)
theorem k160 : Cond.fieldLink RX5 136 "LiftingSignal$Source" "original" "[I" ∈ GW := gm 160 (by decide +kernel) (by decide +kernel)
theorem k161 : Cond.fieldLink RX0 18 "LiftingSignal$Source" "count" "I" ∈ GW := gm 161 (by decide +kernel) (by decide +kernel)
theorem k162 : Cond.fieldLink RX1 58 "LiftingSignal$Source" "count" "I" ∈ GW := gm 162 (by decide +kernel) (by decide +kernel)
theorem k163 : Cond.fieldLink RX5 94 "LiftingSignal$Source" "count" "I" ∈ GW := gm 163 (by decide +kernel) (by decide +kernel)
theorem k165 : Cond.fieldLink RX0 22 "LiftingSignal$Source" "split" "I" ∈ GW := gm 165 (by decide +kernel) (by decide +kernel)
theorem k166 : Cond.fieldLink RX1 74 "LiftingSignal$Source" "split" "I" ∈ GW := gm 166 (by decide +kernel) (by decide +kernel)
theorem k168 : Cond.fieldLink RX0 25 "LiftingSignal$Source" "predict" "I" ∈ GW := gm 168 (by decide +kernel) (by decide +kernel)
theorem k169 : Cond.fieldLink RX1 78 "LiftingSignal$Source" "predict" "I" ∈ GW := gm 169 (by decide +kernel) (by decide +kernel)
theorem k171 : Cond.fieldLink RX0 28 "LiftingSignal$Source" "isKeep" "Z" ∈ GW := gm 171 (by decide +kernel) (by decide +kernel)
theorem k172 : Cond.fieldLink RX1 82 "LiftingSignal$Source" "isKeep" "Z" ∈ GW := gm 172 (by decide +kernel) (by decide +kernel)
theorem k174 : Cond.fieldLink RX0 32 "LiftingSignal$Source" "least" "I" ∈ GW := gm 174 (by decide +kernel) (by decide +kernel)
theorem k175 : Cond.fieldLink RX5 123 "LiftingSignal$Source" "least" "I" ∈ GW := gm 175 (by decide +kernel) (by decide +kernel)
theorem k177 : Cond.fieldLink RX1 120 "LiftingSignal$Source" "least" "I" ∈ GW := gm 177 (by decide +kernel) (by decide +kernel)
theorem k193 : Cond.arrayClass .int ∈ GW := gm 193 (by decide +kernel) (by decide +kernel)
theorem k194 : Cond.classLink RX5 26 RX1 ∈ GW := gm 194 (by decide +kernel) (by decide +kernel)
theorem k195 : Cond.instantiable RX1 13 ∈ GW := gm 195 (by decide +kernel) (by decide +kernel)
theorem k196 : Cond.methodLink RX5 28 yX1_init ∈ GW := gm 196 (by decide +kernel) (by decide +kernel)
theorem k197 : Cond.instanceMethod yX1_init ∈ GW := gm 197 (by decide +kernel) (by decide +kernel)
theorem k198 : Cond.code yX1_init cX1_init 3 none ∈ GW := gm 198 (by decide +kernel) (by decide +kernel)
theorem k199 : Cond.methodLink RX1 3 objectInit ∈ GW := gm 199 (by decide +kernel) (by decide +kernel)
theorem k200 : Cond.classLink RX1 9 RX4 ∈ GW := gm 200 (by decide +kernel) (by decide +kernel)
theorem k202 : Cond.classLink RX1 25 RX2 ∈ GW := gm 202 (by decide +kernel) (by decide +kernel)
theorem k204 : Cond.instantiable RX4 3 ∈ GW := gm 204 (by decide +kernel) (by decide +kernel)
theorem k206 : Cond.instanceMethod yX4_init ∈ GW := gm 206 (by decide +kernel) (by decide +kernel)
theorem k207 : Cond.code yX4_init cX4_init 1 none ∈ GW := gm 207 (by decide +kernel) (by decide +kernel)
theorem k208 : Cond.methodLink RX4 1 objectInit ∈ GW := gm 208 (by decide +kernel) (by decide +kernel)
theorem k209 : Cond.fieldLink RX4 7 "LiftingSignal$Whole" "limbs" "[I" ∈ GW := gm 209 (by decide +kernel) (by decide +kernel)
theorem k210 : Cond.fieldLink RX4 13 "LiftingSignal$Whole" "used" "I" ∈ GW := gm 210 (by decide +kernel) (by decide +kernel)
theorem k211 : Cond.fieldLink RX4 17 "LiftingSignal$Whole" "isNegative" "Z" ∈ GW := gm 211 (by decide +kernel) (by decide +kernel)
theorem k219 : Cond.arrayClass .long ∈ GW := gm 219 (by decide +kernel) (by decide +kernel)
theorem k220 : Cond.instantiable RX2 10 ∈ GW := gm 220 (by decide +kernel) (by decide +kernel)
theorem k222 : Cond.instanceMethod yX2_init ∈ GW := gm 222 (by decide +kernel) (by decide +kernel)
theorem k223 : Cond.code yX2_init cX2_init 1 none ∈ GW := gm 223 (by decide +kernel) (by decide +kernel)
theorem k224 : Cond.methodLink RX2 1 objectInit ∈ GW := gm 224 (by decide +kernel) (by decide +kernel)
theorem k225 : Cond.classLink RX2 7 RX4 ∈ GW := gm 225 (by decide +kernel) (by decide +kernel)
theorem k250 : Cond.fieldLink RX2 10 "LiftingSignal$Step" "detail" "LLiftingSignal$Whole;" ∈ GW := gm 250 (by decide +kernel) (by decide +kernel)
theorem k274 : Cond.methodLink RX1 54 yX4_become ∈ GW := gm 274 (by decide +kernel) (by decide +kernel)
theorem k275 : Cond.instanceMethod yX4_become ∈ GW := gm 275 (by decide +kernel) (by decide +kernel)
theorem k276 : Cond.selects RX4 yX4_become yX4_become ∈ GW := gm 276 (by decide +kernel) (by decide +kernel)
theorem k277 : Cond.code yX4_become cX4_become 5 none ∈ GW := gm 277 (by decide +kernel) (by decide +kernel)
theorem k278 : Cond.fieldLink RX1 49 "LiftingSignal$State" "source" "LLiftingSignal$Source;" ∈ GW := gm 278 (by decide +kernel) (by decide +kernel)
theorem k279 : Cond.fieldLink RX1 11 "LiftingSignal$State" "value" "[LLiftingSignal$Whole;" ∈ GW := gm 279 (by decide +kernel) (by decide +kernel)
theorem k280 : Cond.fieldLink RX5 143 "LiftingSignal$State" "value" "[LLiftingSignal$Whole;" ∈ GW := gm 280 (by decide +kernel) (by decide +kernel)
theorem k281 : Cond.fieldLink RX1 17 "LiftingSignal$State" "weight" "[J" ∈ GW := gm 281 (by decide +kernel) (by decide +kernel)
theorem k282 : Cond.fieldLink RX5 154 "LiftingSignal$State" "weight" "[J" ∈ GW := gm 282 (by decide +kernel) (by decide +kernel)
theorem k283 : Cond.fieldLink RX1 21 "LiftingSignal$State" "stepOf" "[I" ∈ GW := gm 283 (by decide +kernel) (by decide +kernel)
theorem k284 : Cond.fieldLink RX5 158 "LiftingSignal$State" "stepOf" "[I" ∈ GW := gm 284 (by decide +kernel) (by decide +kernel)
theorem k285 : Cond.fieldLink RX1 27 "LiftingSignal$State" "steps" "[LLiftingSignal$Step;" ∈ GW := gm 285 (by decide +kernel) (by decide +kernel)
theorem k287 : Cond.fieldLink RX1 31 "LiftingSignal$State" "stepCount" "I" ∈ GW := gm 287 (by decide +kernel) (by decide +kernel)
theorem k288 : Cond.fieldLink RX5 107 "LiftingSignal$State" "stepCount" "I" ∈ GW := gm 288 (by decide +kernel) (by decide +kernel)
theorem k289 : Cond.fieldLink RX1 36 "LiftingSignal$State" "integral" "LLiftingSignal$Whole;" ∈ GW := gm 289 (by decide +kernel) (by decide +kernel)
theorem k290 : Cond.fieldLink RX5 205 "LiftingSignal$State" "integral" "LLiftingSignal$Whole;" ∈ GW := gm 290 (by decide +kernel) (by decide +kernel)
theorem k291 : Cond.fieldLink RX1 77 "LiftingSignal$State" "split" "I" ∈ GW := gm 291 (by decide +kernel) (by decide +kernel)
theorem k292 : Cond.fieldLink RX5 113 "LiftingSignal$State" "split" "I" ∈ GW := gm 292 (by decide +kernel) (by decide +kernel)
theorem k293 : Cond.fieldLink RX1 81 "LiftingSignal$State" "predict" "I" ∈ GW := gm 293 (by decide +kernel) (by decide +kernel)
theorem k294 : Cond.fieldLink RX5 116 "LiftingSignal$State" "predict" "I" ∈ GW := gm 294 (by decide +kernel) (by decide +kernel)
theorem k295 : Cond.fieldLink RX1 86 "LiftingSignal$State" "isKeep" "Z" ∈ GW := gm 295 (by decide +kernel) (by decide +kernel)
theorem k296 : Cond.fieldLink RX5 119 "LiftingSignal$State" "isKeep" "Z" ∈ GW := gm 296 (by decide +kernel) (by decide +kernel)
theorem k297 : Cond.fieldLink RX1 40 "LiftingSignal$State" "one" "LLiftingSignal$Whole;" ∈ GW := gm 297 (by decide +kernel) (by decide +kernel)
theorem k298 : Cond.fieldLink RX1 43 "LiftingSignal$State" "part" "LLiftingSignal$Whole;" ∈ GW := gm 298 (by decide +kernel) (by decide +kernel)
theorem k299 : Cond.fieldLink RX1 46 "LiftingSignal$State" "result" "LLiftingSignal$Whole;" ∈ GW := gm 299 (by decide +kernel) (by decide +kernel)
theorem k328 : Cond.methodLink RX5 56 yX0_addSample ∈ GW := gm 328 (by decide +kernel) (by decide +kernel)
theorem k329 : Cond.instanceMethod yX0_addSample ∈ GW := gm 329 (by decide +kernel) (by decide +kernel)
theorem k330 : Cond.selects RX0 yX0_addSample yX0_addSample ∈ GW := gm 330 (by decide +kernel) (by decide +kernel)
theorem k331 : Cond.code yX0_addSample cX0_addSample 3 none ∈ GW := gm 331 (by decide +kernel) (by decide +kernel)
theorem k332 : Cond.methodLink RX5 60 yX1_begin ∈ GW := gm 332 (by decide +kernel) (by decide +kernel)
theorem k333 : Cond.instanceMethod yX1_begin ∈ GW := gm 333 (by decide +kernel) (by decide +kernel)
theorem k334 : Cond.selects RX1 yX1_begin yX1_begin ∈ GW := gm 334 (by decide +kernel) (by decide +kernel)
theorem k335 : Cond.code yX1_begin cX1_begin 2 none ∈ GW := gm 335 (by decide +kernel) (by decide +kernel)
theorem k336 : Cond.methodLink RX1 66 yX0_firstWeight ∈ GW := gm 336 (by decide +kernel) (by decide +kernel)
theorem k337 : Cond.instanceMethod yX0_firstWeight ∈ GW := gm 337 (by decide +kernel) (by decide +kernel)
theorem k338 : Cond.selects RX0 yX0_firstWeight yX0_firstWeight ∈ GW := gm 338 (by decide +kernel) (by decide +kernel)
theorem k339 : Cond.code yX0_firstWeight cX0_firstWeight 4 (some .int) ∈ GW := gm 339 (by decide +kernel) (by decide +kernel)
theorem k340 : Cond.methodLink RX1 70 yX4_add ∈ GW := gm 340 (by decide +kernel) (by decide +kernel)
theorem k341 : Cond.instanceMethod yX4_add ∈ GW := gm 341 (by decide +kernel) (by decide +kernel)
theorem k342 : Cond.selects RX4 yX4_add yX4_add ∈ GW := gm 342 (by decide +kernel) (by decide +kernel)
theorem k343 : Cond.code yX4_add cX4_add 7 none ∈ GW := gm 343 (by decide +kernel) (by decide +kernel)
theorem k344 : Cond.methodLink RX4 31 yX4_lowest ∈ GW := gm 344 (by decide +kernel) (by decide +kernel)
theorem k346 : Cond.instanceMethod yX4_lowest ∈ GW := gm 346 (by decide +kernel) (by decide +kernel)
theorem k347 : Cond.code yX4_lowest cX4_lowest 1 (some .long) ∈ GW := gm 347 (by decide +kernel) (by decide +kernel)
theorem k348 : Cond.constantLong RX4 66 4294967295 ∈ GW := gm 348 (by decide +kernel) (by decide +kernel)
theorem k349 : Cond.methodLink RX4 35 yX4_become ∈ GW := gm 349 (by decide +kernel) (by decide +kernel)
theorem k350 : Cond.methodLink RX4 39 yJ9_max_7cf53 ∈ GW := gm 350 (by decide +kernel) (by decide +kernel)
theorem k351 : Cond.static yJ9_max_7cf53 ∈ GW := gm 351 (by decide +kernel) (by decide +kernel)
theorem k352 : Cond.code yJ9_max_7cf53 cJ9_max_7cf53 2 (some .int) ∈ GW := gm 352 (by decide +kernel) (by decide +kernel)
theorem k361 : Cond.static arraycopyName ∈ GW := gm 361 (by decide +kernel) (by decide +kernel)
theorem k362 : Cond.native arraycopyName ∈ GW := gm 362 (by decide +kernel) (by decide +kernel)
theorem k375 : Cond.methodLink RX5 63 yX1_takeSettings ∈ GW := gm 375 (by decide +kernel) (by decide +kernel)
theorem k376 : Cond.instanceMethod yX1_takeSettings ∈ GW := gm 376 (by decide +kernel) (by decide +kernel)
theorem k377 : Cond.selects RX1 yX1_takeSettings yX1_takeSettings ∈ GW := gm 377 (by decide +kernel) (by decide +kernel)
theorem k378 : Cond.code yX1_takeSettings cX1_takeSettings 1 none ∈ GW := gm 378 (by decide +kernel) (by decide +kernel)
theorem k379 : Cond.fieldLink RX5 12 "LiftingSignal" "text" "LLiftingSignal$Text;" ∈ GW := gm 379 (by decide +kernel) (by decide +kernel)
theorem k380 : Cond.fieldLink RX5 19 "LiftingSignal" "source" "LLiftingSignal$Source;" ∈ GW := gm 380 (by decide +kernel) (by decide +kernel)
theorem k381 : Cond.fieldLink RX5 23 "LiftingSignal" "draft" "LLiftingSignal$Source;" ∈ GW := gm 381 (by decide +kernel) (by decide +kernel)
theorem k382 : Cond.fieldLink RX5 31 "LiftingSignal" "now" "LLiftingSignal$State;" ∈ GW := gm 382 (by decide +kernel) (by decide +kernel)
theorem k383 : Cond.fieldLink RX5 35 "LiftingSignal" "trial" "LLiftingSignal$State;" ∈ GW := gm 383 (by decide +kernel) (by decide +kernel)
theorem k384 : Cond.fieldLink RX5 38 "LiftingSignal" "slots" "[LLiftingSignal$State;" ∈ GW := gm 384 (by decide +kernel) (by decide +kernel)
theorem k385 : Cond.fieldLink RX5 42 "LiftingSignal" "isSaved" "[Z" ∈ GW := gm 385 (by decide +kernel) (by decide +kernel)
theorem k386 : Cond.fieldLink RX5 46 "LiftingSignal" "reasonCode" "I" ∈ GW := gm 386 (by decide +kernel) (by decide +kernel)
theorem k387 : Cond.fieldLink RX5 50 "LiftingSignal" "causeCode" "I" ∈ GW := gm 387 (by decide +kernel) (by decide +kernel)
theorem k388 : Cond.fieldLink RX5 53 "LiftingSignal" "refusedSample" "I" ∈ GW := gm 388 (by decide +kernel) (by decide +kernel)
theorem k410 : Cond.arrayClass .boolean ∈ GW := gm 410 (by decide +kernel) (by decide +kernel)
theorem k411 : Cond.methodLink RL 116 yX5_append ∈ GW := gm 411 (by decide +kernel) (by decide +kernel)
theorem k412 : Cond.instanceMethod yX5_append ∈ GW := gm 412 (by decide +kernel) (by decide +kernel)
theorem k413 : Cond.selects RX5 yX5_append yX5_append ∈ GW := gm 413 (by decide +kernel) (by decide +kernel)
theorem k414 : Cond.code yX5_append cX5_append 6 (some .int) ∈ GW := gm 414 (by decide +kernel) (by decide +kernel)
theorem k415 : Cond.methodLink RX5 66 yX3_hasRoom ∈ GW := gm 415 (by decide +kernel) (by decide +kernel)
theorem k416 : Cond.instanceMethod yX3_hasRoom ∈ GW := gm 416 (by decide +kernel) (by decide +kernel)
theorem k417 : Cond.selects RX3 yX3_hasRoom yX3_hasRoom ∈ GW := gm 417 (by decide +kernel) (by decide +kernel)
theorem k418 : Cond.code yX3_hasRoom cX3_hasRoom 1 (some .boolean) ∈ GW := gm 418 (by decide +kernel) (by decide +kernel)
theorem k419 : Cond.methodLink RX5 70 yX3_addInt ∈ GW := gm 419 (by decide +kernel) (by decide +kernel)
theorem k420 : Cond.instanceMethod yX3_addInt ∈ GW := gm 420 (by decide +kernel) (by decide +kernel)
theorem k421 : Cond.selects RX3 yX3_addInt yX3_addInt ∈ GW := gm 421 (by decide +kernel) (by decide +kernel)
theorem k422 : Cond.code yX3_addInt cX3_addInt 3 none ∈ GW := gm 422 (by decide +kernel) (by decide +kernel)
theorem k423 : Cond.methodLink RL 134 yX5_errorCode ∈ GW := gm 423 (by decide +kernel) (by decide +kernel)
theorem k424 : Cond.instanceMethod yX5_errorCode ∈ GW := gm 424 (by decide +kernel) (by decide +kernel)
theorem k425 : Cond.selects RX5 yX5_errorCode yX5_errorCode ∈ GW := gm 425 (by decide +kernel) (by decide +kernel)
theorem k426 : Cond.code yX5_errorCode cX5_errorCode 1 (some .int) ∈ GW := gm 426 (by decide +kernel) (by decide +kernel)
theorem k427 : Cond.methodLink RL 138 yX5_errorPosition ∈ GW := gm 427 (by decide +kernel) (by decide +kernel)
theorem k428 : Cond.instanceMethod yX5_errorPosition ∈ GW := gm 428 (by decide +kernel) (by decide +kernel)
theorem k429 : Cond.selects RX5 yX5_errorPosition yX5_errorPosition ∈ GW := gm 429 (by decide +kernel) (by decide +kernel)
theorem k430 : Cond.code yX5_errorPosition cX5_errorPosition 1 (some .int) ∈ GW := gm 430 (by decide +kernel) (by decide +kernel)
theorem k431 : Cond.methodLink RL 162 yX5_integral ∈ GW := gm 431 (by decide +kernel) (by decide +kernel)
theorem k432 : Cond.instanceMethod yX5_integral ∈ GW := gm 432 (by decide +kernel) (by decide +kernel)
theorem k433 : Cond.selects RX5 yX5_integral yX5_integral ∈ GW := gm 433 (by decide +kernel) (by decide +kernel)
theorem k434 : Cond.code yX5_integral cX5_integral 1 (some .long) ∈ GW := gm 434 (by decide +kernel) (by decide +kernel)
theorem k435 : Cond.methodLink RX5 147 yX4_toLong ∈ GW := gm 435 (by decide +kernel) (by decide +kernel)
theorem k436 : Cond.instanceMethod yX4_toLong ∈ GW := gm 436 (by decide +kernel) (by decide +kernel)
theorem k437 : Cond.selects RX4 yX4_toLong yX4_toLong ∈ GW := gm 437 (by decide +kernel) (by decide +kernel)
theorem k438 : Cond.code yX4_toLong cX4_toLong 1 (some .long) ∈ GW := gm 438 (by decide +kernel) (by decide +kernel)
theorem k439 : Cond.methodLink RX4 73 yX4_amountFrom ∈ GW := gm 439 (by decide +kernel) (by decide +kernel)
theorem k441 : Cond.instanceMethod yX4_amountFrom ∈ GW := gm 441 (by decide +kernel) (by decide +kernel)
theorem k442 : Cond.code yX4_amountFrom cX4_amountFrom 6 (some .long) ∈ GW := gm 442 (by decide +kernel) (by decide +kernel)
theorem k443 : Cond.methodLink RX4 87 yX4_limbAt ∈ GW := gm 443 (by decide +kernel) (by decide +kernel)
theorem k445 : Cond.instanceMethod yX4_limbAt ∈ GW := gm 445 (by decide +kernel) (by decide +kernel)
theorem k446 : Cond.code yX4_limbAt cX4_limbAt 2 (some .long) ∈ GW := gm 446 (by decide +kernel) (by decide +kernel)
theorem k447 : Cond.methodLink RL 167 yX5_drift ∈ GW := gm 447 (by decide +kernel) (by decide +kernel)
theorem k448 : Cond.instanceMethod yX5_drift ∈ GW := gm 448 (by decide +kernel) (by decide +kernel)
theorem k449 : Cond.selects RX5 yX5_drift yX5_drift ∈ GW := gm 449 (by decide +kernel) (by decide +kernel)
theorem k450 : Cond.code yX5_drift cX5_drift 1 (some .long) ∈ GW := gm 450 (by decide +kernel) (by decide +kernel)
theorem k451 : Cond.methodLink RX5 208 yX1_driftNow ∈ GW := gm 451 (by decide +kernel) (by decide +kernel)
theorem k452 : Cond.instanceMethod yX1_driftNow ∈ GW := gm 452 (by decide +kernel) (by decide +kernel)
theorem k453 : Cond.selects RX1 yX1_driftNow yX1_driftNow ∈ GW := gm 453 (by decide +kernel) (by decide +kernel)
theorem k454 : Cond.code yX1_driftNow cX1_driftNow 2 (some (.object "LiftingSignal$Whole")) ∈ GW := gm 454 (by decide +kernel) (by decide +kernel)
theorem k455 : Cond.methodLink RX1 87 yX4_copyFrom ∈ GW := gm 455 (by decide +kernel) (by decide +kernel)
theorem k456 : Cond.instanceMethod yX4_copyFrom ∈ GW := gm 456 (by decide +kernel) (by decide +kernel)
theorem k457 : Cond.selects RX4 yX4_copyFrom yX4_copyFrom ∈ GW := gm 457 (by decide +kernel) (by decide +kernel)
theorem k458 : Cond.code yX4_copyFrom cX4_copyFrom 2 none ∈ GW := gm 458 (by decide +kernel) (by decide +kernel)
theorem k459 : Cond.methodLink RX1 100 yX1_isPresent ∈ GW := gm 459 (by decide +kernel) (by decide +kernel)
theorem k460 : Cond.instanceMethod yX1_isPresent ∈ GW := gm 460 (by decide +kernel) (by decide +kernel)
theorem k461 : Cond.selects RX1 yX1_isPresent yX1_isPresent ∈ GW := gm 461 (by decide +kernel) (by decide +kernel)
theorem k462 : Cond.code yX1_isPresent cX1_isPresent 2 (some .boolean) ∈ GW := gm 462 (by decide +kernel) (by decide +kernel)
theorem k463 : Cond.methodLink RL 174 yX5_plainMean ∈ GW := gm 463 (by decide +kernel) (by decide +kernel)
theorem k464 : Cond.instanceMethod yX5_plainMean ∈ GW := gm 464 (by decide +kernel) (by decide +kernel)
theorem k465 : Cond.selects RX5 yX5_plainMean yX5_plainMean ∈ GW := gm 465 (by decide +kernel) (by decide +kernel)
theorem k466 : Cond.code yX5_plainMean cX5_plainMean 1 (some .double) ∈ GW := gm 466 (by decide +kernel) (by decide +kernel)
theorem k467 : Cond.methodLink RX5 228 yX1_valueSum ∈ GW := gm 467 (by decide +kernel) (by decide +kernel)
theorem k468 : Cond.instanceMethod yX1_valueSum ∈ GW := gm 468 (by decide +kernel) (by decide +kernel)
theorem k469 : Cond.selects RX1 yX1_valueSum yX1_valueSum ∈ GW := gm 469 (by decide +kernel) (by decide +kernel)
theorem k470 : Cond.code yX1_valueSum cX1_valueSum 2 (some (.object "LiftingSignal$Whole")) ∈ GW := gm 470 (by decide +kernel) (by decide +kernel)
theorem k471 : Cond.methodLink RX5 231 yX4_toDouble ∈ GW := gm 471 (by decide +kernel) (by decide +kernel)
theorem k472 : Cond.instanceMethod yX4_toDouble ∈ GW := gm 472 (by decide +kernel) (by decide +kernel)
theorem k473 : Cond.selects RX4 yX4_toDouble yX4_toDouble ∈ GW := gm 473 (by decide +kernel) (by decide +kernel)
theorem k474 : Cond.code yX4_toDouble cX4_toDouble 7 (some .double) ∈ GW := gm 474 (by decide +kernel) (by decide +kernel)
theorem k475 : Cond.methodLink RX4 77 yX4_bitsOfAmount ∈ GW := gm 475 (by decide +kernel) (by decide +kernel)
theorem k476 : Cond.instanceMethod yX4_bitsOfAmount ∈ GW := gm 476 (by decide +kernel) (by decide +kernel)
theorem k477 : Cond.selects RX4 yX4_bitsOfAmount yX4_bitsOfAmount ∈ GW := gm 477 (by decide +kernel) (by decide +kernel)
theorem k478 : Cond.code yX4_bitsOfAmount cX4_bitsOfAmount 1 (some .int) ∈ GW := gm 478 (by decide +kernel) (by decide +kernel)
theorem k483 : Cond.methodLink RX4 81 yX4_isAnyBitBelow ∈ GW := gm 483 (by decide +kernel) (by decide +kernel)
theorem k485 : Cond.instanceMethod yX4_isAnyBitBelow ∈ GW := gm 485 (by decide +kernel) (by decide +kernel)
theorem k486 : Cond.code yX4_isAnyBitBelow cX4_isAnyBitBelow 4 (some .boolean) ∈ GW := gm 486 (by decide +kernel) (by decide +kernel)
theorem k488 : Cond.methodLink RX5 103 yX1_presentCount ∈ GW := gm 488 (by decide +kernel) (by decide +kernel)
theorem k489 : Cond.instanceMethod yX1_presentCount ∈ GW := gm 489 (by decide +kernel) (by decide +kernel)
theorem k490 : Cond.selects RX1 yX1_presentCount yX1_presentCount ∈ GW := gm 490 (by decide +kernel) (by decide +kernel)
theorem k491 : Cond.code yX1_presentCount cX1_presentCount 1 (some .int) ∈ GW := gm 491 (by decide +kernel) (by decide +kernel)
theorem k492 : Cond.methodLink RL 179 yX5_energy ∈ GW := gm 492 (by decide +kernel) (by decide +kernel)
theorem k493 : Cond.instanceMethod yX5_energy ∈ GW := gm 493 (by decide +kernel) (by decide +kernel)
theorem k494 : Cond.selects RX5 yX5_energy yX5_energy ∈ GW := gm 494 (by decide +kernel) (by decide +kernel)
theorem k495 : Cond.code yX5_energy cX5_energy 1 (some .long) ∈ GW := gm 495 (by decide +kernel) (by decide +kernel)
theorem k496 : Cond.methodLink RX5 235 yX1_energyOfDetails ∈ GW := gm 496 (by decide +kernel) (by decide +kernel)
theorem k497 : Cond.instanceMethod yX1_energyOfDetails ∈ GW := gm 497 (by decide +kernel) (by decide +kernel)
theorem k498 : Cond.selects RX1 yX1_energyOfDetails yX1_energyOfDetails ∈ GW := gm 498 (by decide +kernel) (by decide +kernel)
theorem k499 : Cond.code yX1_energyOfDetails cX1_energyOfDetails 6 (some .long) ∈ GW := gm 499 (by decide +kernel) (by decide +kernel)
theorem k501 : Cond.methodLink RL 183 yX5_bits ∈ GW := gm 501 (by decide +kernel) (by decide +kernel)
theorem k502 : Cond.instanceMethod yX5_bits ∈ GW := gm 502 (by decide +kernel) (by decide +kernel)
theorem k503 : Cond.selects RX5 yX5_bits yX5_bits ∈ GW := gm 503 (by decide +kernel) (by decide +kernel)
theorem k504 : Cond.code yX5_bits cX5_bits 1 (some .int) ∈ GW := gm 504 (by decide +kernel) (by decide +kernel)
theorem k505 : Cond.methodLink RX5 238 yX1_bitsOfDetails ∈ GW := gm 505 (by decide +kernel) (by decide +kernel)
theorem k506 : Cond.instanceMethod yX1_bitsOfDetails ∈ GW := gm 506 (by decide +kernel) (by decide +kernel)
theorem k507 : Cond.selects RX1 yX1_bitsOfDetails yX1_bitsOfDetails ∈ GW := gm 507 (by decide +kernel) (by decide +kernel)
theorem k508 : Cond.code yX1_bitsOfDetails cX1_bitsOfDetails 3 (some .int) ∈ GW := gm 508 (by decide +kernel) (by decide +kernel)
theorem k510 : Cond.methodLink RL 199 yX5_setUpdate ∈ GW := gm 510 (by decide +kernel) (by decide +kernel)
theorem k511 : Cond.instanceMethod yX5_setUpdate ∈ GW := gm 511 (by decide +kernel) (by decide +kernel)
theorem k512 : Cond.selects RX5 yX5_setUpdate yX5_setUpdate ∈ GW := gm 512 (by decide +kernel) (by decide +kernel)
theorem k513 : Cond.code yX5_setUpdate cX5_setUpdate 3 (some .boolean) ∈ GW := gm 513 (by decide +kernel) (by decide +kernel)
theorem k514 : Cond.methodLink RL 210 yX5_reset ∈ GW := gm 514 (by decide +kernel) (by decide +kernel)
theorem k515 : Cond.instanceMethod yX5_reset ∈ GW := gm 515 (by decide +kernel) (by decide +kernel)
theorem k516 : Cond.selects RX5 yX5_reset yX5_reset ∈ GW := gm 516 (by decide +kernel) (by decide +kernel)
theorem k517 : Cond.code yX5_reset cX5_reset 2 (some .int) ∈ GW := gm 517 (by decide +kernel) (by decide +kernel)
theorem k518 : Cond.methodLink RL 247 yX5_bestScheme ∈ GW := gm 518 (by decide +kernel) (by decide +kernel)
theorem k519 : Cond.instanceMethod yX5_bestScheme ∈ GW := gm 519 (by decide +kernel) (by decide +kernel)
theorem k520 : Cond.selects RX5 yX5_bestScheme yX5_bestScheme ∈ GW := gm 520 (by decide +kernel) (by decide +kernel)
theorem k521 : Cond.code yX5_bestScheme cX5_bestScheme 5 (some .int) ∈ GW := gm 521 (by decide +kernel) (by decide +kernel)
theorem k522 : Cond.methodLink RX5 314 yX5_beginTrial ∈ GW := gm 522 (by decide +kernel) (by decide +kernel)
theorem k524 : Cond.instanceMethod yX5_beginTrial ∈ GW := gm 524 (by decide +kernel) (by decide +kernel)
theorem k525 : Cond.code yX5_beginTrial cX5_beginTrial 3 none ∈ GW := gm 525 (by decide +kernel) (by decide +kernel)
theorem k526 : Cond.methodLink RX5 261 yX1_liftChosen ∈ GW := gm 526 (by decide +kernel) (by decide +kernel)
theorem k527 : Cond.instanceMethod yX1_liftChosen ∈ GW := gm 527 (by decide +kernel) (by decide +kernel)
theorem k528 : Cond.selects RX1 yX1_liftChosen yX1_liftChosen ∈ GW := gm 528 (by decide +kernel) (by decide +kernel)
theorem k529 : Cond.code yX1_liftChosen cX1_liftChosen 4 (some .int) ∈ GW := gm 529 (by decide +kernel) (by decide +kernel)
theorem k530 : Cond.methodLink RX1 142 yX1_chosenSample ∈ GW := gm 530 (by decide +kernel) (by decide +kernel)
theorem k531 : Cond.instanceMethod yX1_chosenSample ∈ GW := gm 531 (by decide +kernel) (by decide +kernel)
theorem k532 : Cond.selects RX1 yX1_chosenSample yX1_chosenSample ∈ GW := gm 532 (by decide +kernel) (by decide +kernel)
theorem k533 : Cond.code yX1_chosenSample cX1_chosenSample 7 (some .int) ∈ GW := gm 533 (by decide +kernel) (by decide +kernel)
theorem k534 : Cond.methodLink RX1 116 yX1_presentCount ∈ GW := gm 534 (by decide +kernel) (by decide +kernel)
theorem k542 : Cond.methodLink RX1 111 yX1_predictInto ∈ GW := gm 542 (by decide +kernel) (by decide +kernel)
theorem k544 : Cond.instanceMethod yX1_predictInto ∈ GW := gm 544 (by decide +kernel) (by decide +kernel)
theorem k545 : Cond.code yX1_predictInto cX1_predictInto 6 none ∈ GW := gm 545 (by decide +kernel) (by decide +kernel)
theorem k550 : Cond.constantLong RX1 136 (-1) ∈ GW := gm 550 (by decide +kernel) (by decide +kernel)
theorem k551 : Cond.methodLink RX1 104 yX4_scale ∈ GW := gm 551 (by decide +kernel) (by decide +kernel)
theorem k552 : Cond.instanceMethod yX4_scale ∈ GW := gm 552 (by decide +kernel) (by decide +kernel)
theorem k553 : Cond.selects RX4 yX4_scale yX4_scale ∈ GW := gm 553 (by decide +kernel) (by decide +kernel)
theorem k554 : Cond.code yX4_scale cX4_scale 6 none ∈ GW := gm 554 (by decide +kernel) (by decide +kernel)
theorem k555 : Cond.methodLink RX4 55 yJ9_floorDiv_f86c9 ∈ GW := gm 555 (by decide +kernel) (by decide +kernel)
theorem k556 : Cond.static yJ9_floorDiv_f86c9 ∈ GW := gm 556 (by decide +kernel) (by decide +kernel)
theorem k557 : Cond.code yJ9_floorDiv_f86c9 cJ9_floorDiv_f86c9 6 (some .long) ∈ GW := gm 557 (by decide +kernel) (by decide +kernel)
theorem k566 : Cond.methodLink RX1 127 yX4_compareAmount ∈ GW := gm 566 (by decide +kernel) (by decide +kernel)
theorem k567 : Cond.instanceMethod yX4_compareAmount ∈ GW := gm 567 (by decide +kernel) (by decide +kernel)
theorem k568 : Cond.selects RX4 yX4_compareAmount yX4_compareAmount ∈ GW := gm 568 (by decide +kernel) (by decide +kernel)
theorem k569 : Cond.code yX4_compareAmount cX4_compareAmount 3 (some .int) ∈ GW := gm 569 (by decide +kernel) (by decide +kernel)
theorem k575 : Cond.instanceMethod yX1_leftOf ∈ GW := gm 575 (by decide +kernel) (by decide +kernel)
theorem k576 : Cond.selects RX1 yX1_leftOf yX1_leftOf ∈ GW := gm 576 (by decide +kernel) (by decide +kernel)
theorem k577 : Cond.code yX1_leftOf cX1_leftOf 3 (some .int) ∈ GW := gm 577 (by decide +kernel) (by decide +kernel)
theorem k579 : Cond.instanceMethod yX1_rightOf ∈ GW := gm 579 (by decide +kernel) (by decide +kernel)
theorem k580 : Cond.selects RX1 yX1_rightOf yX1_rightOf ∈ GW := gm 580 (by decide +kernel) (by decide +kernel)
theorem k581 : Cond.code yX1_rightOf cX1_rightOf 3 (some .int) ∈ GW := gm 581 (by decide +kernel) (by decide +kernel)
theorem k598 : Cond.methodLink RL 254 yX5_reasonSample ∈ GW := gm 598 (by decide +kernel) (by decide +kernel)
theorem k599 : Cond.instanceMethod yX5_reasonSample ∈ GW := gm 599 (by decide +kernel) (by decide +kernel)
theorem k600 : Cond.selects RX5 yX5_reasonSample yX5_reasonSample ∈ GW := gm 600 (by decide +kernel) (by decide +kernel)
theorem k601 : Cond.code yX5_reasonSample cX5_reasonSample 1 (some .int) ∈ GW := gm 601 (by decide +kernel) (by decide +kernel)
theorem k602 : Cond.methodLink RL 121 yL_truncate ∈ GW := gm 602 (by decide +kernel) (by decide +kernel)
theorem k603 : Cond.static yL_truncate ∈ GW := gm 603 (by decide +kernel) (by decide +kernel)
theorem k604 : Cond.codeWith yL_truncate cL_truncate 4 (some .int) [(0, 9, 12, 13)] ∈ GW := gm 604 (by decide +kernel) (by decide +kernel)
theorem k605 : Cond.classLink RL 13 "java/lang/IndexOutOfBoundsException" ∈ GW := gm 605 (by decide +kernel) (by decide +kernel)
theorem k606 : Cond.methodLink RL 7 yX5_truncate ∈ GW := gm 606 (by decide +kernel) (by decide +kernel)
theorem k607 : Cond.instanceMethod yX5_truncate ∈ GW := gm 607 (by decide +kernel) (by decide +kernel)
theorem k608 : Cond.selects RX5 yX5_truncate yX5_truncate ∈ GW := gm 608 (by decide +kernel) (by decide +kernel)
theorem k609 : Cond.code yX5_truncate cX5_truncate 2 (some .int) ∈ GW := gm 609 (by decide +kernel) (by decide +kernel)
theorem k610 : Cond.methodLink RX5 77 yX5_needIndex ∈ GW := gm 610 (by decide +kernel) (by decide +kernel)
theorem k611 : Cond.static yX5_needIndex ∈ GW := gm 611 (by decide +kernel) (by decide +kernel)
theorem k612 : Cond.code yX5_needIndex cX5_needIndex 2 none ∈ GW := gm 612 (by decide +kernel) (by decide +kernel)
theorem k613 : Cond.classLink RX5 196 "java/lang/IndexOutOfBoundsException" ∈ GW := gm 613 (by decide +kernel) (by decide +kernel)
theorem k681 : Cond.methodLink RL 130 yL_load ∈ GW := gm 681 (by decide +kernel) (by decide +kernel)
theorem k682 : Cond.static yL_load ∈ GW := gm 682 (by decide +kernel) (by decide +kernel)
theorem k683 : Cond.codeWith yL_load cL_load 3 (some .int) [(0, 8, 11, 19)] ∈ GW := gm 683 (by decide +kernel) (by decide +kernel)
theorem k684 : Cond.classLink RL 19 "java/lang/IllegalArgumentException" ∈ GW := gm 684 (by decide +kernel) (by decide +kernel)
theorem k685 : Cond.methodLink RL 15 yX5_load ∈ GW := gm 685 (by decide +kernel) (by decide +kernel)
theorem k686 : Cond.instanceMethod yX5_load ∈ GW := gm 686 (by decide +kernel) (by decide +kernel)
theorem k687 : Cond.selects RX5 yX5_load yX5_load ∈ GW := gm 687 (by decide +kernel) (by decide +kernel)
theorem k688 : Cond.code yX5_load cX5_load 3 (some .int) ∈ GW := gm 688 (by decide +kernel) (by decide +kernel)
theorem k689 : Cond.methodLink RX5 80 yX3_readInto ∈ GW := gm 689 (by decide +kernel) (by decide +kernel)
theorem k690 : Cond.instanceMethod yX3_readInto ∈ GW := gm 690 (by decide +kernel) (by decide +kernel)
theorem k691 : Cond.selects RX3 yX3_readInto yX3_readInto ∈ GW := gm 691 (by decide +kernel) (by decide +kernel)
theorem k692 : Cond.code yX3_readInto cX3_readInto 2 (some .boolean) ∈ GW := gm 692 (by decide +kernel) (by decide +kernel)
theorem k693 : Cond.methodLink RX3 37 yX0_clear ∈ GW := gm 693 (by decide +kernel) (by decide +kernel)
theorem k694 : Cond.instanceMethod yX0_clear ∈ GW := gm 694 (by decide +kernel) (by decide +kernel)
theorem k695 : Cond.selects RX0 yX0_clear yX0_clear ∈ GW := gm 695 (by decide +kernel) (by decide +kernel)
theorem k696 : Cond.code yX0_clear cX0_clear 1 none ∈ GW := gm 696 (by decide +kernel) (by decide +kernel)
theorem k697 : Cond.methodLink RX3 42 yX3_pass ∈ GW := gm 697 (by decide +kernel) (by decide +kernel)
theorem k699 : Cond.instanceMethod yX3_pass ∈ GW := gm 699 (by decide +kernel) (by decide +kernel)
theorem k700 : Cond.code yX3_pass cX3_pass 1 (some .boolean) ∈ GW := gm 700 (by decide +kernel) (by decide +kernel)
theorem k715 : Cond.methodLink RX3 46 yX3_readSettings ∈ GW := gm 715 (by decide +kernel) (by decide +kernel)
theorem k717 : Cond.instanceMethod yX3_readSettings ∈ GW := gm 717 (by decide +kernel) (by decide +kernel)
theorem k718 : Cond.code yX3_readSettings cX3_readSettings 5 (some .boolean) ∈ GW := gm 718 (by decide +kernel) (by decide +kernel)
theorem k719 : Cond.methodLink RX3 53 yX3_settingHere ∈ GW := gm 719 (by decide +kernel) (by decide +kernel)
theorem k721 : Cond.instanceMethod yX3_settingHere ∈ GW := gm 721 (by decide +kernel) (by decide +kernel)
theorem k722 : Cond.code yX3_settingHere cX3_settingHere 1 (some .int) ∈ GW := gm 722 (by decide +kernel) (by decide +kernel)
theorem k724 : Cond.methodLink RX3 70 yX3_isWord ∈ GW := gm 724 (by decide +kernel) (by decide +kernel)
theorem k726 : Cond.instanceMethod yX3_isWord ∈ GW := gm 726 (by decide +kernel) (by decide +kernel)
theorem k727 : Cond.code yX3_isWord cX3_isWord 3 (some .boolean) ∈ GW := gm 727 (by decide +kernel) (by decide +kernel)
theorem k779 : Cond.methodLink RX3 57 yX3_isWrong ∈ GW := gm 779 (by decide +kernel) (by decide +kernel)
theorem k781 : Cond.instanceMethod yX3_isWrong ∈ GW := gm 781 (by decide +kernel) (by decide +kernel)
theorem k782 : Cond.code yX3_isWrong cX3_isWrong 2 (some .boolean) ∈ GW := gm 782 (by decide +kernel) (by decide +kernel)
theorem k803 : Cond.methodLink RX3 50 yX3_readSamples ∈ GW := gm 803 (by decide +kernel) (by decide +kernel)
theorem k805 : Cond.instanceMethod yX3_readSamples ∈ GW := gm 805 (by decide +kernel) (by decide +kernel)
theorem k806 : Cond.code yX3_readSamples cX3_readSamples 3 (some .boolean) ∈ GW := gm 806 (by decide +kernel) (by decide +kernel)
theorem k813 : Cond.classLink RX5 84 "java/lang/IllegalArgumentException" ∈ GW := gm 813 (by decide +kernel) (by decide +kernel)
theorem k834 : Cond.methodLink RL 142 yL_count ∈ GW := gm 834 (by decide +kernel) (by decide +kernel)
theorem k835 : Cond.static yL_count ∈ GW := gm 835 (by decide +kernel) (by decide +kernel)
theorem k836 : Cond.codeWith yL_count cL_count 4 (some .int) [(0, 9, 12, 19)] ∈ GW := gm 836 (by decide +kernel) (by decide +kernel)
theorem k837 : Cond.methodLink RL 21 yX5_count ∈ GW := gm 837 (by decide +kernel) (by decide +kernel)
theorem k838 : Cond.instanceMethod yX5_count ∈ GW := gm 838 (by decide +kernel) (by decide +kernel)
theorem k839 : Cond.selects RX5 yX5_count yX5_count ∈ GW := gm 839 (by decide +kernel) (by decide +kernel)
theorem k840 : Cond.code yX5_count cX5_count 2 (some .int) ∈ GW := gm 840 (by decide +kernel) (by decide +kernel)
theorem k841 : Cond.methodLink RX5 110 yX1_zeroDetails ∈ GW := gm 841 (by decide +kernel) (by decide +kernel)
theorem k842 : Cond.instanceMethod yX1_zeroDetails ∈ GW := gm 842 (by decide +kernel) (by decide +kernel)
theorem k843 : Cond.selects RX1 yX1_zeroDetails yX1_zeroDetails ∈ GW := gm 843 (by decide +kernel) (by decide +kernel)
theorem k844 : Cond.code yX1_zeroDetails cX1_zeroDetails 3 (some .int) ∈ GW := gm 844 (by decide +kernel) (by decide +kernel)
theorem k845 : Cond.methodLink RX1 202 yX4_isZero ∈ GW := gm 845 (by decide +kernel) (by decide +kernel)
theorem k846 : Cond.instanceMethod yX4_isZero ∈ GW := gm 846 (by decide +kernel) (by decide +kernel)
theorem k847 : Cond.selects RX4 yX4_isZero yX4_isZero ∈ GW := gm 847 (by decide +kernel) (by decide +kernel)
theorem k848 : Cond.code yX4_isZero cX4_isZero 1 (some .boolean) ∈ GW := gm 848 (by decide +kernel) (by decide +kernel)
theorem k849 : Cond.methodLink RX5 126 yX1_weightSum ∈ GW := gm 849 (by decide +kernel) (by decide +kernel)
theorem k850 : Cond.instanceMethod yX1_weightSum ∈ GW := gm 850 (by decide +kernel) (by decide +kernel)
theorem k851 : Cond.selects RX1 yX1_weightSum yX1_weightSum ∈ GW := gm 851 (by decide +kernel) (by decide +kernel)
theorem k852 : Cond.code yX1_weightSum cX1_weightSum 4 (some .long) ∈ GW := gm 852 (by decide +kernel) (by decide +kernel)
theorem k854 : Cond.methodLink RL 145 yL_sample ∈ GW := gm 854 (by decide +kernel) (by decide +kernel)
theorem k855 : Cond.static yL_sample ∈ GW := gm 855 (by decide +kernel) (by decide +kernel)
theorem k856 : Cond.codeWith yL_sample cL_sample 5 (some .int) [(0, 9, 12, 13), (0, 9, 16, 19)] ∈ GW := gm 856 (by decide +kernel) (by decide +kernel)
theorem k857 : Cond.methodLink RL 24 yX5_sample ∈ GW := gm 857 (by decide +kernel) (by decide +kernel)
theorem k858 : Cond.instanceMethod yX5_sample ∈ GW := gm 858 (by decide +kernel) (by decide +kernel)
theorem k859 : Cond.selects RX5 yX5_sample yX5_sample ∈ GW := gm 859 (by decide +kernel) (by decide +kernel)
theorem k860 : Cond.code yX5_sample cX5_sample 3 (some .long) ∈ GW := gm 860 (by decide +kernel) (by decide +kernel)
theorem k861 : Cond.methodLink RX5 139 yX1_isPresent ∈ GW := gm 861 (by decide +kernel) (by decide +kernel)
theorem k863 : Cond.methodLink RL 149 yL_present ∈ GW := gm 863 (by decide +kernel) (by decide +kernel)
theorem k864 : Cond.static yL_present ∈ GW := gm 864 (by decide +kernel) (by decide +kernel)
theorem k865 : Cond.codeWith yL_present cL_present 4 (some .int) [(0, 9, 12, 13)] ∈ GW := gm 865 (by decide +kernel) (by decide +kernel)
theorem k866 : Cond.methodLink RL 28 yX5_present ∈ GW := gm 866 (by decide +kernel) (by decide +kernel)
theorem k867 : Cond.instanceMethod yX5_present ∈ GW := gm 867 (by decide +kernel) (by decide +kernel)
theorem k868 : Cond.selects RX5 yX5_present yX5_present ∈ GW := gm 868 (by decide +kernel) (by decide +kernel)
theorem k869 : Cond.code yX5_present cX5_present 2 (some .int) ∈ GW := gm 869 (by decide +kernel) (by decide +kernel)
theorem k870 : Cond.methodLink RX5 161 yX1_presentAt ∈ GW := gm 870 (by decide +kernel) (by decide +kernel)
theorem k871 : Cond.instanceMethod yX1_presentAt ∈ GW := gm 871 (by decide +kernel) (by decide +kernel)
theorem k872 : Cond.selects RX1 yX1_presentAt yX1_presentAt ∈ GW := gm 872 (by decide +kernel) (by decide +kernel)
theorem k873 : Cond.code yX1_presentAt cX1_presentAt 4 (some .int) ∈ GW := gm 873 (by decide +kernel) (by decide +kernel)
theorem k874 : Cond.methodLink RL 152 yL_neighbour ∈ GW := gm 874 (by decide +kernel) (by decide +kernel)
theorem k875 : Cond.static yL_neighbour ∈ GW := gm 875 (by decide +kernel) (by decide +kernel)
theorem k876 : Cond.codeWith yL_neighbour cL_neighbour 5 (some .int) [(0, 10, 13, 13)] ∈ GW := gm 876 (by decide +kernel) (by decide +kernel)
theorem k877 : Cond.methodLink RL 31 yX5_neighbour ∈ GW := gm 877 (by decide +kernel) (by decide +kernel)
theorem k878 : Cond.instanceMethod yX5_neighbour ∈ GW := gm 878 (by decide +kernel) (by decide +kernel)
theorem k879 : Cond.selects RX5 yX5_neighbour yX5_neighbour ∈ GW := gm 879 (by decide +kernel) (by decide +kernel)
theorem k880 : Cond.code yX5_neighbour cX5_neighbour 3 (some .int) ∈ GW := gm 880 (by decide +kernel) (by decide +kernel)
theorem k881 : Cond.methodLink RX5 165 yX1_rightOf ∈ GW := gm 881 (by decide +kernel) (by decide +kernel)
theorem k882 : Cond.methodLink RX5 168 yX1_leftOf ∈ GW := gm 882 (by decide +kernel) (by decide +kernel)
theorem k883 : Cond.methodLink RL 156 yL_step ∈ GW := gm 883 (by decide +kernel) (by decide +kernel)
theorem k884 : Cond.static yL_step ∈ GW := gm 884 (by decide +kernel) (by decide +kernel)
theorem k885 : Cond.codeWith yL_step cL_step 5 (some .int) [(0, 9, 12, 13), (0, 9, 16, 19)] ∈ GW := gm 885 (by decide +kernel) (by decide +kernel)
theorem k886 : Cond.methodLink RL 35 yX5_step ∈ GW := gm 886 (by decide +kernel) (by decide +kernel)
theorem k887 : Cond.instanceMethod yX5_step ∈ GW := gm 887 (by decide +kernel) (by decide +kernel)
theorem k888 : Cond.selects RX5 yX5_step yX5_step ∈ GW := gm 888 (by decide +kernel) (by decide +kernel)
theorem k889 : Cond.code yX5_step cX5_step 4 (some .long) ∈ GW := gm 889 (by decide +kernel) (by decide +kernel)
theorem k890 : Cond.methodLink RL 159 yL_valueAt ∈ GW := gm 890 (by decide +kernel) (by decide +kernel)
theorem k891 : Cond.static yL_valueAt ∈ GW := gm 891 (by decide +kernel) (by decide +kernel)
theorem k892 : Cond.codeWith yL_valueAt cL_valueAt 4 (some .int) [(0, 8, 11, 13)] ∈ GW := gm 892 (by decide +kernel) (by decide +kernel)
theorem k893 : Cond.methodLink RL 38 yX5_valueAt ∈ GW := gm 893 (by decide +kernel) (by decide +kernel)
theorem k894 : Cond.instanceMethod yX5_valueAt ∈ GW := gm 894 (by decide +kernel) (by decide +kernel)
theorem k895 : Cond.selects RX5 yX5_valueAt yX5_valueAt ∈ GW := gm 895 (by decide +kernel) (by decide +kernel)
theorem k896 : Cond.code yX5_valueAt cX5_valueAt 2 (some .long) ∈ GW := gm 896 (by decide +kernel) (by decide +kernel)
theorem k898 : Cond.methodLink RX5 201 yX1_lineAt ∈ GW := gm 898 (by decide +kernel) (by decide +kernel)
theorem k899 : Cond.instanceMethod yX1_lineAt ∈ GW := gm 899 (by decide +kernel) (by decide +kernel)
theorem k900 : Cond.selects RX1 yX1_lineAt yX1_lineAt ∈ GW := gm 900 (by decide +kernel) (by decide +kernel)
theorem k901 : Cond.code yX1_lineAt cX1_lineAt 4 (some (.object "LiftingSignal$Whole")) ∈ GW := gm 901 (by decide +kernel) (by decide +kernel)
theorem k902 : Cond.methodLink RL 171 yL_mean ∈ GW := gm 902 (by decide +kernel) (by decide +kernel)
theorem k903 : Cond.static yL_mean ∈ GW := gm 903 (by decide +kernel) (by decide +kernel)
theorem k904 : Cond.codeWith yL_mean cL_mean 4 (some .int) [(0, 8, 11, 19)] ∈ GW := gm 904 (by decide +kernel) (by decide +kernel)
theorem k905 : Cond.methodLink RL 42 yX5_mean ∈ GW := gm 905 (by decide +kernel) (by decide +kernel)
theorem k906 : Cond.instanceMethod yX5_mean ∈ GW := gm 906 (by decide +kernel) (by decide +kernel)
theorem k907 : Cond.selects RX5 yX5_mean yX5_mean ∈ GW := gm 907 (by decide +kernel) (by decide +kernel)
theorem k908 : Cond.code yX5_mean cX5_mean 6 (some .long) ∈ GW := gm 908 (by decide +kernel) (by decide +kernel)
theorem k909 : Cond.methodLink RX5 212 yX5_needRange ∈ GW := gm 909 (by decide +kernel) (by decide +kernel)
theorem k910 : Cond.static yX5_needRange ∈ GW := gm 910 (by decide +kernel) (by decide +kernel)
theorem k911 : Cond.code yX5_needRange cX5_needRange 3 none ∈ GW := gm 911 (by decide +kernel) (by decide +kernel)
theorem k913 : Cond.methodLink RX5 216 yX4_restOfAmount ∈ GW := gm 913 (by decide +kernel) (by decide +kernel)
theorem k914 : Cond.instanceMethod yX4_restOfAmount ∈ GW := gm 914 (by decide +kernel) (by decide +kernel)
theorem k915 : Cond.selects RX4 yX4_restOfAmount yX4_restOfAmount ∈ GW := gm 915 (by decide +kernel) (by decide +kernel)
theorem k916 : Cond.code yX4_restOfAmount cX4_restOfAmount 6 (some .long) ∈ GW := gm 916 (by decide +kernel) (by decide +kernel)
theorem k917 : Cond.methodLink RX5 220 yX5_commonDivisor ∈ GW := gm 917 (by decide +kernel) (by decide +kernel)
theorem k918 : Cond.static yX5_commonDivisor ∈ GW := gm 918 (by decide +kernel) (by decide +kernel)
theorem k919 : Cond.code yX5_commonDivisor cX5_commonDivisor 11 (some .long) ∈ GW := gm 919 (by decide +kernel) (by decide +kernel)
theorem k920 : Cond.methodLink RX5 328 yJ9_max_f86c9 ∈ GW := gm 920 (by decide +kernel) (by decide +kernel)
theorem k921 : Cond.static yJ9_max_f86c9 ∈ GW := gm 921 (by decide +kernel) (by decide +kernel)
theorem k922 : Cond.code yJ9_max_f86c9 cJ9_max_f86c9 4 (some .long) ∈ GW := gm 922 (by decide +kernel) (by decide +kernel)
theorem k923 : Cond.methodLink RX5 224 yX1_integralBy ∈ GW := gm 923 (by decide +kernel) (by decide +kernel)
theorem k924 : Cond.instanceMethod yX1_integralBy ∈ GW := gm 924 (by decide +kernel) (by decide +kernel)
theorem k925 : Cond.selects RX1 yX1_integralBy yX1_integralBy ∈ GW := gm 925 (by decide +kernel) (by decide +kernel)
theorem k926 : Cond.code yX1_integralBy cX1_integralBy 3 (some (.object "LiftingSignal$Whole")) ∈ GW := gm 926 (by decide +kernel) (by decide +kernel)
theorem k927 : Cond.methodLink RL 187 yL_largest ∈ GW := gm 927 (by decide +kernel) (by decide +kernel)
theorem k928 : Cond.static yL_largest ∈ GW := gm 928 (by decide +kernel) (by decide +kernel)
theorem k929 : Cond.codeWith yL_largest cL_largest 4 (some .int) [(0, 9, 12, 13)] ∈ GW := gm 929 (by decide +kernel) (by decide +kernel)
theorem k930 : Cond.methodLink RL 45 yX5_largest ∈ GW := gm 930 (by decide +kernel) (by decide +kernel)
theorem k931 : Cond.instanceMethod yX5_largest ∈ GW := gm 931 (by decide +kernel) (by decide +kernel)
theorem k932 : Cond.selects RX5 yX5_largest yX5_largest ∈ GW := gm 932 (by decide +kernel) (by decide +kernel)
theorem k933 : Cond.code yX5_largest cX5_largest 2 (some .int) ∈ GW := gm 933 (by decide +kernel) (by decide +kernel)
theorem k935 : Cond.instanceMethod yX1_stepOfRank ∈ GW := gm 935 (by decide +kernel) (by decide +kernel)
theorem k936 : Cond.selects RX1 yX1_stepOfRank yX1_stepOfRank ∈ GW := gm 936 (by decide +kernel) (by decide +kernel)
theorem k937 : Cond.code yX1_stepOfRank cX1_stepOfRank 3 (some .int) ∈ GW := gm 937 (by decide +kernel) (by decide +kernel)
theorem k942 : Cond.methodLink RL 190 yL_next ∈ GW := gm 942 (by decide +kernel) (by decide +kernel)
theorem k943 : Cond.static yL_next ∈ GW := gm 943 (by decide +kernel) (by decide +kernel)
theorem k944 : Cond.codeWith yL_next cL_next 3 (some .int) [(0, 8, 11, 51)] ∈ GW := gm 944 (by decide +kernel) (by decide +kernel)
theorem k945 : Cond.classLink RL 51 "java/util/NoSuchElementException" ∈ GW := gm 945 (by decide +kernel) (by decide +kernel)
theorem k946 : Cond.methodLink RL 48 yX5_next ∈ GW := gm 946 (by decide +kernel) (by decide +kernel)
theorem k947 : Cond.instanceMethod yX5_next ∈ GW := gm 947 (by decide +kernel) (by decide +kernel)
theorem k948 : Cond.selects RX5 yX5_next yX5_next ∈ GW := gm 948 (by decide +kernel) (by decide +kernel)
theorem k949 : Cond.code yX5_next cX5_next 2 (some .int) ∈ GW := gm 949 (by decide +kernel) (by decide +kernel)
theorem k950 : Cond.methodLink RX5 244 yX1_chosenSample ∈ GW := gm 950 (by decide +kernel) (by decide +kernel)
theorem k951 : Cond.classLink RX5 247 "java/util/NoSuchElementException" ∈ GW := gm 951 (by decide +kernel) (by decide +kernel)
theorem k967 : Cond.methodLink RL 193 yL_setSplit ∈ GW := gm 967 (by decide +kernel) (by decide +kernel)
theorem k968 : Cond.static yL_setSplit ∈ GW := gm 968 (by decide +kernel) (by decide +kernel)
theorem k969 : Cond.codeWith yL_setSplit cL_setSplit 4 (some .int) [(0, 9, 12, 19)] ∈ GW := gm 969 (by decide +kernel) (by decide +kernel)
theorem k970 : Cond.methodLink RL 53 yX5_setSplit ∈ GW := gm 970 (by decide +kernel) (by decide +kernel)
theorem k971 : Cond.instanceMethod yX5_setSplit ∈ GW := gm 971 (by decide +kernel) (by decide +kernel)
theorem k972 : Cond.selects RX5 yX5_setSplit yX5_setSplit ∈ GW := gm 972 (by decide +kernel) (by decide +kernel)
theorem k973 : Cond.code yX5_setSplit cX5_setSplit 3 (some .int) ∈ GW := gm 973 (by decide +kernel) (by decide +kernel)
theorem k974 : Cond.methodLink RL 196 yL_setPredict ∈ GW := gm 974 (by decide +kernel) (by decide +kernel)
theorem k975 : Cond.static yL_setPredict ∈ GW := gm 975 (by decide +kernel) (by decide +kernel)
theorem k976 : Cond.codeWith yL_setPredict cL_setPredict 4 (some .int) [(0, 9, 12, 19)] ∈ GW := gm 976 (by decide +kernel) (by decide +kernel)
theorem k977 : Cond.methodLink RL 56 yX5_setPredict ∈ GW := gm 977 (by decide +kernel) (by decide +kernel)
theorem k978 : Cond.instanceMethod yX5_setPredict ∈ GW := gm 978 (by decide +kernel) (by decide +kernel)
theorem k979 : Cond.selects RX5 yX5_setPredict yX5_setPredict ∈ GW := gm 979 (by decide +kernel) (by decide +kernel)
theorem k980 : Cond.code yX5_setPredict cX5_setPredict 3 (some .int) ∈ GW := gm 980 (by decide +kernel) (by decide +kernel)
theorem k981 : Cond.methodLink RL 204 yL_set ∈ GW := gm 981 (by decide +kernel) (by decide +kernel)
theorem k982 : Cond.static yL_set ∈ GW := gm 982 (by decide +kernel) (by decide +kernel)
theorem k983 : Cond.codeWith yL_set cL_set 5 (some .int) [(0, 9, 12, 13), (0, 9, 16, 19), (0, 9, 20, 62)] ∈ GW := gm 983 (by decide +kernel) (by decide +kernel)
theorem k984 : Cond.classLink RL 62 "java/lang/IllegalStateException" ∈ GW := gm 984 (by decide +kernel) (by decide +kernel)
theorem k985 : Cond.methodLink RL 59 yX5_set ∈ GW := gm 985 (by decide +kernel) (by decide +kernel)
theorem k986 : Cond.instanceMethod yX5_set ∈ GW := gm 986 (by decide +kernel) (by decide +kernel)
theorem k987 : Cond.selects RX5 yX5_set yX5_set ∈ GW := gm 987 (by decide +kernel) (by decide +kernel)
theorem k988 : Cond.code yX5_set cX5_set 5 (some .long) ∈ GW := gm 988 (by decide +kernel) (by decide +kernel)
theorem k989 : Cond.methodLink RX5 252 yX5_refuse ∈ GW := gm 989 (by decide +kernel) (by decide +kernel)
theorem k991 : Cond.instanceMethod yX5_refuse ∈ GW := gm 991 (by decide +kernel) (by decide +kernel)
theorem k992 : Cond.code yX5_refuse cX5_refuse 4 none ∈ GW := gm 992 (by decide +kernel) (by decide +kernel)
theorem k993 : Cond.classLink RX5 323 "java/lang/IllegalStateException" ∈ GW := gm 993 (by decide +kernel) (by decide +kernel)
theorem k1009 : Cond.methodLink RX5 255 yX1_changeValue ∈ GW := gm 1009 (by decide +kernel) (by decide +kernel)
theorem k1010 : Cond.instanceMethod yX1_changeValue ∈ GW := gm 1010 (by decide +kernel) (by decide +kernel)
theorem k1011 : Cond.selects RX1 yX1_changeValue yX1_changeValue ∈ GW := gm 1011 (by decide +kernel) (by decide +kernel)
theorem k1012 : Cond.code yX1_changeValue cX1_changeValue 3 none ∈ GW := gm 1012 (by decide +kernel) (by decide +kernel)
theorem k1013 : Cond.methodLink RL 207 yL_noise ∈ GW := gm 1013 (by decide +kernel) (by decide +kernel)
theorem k1014 : Cond.static yL_noise ∈ GW := gm 1014 (by decide +kernel) (by decide +kernel)
theorem k1015 : Cond.codeWith yL_noise cL_noise 5 (some .int) [(0, 9, 12, 19), (0, 9, 16, 62)] ∈ GW := gm 1015 (by decide +kernel) (by decide +kernel)
theorem k1016 : Cond.methodLink RL 64 yX5_noise ∈ GW := gm 1016 (by decide +kernel) (by decide +kernel)
theorem k1017 : Cond.instanceMethod yX5_noise ∈ GW := gm 1017 (by decide +kernel) (by decide +kernel)
theorem k1018 : Cond.selects RX5 yX5_noise yX5_noise ∈ GW := gm 1018 (by decide +kernel) (by decide +kernel)
theorem k1019 : Cond.code yX5_noise cX5_noise 3 (some .long) ∈ GW := gm 1019 (by decide +kernel) (by decide +kernel)
theorem k1025 : Cond.methodLink RL 214 yL_forward ∈ GW := gm 1025 (by decide +kernel) (by decide +kernel)
theorem k1026 : Cond.static yL_forward ∈ GW := gm 1026 (by decide +kernel) (by decide +kernel)
theorem k1027 : Cond.codeWith yL_forward cL_forward 4 (some .int) [(0, 9, 12, 19), (0, 9, 15, 62)] ∈ GW := gm 1027 (by decide +kernel) (by decide +kernel)
theorem k1028 : Cond.methodLink RL 67 yX5_forward ∈ GW := gm 1028 (by decide +kernel) (by decide +kernel)
theorem k1029 : Cond.instanceMethod yX5_forward ∈ GW := gm 1029 (by decide +kernel) (by decide +kernel)
theorem k1030 : Cond.selects RX5 yX5_forward yX5_forward ∈ GW := gm 1030 (by decide +kernel) (by decide +kernel)
theorem k1031 : Cond.code yX5_forward cX5_forward 3 (some .int) ∈ GW := gm 1031 (by decide +kernel) (by decide +kernel)
theorem k1032 : Cond.methodLink RL 217 yL_lift ∈ GW := gm 1032 (by decide +kernel) (by decide +kernel)
theorem k1033 : Cond.static yL_lift ∈ GW := gm 1033 (by decide +kernel) (by decide +kernel)
theorem k1034 : Cond.codeWith yL_lift cL_lift 4 (some .int) [(0, 8, 11, 13), (0, 8, 14, 62)] ∈ GW := gm 1034 (by decide +kernel) (by decide +kernel)
theorem k1035 : Cond.methodLink RL 70 yX5_lift ∈ GW := gm 1035 (by decide +kernel) (by decide +kernel)
theorem k1036 : Cond.instanceMethod yX5_lift ∈ GW := gm 1036 (by decide +kernel) (by decide +kernel)
theorem k1037 : Cond.selects RX5 yX5_lift yX5_lift ∈ GW := gm 1037 (by decide +kernel) (by decide +kernel)
theorem k1038 : Cond.code yX5_lift cX5_lift 2 (some .long) ∈ GW := gm 1038 (by decide +kernel) (by decide +kernel)
theorem k1040 : Cond.methodLink RL 220 yL_inverse ∈ GW := gm 1040 (by decide +kernel) (by decide +kernel)
theorem k1041 : Cond.static yL_inverse ∈ GW := gm 1041 (by decide +kernel) (by decide +kernel)
theorem k1042 : Cond.codeWith yL_inverse cL_inverse 4 (some .int) [(0, 9, 12, 19), (0, 9, 15, 62)] ∈ GW := gm 1042 (by decide +kernel) (by decide +kernel)
theorem k1043 : Cond.methodLink RL 73 yX5_inverse ∈ GW := gm 1043 (by decide +kernel) (by decide +kernel)
theorem k1044 : Cond.instanceMethod yX5_inverse ∈ GW := gm 1044 (by decide +kernel) (by decide +kernel)
theorem k1045 : Cond.selects RX5 yX5_inverse yX5_inverse ∈ GW := gm 1045 (by decide +kernel) (by decide +kernel)
theorem k1046 : Cond.code yX5_inverse cX5_inverse 2 (some .int) ∈ GW := gm 1046 (by decide +kernel) (by decide +kernel)
theorem k1047 : Cond.methodLink RX5 268 yX1_invertLatest ∈ GW := gm 1047 (by decide +kernel) (by decide +kernel)
theorem k1048 : Cond.instanceMethod yX1_invertLatest ∈ GW := gm 1048 (by decide +kernel) (by decide +kernel)
theorem k1049 : Cond.selects RX1 yX1_invertLatest yX1_invertLatest ∈ GW := gm 1049 (by decide +kernel) (by decide +kernel)
theorem k1050 : Cond.code yX1_invertLatest cX1_invertLatest 3 (some .int) ∈ GW := gm 1050 (by decide +kernel) (by decide +kernel)
theorem k1055 : Cond.methodLink RL 223 yL_setDetail ∈ GW := gm 1055 (by decide +kernel) (by decide +kernel)
theorem k1056 : Cond.static yL_setDetail ∈ GW := gm 1056 (by decide +kernel) (by decide +kernel)
theorem k1057 : Cond.codeWith yL_setDetail cL_setDetail 5 (some .int) [(0, 9, 12, 13), (0, 9, 16, 19)] ∈ GW := gm 1057 (by decide +kernel) (by decide +kernel)
theorem k1058 : Cond.methodLink RL 76 yX5_setDetail ∈ GW := gm 1058 (by decide +kernel) (by decide +kernel)
theorem k1059 : Cond.instanceMethod yX5_setDetail ∈ GW := gm 1059 (by decide +kernel) (by decide +kernel)
theorem k1060 : Cond.selects RX5 yX5_setDetail yX5_setDetail ∈ GW := gm 1060 (by decide +kernel) (by decide +kernel)
theorem k1061 : Cond.code yX5_setDetail cX5_setDetail 5 (some .long) ∈ GW := gm 1061 (by decide +kernel) (by decide +kernel)
theorem k1063 : Cond.constant RX5 272 99999 ∈ GW := gm 1063 (by decide +kernel) (by decide +kernel)
theorem k1065 : Cond.methodLink RL 226 yL_threshold ∈ GW := gm 1065 (by decide +kernel) (by decide +kernel)
theorem k1066 : Cond.static yL_threshold ∈ GW := gm 1066 (by decide +kernel) (by decide +kernel)
theorem k1067 : Cond.codeWith yL_threshold cL_threshold 5 (some .int) [(0, 10, 13, 19)] ∈ GW := gm 1067 (by decide +kernel) (by decide +kernel)
theorem k1068 : Cond.methodLink RL 79 yX5_threshold ∈ GW := gm 1068 (by decide +kernel) (by decide +kernel)
theorem k1069 : Cond.instanceMethod yX5_threshold ∈ GW := gm 1069 (by decide +kernel) (by decide +kernel)
theorem k1070 : Cond.selects RX5 yX5_threshold yX5_threshold ∈ GW := gm 1070 (by decide +kernel) (by decide +kernel)
theorem k1071 : Cond.code yX5_threshold cX5_threshold 3 (some .int) ∈ GW := gm 1071 (by decide +kernel) (by decide +kernel)
theorem k1072 : Cond.methodLink RX5 277 yX1_cutDetails ∈ GW := gm 1072 (by decide +kernel) (by decide +kernel)
theorem k1073 : Cond.instanceMethod yX1_cutDetails ∈ GW := gm 1073 (by decide +kernel) (by decide +kernel)
theorem k1074 : Cond.selects RX1 yX1_cutDetails yX1_cutDetails ∈ GW := gm 1074 (by decide +kernel) (by decide +kernel)
theorem k1075 : Cond.code yX1_cutDetails cX1_cutDetails 5 none ∈ GW := gm 1075 (by decide +kernel) (by decide +kernel)
theorem k1077 : Cond.instanceMethod yX4_isAmountBelow ∈ GW := gm 1077 (by decide +kernel) (by decide +kernel)
theorem k1078 : Cond.selects RX4 yX4_isAmountBelow yX4_isAmountBelow ∈ GW := gm 1078 (by decide +kernel) (by decide +kernel)
theorem k1079 : Cond.code yX4_isAmountBelow cX4_isAmountBelow 3 (some .boolean) ∈ GW := gm 1079 (by decide +kernel) (by decide +kernel)
theorem k1084 : Cond.methodLink RL 229 yL_quantize ∈ GW := gm 1084 (by decide +kernel) (by decide +kernel)
theorem k1085 : Cond.static yL_quantize ∈ GW := gm 1085 (by decide +kernel) (by decide +kernel)
theorem k1086 : Cond.codeWith yL_quantize cL_quantize 4 (some .int) [(0, 8, 11, 19)] ∈ GW := gm 1086 (by decide +kernel) (by decide +kernel)
theorem k1087 : Cond.methodLink RL 82 yX5_quantize ∈ GW := gm 1087 (by decide +kernel) (by decide +kernel)
theorem k1088 : Cond.instanceMethod yX5_quantize ∈ GW := gm 1088 (by decide +kernel) (by decide +kernel)
theorem k1089 : Cond.selects RX5 yX5_quantize yX5_quantize ∈ GW := gm 1089 (by decide +kernel) (by decide +kernel)
theorem k1090 : Cond.code yX5_quantize cX5_quantize 2 (some .long) ∈ GW := gm 1090 (by decide +kernel) (by decide +kernel)
theorem k1091 : Cond.methodLink RX5 281 yX1_quantizeDetails ∈ GW := gm 1091 (by decide +kernel) (by decide +kernel)
theorem k1092 : Cond.instanceMethod yX1_quantizeDetails ∈ GW := gm 1092 (by decide +kernel) (by decide +kernel)
theorem k1093 : Cond.selects RX1 yX1_quantizeDetails yX1_quantizeDetails ∈ GW := gm 1093 (by decide +kernel) (by decide +kernel)
theorem k1094 : Cond.code yX1_quantizeDetails cX1_quantizeDetails 10 (some .long) ∈ GW := gm 1094 (by decide +kernel) (by decide +kernel)
theorem k1100 : Cond.methodLink RL 232 yL_keepLargest ∈ GW := gm 1100 (by decide +kernel) (by decide +kernel)
theorem k1101 : Cond.static yL_keepLargest ∈ GW := gm 1101 (by decide +kernel) (by decide +kernel)
theorem k1102 : Cond.codeWith yL_keepLargest cL_keepLargest 4 (some .int) [(0, 8, 11, 19)] ∈ GW := gm 1102 (by decide +kernel) (by decide +kernel)
theorem k1103 : Cond.methodLink RL 85 yX5_keepLargest ∈ GW := gm 1103 (by decide +kernel) (by decide +kernel)
theorem k1104 : Cond.instanceMethod yX5_keepLargest ∈ GW := gm 1104 (by decide +kernel) (by decide +kernel)
theorem k1105 : Cond.selects RX5 yX5_keepLargest yX5_keepLargest ∈ GW := gm 1105 (by decide +kernel) (by decide +kernel)
theorem k1106 : Cond.code yX5_keepLargest cX5_keepLargest 2 (some .long) ∈ GW := gm 1106 (by decide +kernel) (by decide +kernel)
theorem k1107 : Cond.methodLink RX5 284 yX1_dropFromRank ∈ GW := gm 1107 (by decide +kernel) (by decide +kernel)
theorem k1108 : Cond.instanceMethod yX1_dropFromRank ∈ GW := gm 1108 (by decide +kernel) (by decide +kernel)
theorem k1109 : Cond.selects RX1 yX1_dropFromRank yX1_dropFromRank ∈ GW := gm 1109 (by decide +kernel) (by decide +kernel)
theorem k1110 : Cond.code yX1_dropFromRank cX1_dropFromRank 6 (some (.object "LiftingSignal$Whole")) ∈ GW := gm 1110 (by decide +kernel) (by decide +kernel)
theorem k1111 : Cond.methodLink RX1 230 yX1_stepOfRank ∈ GW := gm 1111 (by decide +kernel) (by decide +kernel)
theorem k1112 : Cond.methodLink RX1 233 yX4_dropSign ∈ GW := gm 1112 (by decide +kernel) (by decide +kernel)
theorem k1113 : Cond.instanceMethod yX4_dropSign ∈ GW := gm 1113 (by decide +kernel) (by decide +kernel)
theorem k1114 : Cond.selects RX4 yX4_dropSign yX4_dropSign ∈ GW := gm 1114 (by decide +kernel) (by decide +kernel)
theorem k1115 : Cond.code yX4_dropSign cX4_dropSign 1 none ∈ GW := gm 1115 (by decide +kernel) (by decide +kernel)
theorem k1116 : Cond.methodLink RL 235 yL_error ∈ GW := gm 1116 (by decide +kernel) (by decide +kernel)
theorem k1117 : Cond.static yL_error ∈ GW := gm 1117 (by decide +kernel) (by decide +kernel)
theorem k1118 : Cond.codeWith yL_error cL_error 4 (some .int) [(0, 8, 11, 19)] ∈ GW := gm 1118 (by decide +kernel) (by decide +kernel)
theorem k1119 : Cond.methodLink RL 88 yX5_error ∈ GW := gm 1119 (by decide +kernel) (by decide +kernel)
theorem k1120 : Cond.instanceMethod yX5_error ∈ GW := gm 1120 (by decide +kernel) (by decide +kernel)
theorem k1121 : Cond.selects RX5 yX5_error yX5_error ∈ GW := gm 1121 (by decide +kernel) (by decide +kernel)
theorem k1122 : Cond.code yX5_error cX5_error 2 (some .long) ∈ GW := gm 1122 (by decide +kernel) (by decide +kernel)
theorem k1123 : Cond.methodLink RX5 287 yX1_copyFrom ∈ GW := gm 1123 (by decide +kernel) (by decide +kernel)
theorem k1124 : Cond.instanceMethod yX1_copyFrom ∈ GW := gm 1124 (by decide +kernel) (by decide +kernel)
theorem k1125 : Cond.selects RX1 yX1_copyFrom yX1_copyFrom ∈ GW := gm 1125 (by decide +kernel) (by decide +kernel)
theorem k1126 : Cond.code yX1_copyFrom cX1_copyFrom 3 none ∈ GW := gm 1126 (by decide +kernel) (by decide +kernel)
theorem k1127 : Cond.methodLink RX1 91 arraycopyName ∈ GW := gm 1127 (by decide +kernel) (by decide +kernel)
theorem k1133 : Cond.methodLink RX5 290 yX1_greatestDifference ∈ GW := gm 1133 (by decide +kernel) (by decide +kernel)
theorem k1134 : Cond.instanceMethod yX1_greatestDifference ∈ GW := gm 1134 (by decide +kernel) (by decide +kernel)
theorem k1135 : Cond.selects RX1 yX1_greatestDifference yX1_greatestDifference ∈ GW := gm 1135 (by decide +kernel) (by decide +kernel)
theorem k1136 : Cond.code yX1_greatestDifference cX1_greatestDifference 2 (some (.object "LiftingSignal$Whole")) ∈ GW := gm 1136 (by decide +kernel) (by decide +kernel)
theorem k1137 : Cond.methodLink RX1 240 yX1_differenceInto ∈ GW := gm 1137 (by decide +kernel) (by decide +kernel)
theorem k1139 : Cond.instanceMethod yX1_differenceInto ∈ GW := gm 1139 (by decide +kernel) (by decide +kernel)
theorem k1140 : Cond.code yX1_differenceInto cX1_differenceInto 3 none ∈ GW := gm 1140 (by decide +kernel) (by decide +kernel)
theorem k1141 : Cond.methodLink RX5 293 yX1_differenceSum ∈ GW := gm 1141 (by decide +kernel) (by decide +kernel)
theorem k1142 : Cond.instanceMethod yX1_differenceSum ∈ GW := gm 1142 (by decide +kernel) (by decide +kernel)
theorem k1143 : Cond.selects RX1 yX1_differenceSum yX1_differenceSum ∈ GW := gm 1143 (by decide +kernel) (by decide +kernel)
theorem k1144 : Cond.code yX1_differenceSum cX1_differenceSum 2 (some (.object "LiftingSignal$Whole")) ∈ GW := gm 1144 (by decide +kernel) (by decide +kernel)
theorem k1145 : Cond.methodLink RX5 296 yX1_differenceCount ∈ GW := gm 1145 (by decide +kernel) (by decide +kernel)
theorem k1146 : Cond.instanceMethod yX1_differenceCount ∈ GW := gm 1146 (by decide +kernel) (by decide +kernel)
theorem k1147 : Cond.selects RX1 yX1_differenceCount yX1_differenceCount ∈ GW := gm 1147 (by decide +kernel) (by decide +kernel)
theorem k1148 : Cond.code yX1_differenceCount cX1_differenceCount 3 (some .int) ∈ GW := gm 1148 (by decide +kernel) (by decide +kernel)
theorem k1149 : Cond.methodLink RL 238 yL_errorWith ∈ GW := gm 1149 (by decide +kernel) (by decide +kernel)
theorem k1150 : Cond.static yL_errorWith ∈ GW := gm 1150 (by decide +kernel) (by decide +kernel)
theorem k1151 : Cond.codeWith yL_errorWith cL_errorWith 5 (some .int) [(0, 9, 12, 19)] ∈ GW := gm 1151 (by decide +kernel) (by decide +kernel)
theorem k1152 : Cond.methodLink RL 91 yX5_errorWith ∈ GW := gm 1152 (by decide +kernel) (by decide +kernel)
theorem k1153 : Cond.instanceMethod yX5_errorWith ∈ GW := gm 1153 (by decide +kernel) (by decide +kernel)
theorem k1154 : Cond.selects RX5 yX5_errorWith yX5_errorWith ∈ GW := gm 1154 (by decide +kernel) (by decide +kernel)
theorem k1155 : Cond.code yX5_errorWith cX5_errorWith 3 (some .long) ∈ GW := gm 1155 (by decide +kernel) (by decide +kernel)
theorem k1156 : Cond.methodLink RX5 299 yX5_errorOfCut ∈ GW := gm 1156 (by decide +kernel) (by decide +kernel)
theorem k1158 : Cond.instanceMethod yX5_errorOfCut ∈ GW := gm 1158 (by decide +kernel) (by decide +kernel)
theorem k1159 : Cond.code yX5_errorOfCut cX5_errorOfCut 3 (some (.object "LiftingSignal$Whole")) ∈ GW := gm 1159 (by decide +kernel) (by decide +kernel)
theorem k1160 : Cond.methodLink RL 241 yL_bestThreshold ∈ GW := gm 1160 (by decide +kernel) (by decide +kernel)
theorem k1161 : Cond.static yL_bestThreshold ∈ GW := gm 1161 (by decide +kernel) (by decide +kernel)
theorem k1162 : Cond.codeWith yL_bestThreshold cL_bestThreshold 4 (some .int) [(0, 9, 12, 19), (0, 9, 15, 51)] ∈ GW := gm 1162 (by decide +kernel) (by decide +kernel)
theorem k1163 : Cond.methodLink RL 95 yX5_bestThreshold ∈ GW := gm 1163 (by decide +kernel) (by decide +kernel)
theorem k1164 : Cond.instanceMethod yX5_bestThreshold ∈ GW := gm 1164 (by decide +kernel) (by decide +kernel)
theorem k1165 : Cond.selects RX5 yX5_bestThreshold yX5_bestThreshold ∈ GW := gm 1165 (by decide +kernel) (by decide +kernel)
theorem k1166 : Cond.code yX5_bestThreshold cX5_bestThreshold 5 (some .int) ∈ GW := gm 1166 (by decide +kernel) (by decide +kernel)
theorem k1167 : Cond.constantLong RX5 303 1000 ∈ GW := gm 1167 (by decide +kernel) (by decide +kernel)
theorem k1168 : Cond.methodLink RX5 305 yX4_isAmountBelow ∈ GW := gm 1168 (by decide +kernel) (by decide +kernel)
theorem k1175 : Cond.methodLink RL 244 yL_bitsBy ∈ GW := gm 1175 (by decide +kernel) (by decide +kernel)
theorem k1176 : Cond.static yL_bitsBy ∈ GW := gm 1176 (by decide +kernel) (by decide +kernel)
theorem k1177 : Cond.codeWith yL_bitsBy cL_bitsBy 5 (some .int) [(0, 10, 13, 19)] ∈ GW := gm 1177 (by decide +kernel) (by decide +kernel)
theorem k1178 : Cond.methodLink RL 98 yX5_bitsBy ∈ GW := gm 1178 (by decide +kernel) (by decide +kernel)
theorem k1179 : Cond.instanceMethod yX5_bitsBy ∈ GW := gm 1179 (by decide +kernel) (by decide +kernel)
theorem k1180 : Cond.selects RX5 yX5_bitsBy yX5_bitsBy ∈ GW := gm 1180 (by decide +kernel) (by decide +kernel)
theorem k1181 : Cond.code yX5_bitsBy cX5_bitsBy 3 (some .int) ∈ GW := gm 1181 (by decide +kernel) (by decide +kernel)
theorem k1182 : Cond.methodLink RL 251 yL_reason ∈ GW := gm 1182 (by decide +kernel) (by decide +kernel)
theorem k1183 : Cond.static yL_reason ∈ GW := gm 1183 (by decide +kernel) (by decide +kernel)
theorem k1184 : Cond.codeWith yL_reason cL_reason 4 (some .int) [(0, 9, 12, 19)] ∈ GW := gm 1184 (by decide +kernel) (by decide +kernel)
theorem k1185 : Cond.methodLink RL 102 yX5_reason ∈ GW := gm 1185 (by decide +kernel) (by decide +kernel)
theorem k1186 : Cond.instanceMethod yX5_reason ∈ GW := gm 1186 (by decide +kernel) (by decide +kernel)
theorem k1187 : Cond.selects RX5 yX5_reason yX5_reason ∈ GW := gm 1187 (by decide +kernel) (by decide +kernel)
theorem k1188 : Cond.code yX5_reason cX5_reason 2 (some .int) ∈ GW := gm 1188 (by decide +kernel) (by decide +kernel)
theorem k1189 : Cond.methodLink RL 258 yL_save ∈ GW := gm 1189 (by decide +kernel) (by decide +kernel)
theorem k1190 : Cond.static yL_save ∈ GW := gm 1190 (by decide +kernel) (by decide +kernel)
theorem k1191 : Cond.codeWith yL_save cL_save 3 (some .int) [(0, 5, 8, 13)] ∈ GW := gm 1191 (by decide +kernel) (by decide +kernel)
theorem k1192 : Cond.methodLink RL 105 yX5_save ∈ GW := gm 1192 (by decide +kernel) (by decide +kernel)
theorem k1193 : Cond.instanceMethod yX5_save ∈ GW := gm 1193 (by decide +kernel) (by decide +kernel)
theorem k1194 : Cond.selects RX5 yX5_save yX5_save ∈ GW := gm 1194 (by decide +kernel) (by decide +kernel)
theorem k1195 : Cond.code yX5_save cX5_save 2 none ∈ GW := gm 1195 (by decide +kernel) (by decide +kernel)
theorem k1196 : Cond.methodLink RL 262 yL_restore ∈ GW := gm 1196 (by decide +kernel) (by decide +kernel)
theorem k1197 : Cond.static yL_restore ∈ GW := gm 1197 (by decide +kernel) (by decide +kernel)
theorem k1198 : Cond.codeWith yL_restore cL_restore 3 (some .int) [(0, 5, 8, 13), (0, 5, 11, 51)] ∈ GW := gm 1198 (by decide +kernel) (by decide +kernel)
theorem k1199 : Cond.methodLink RL 109 yX5_restore ∈ GW := gm 1199 (by decide +kernel) (by decide +kernel)
theorem k1200 : Cond.instanceMethod yX5_restore ∈ GW := gm 1200 (by decide +kernel) (by decide +kernel)
theorem k1201 : Cond.selects RX5 yX5_restore yX5_restore ∈ GW := gm 1201 (by decide +kernel) (by decide +kernel)
theorem k1202 : Cond.code yX5_restore cX5_restore 2 none ∈ GW := gm 1202 (by decide +kernel) (by decide +kernel)
theorem k1209 : Cond.methodLink RX6 1 objectInit ∈ GW := gm 1209 (by decide +kernel) (by decide +kernel)
theorem k1210 : Cond.methodLink RX6 61 yX6_takesText ∈ GW := gm 1210 (by decide +kernel) (by decide +kernel)
theorem k1212 : Cond.instanceMethod yX6_takesText ∈ GW := gm 1212 (by decide +kernel) (by decide +kernel)
theorem k1213 : Cond.code yX6_takesText cX6_takesText 2 none ∈ GW := gm 1213 (by decide +kernel) (by decide +kernel)
theorem k1214 : Cond.methodLink RX6 191 yX6_anew ∈ GW := gm 1214 (by decide +kernel) (by decide +kernel)
theorem k1216 : Cond.instanceMethod yX6_anew ∈ GW := gm 1216 (by decide +kernel) (by decide +kernel)
theorem k1217 : Cond.code yX6_anew cX6_anew 4 none ∈ GW := gm 1217 (by decide +kernel) (by decide +kernel)
theorem k1218 : Cond.constantLong RX6 197 (-1) ∈ GW := gm 1218 (by decide +kernel) (by decide +kernel)
theorem k1219 : Cond.fieldLink RX6 64 "LiftingSignalModel" "raised" "I" ∈ GW := gm 1219 (by decide +kernel) (by decide +kernel)
theorem k1220 : Cond.fieldLink RX6 7 "LiftingSignalModel" "w" "[J" ∈ GW := gm 1220 (by decide +kernel) (by decide +kernel)
theorem k1221 : Cond.fieldLink RX6 13 "LiftingSignalModel" "aside" "[J" ∈ GW := gm 1221 (by decide +kernel) (by decide +kernel)
theorem k1222 : Cond.fieldLink RX6 16 "LiftingSignalModel" "slots" "[J" ∈ GW := gm 1222 (by decide +kernel) (by decide +kernel)
theorem k1223 : Cond.fieldLink RX6 19 "LiftingSignalModel" "areKept" "[Z" ∈ GW := gm 1223 (by decide +kernel) (by decide +kernel)
theorem k1224 : Cond.fieldLink RX6 23 "LiftingSignalModel" "place" "[I" ∈ GW := gm 1224 (by decide +kernel) (by decide +kernel)
theorem k1225 : Cond.fieldLink RX6 27 "LiftingSignalModel" "first" "[I" ∈ GW := gm 1225 (by decide +kernel) (by decide +kernel)
theorem k1226 : Cond.fieldLink RX6 185 "LiftingSignalModel" "samples" "I" ∈ GW := gm 1226 (by decide +kernel) (by decide +kernel)
theorem k1227 : Cond.fieldLink RX6 188 "LiftingSignalModel" "least" "I" ∈ GW := gm 1227 (by decide +kernel) (by decide +kernel)
theorem k1228 : Cond.fieldLink RX6 67 "LiftingSignalModel" "reasonAt" "I" ∈ GW := gm 1228 (by decide +kernel) (by decide +kernel)
theorem k1229 : Cond.fieldLink RX6 70 "LiftingSignalModel" "causeAt" "I" ∈ GW := gm 1229 (by decide +kernel) (by decide +kernel)
theorem k1230 : Cond.fieldLink RX6 30 "LiftingSignalModel" "aboutAt" "I" ∈ GW := gm 1230 (by decide +kernel) (by decide +kernel)
theorem k1231 : Cond.fieldLink RX6 34 "LiftingSignalModel" "text" "[I" ∈ GW := gm 1231 (by decide +kernel) (by decide +kernel)
theorem k1232 : Cond.fieldLink RX6 77 "LiftingSignalModel" "length" "I" ∈ GW := gm 1232 (by decide +kernel) (by decide +kernel)
theorem k1233 : Cond.fieldLink RX6 88 "LiftingSignalModel" "at" "I" ∈ GW := gm 1233 (by decide +kernel) (by decide +kernel)
theorem k1234 : Cond.fieldLink RX6 95 "LiftingSignalModel" "errorCode" "I" ∈ GW := gm 1234 (by decide +kernel) (by decide +kernel)
theorem k1235 : Cond.fieldLink RX6 37 "LiftingSignalModel" "errorPosition" "I" ∈ GW := gm 1235 (by decide +kernel) (by decide +kernel)
theorem k1236 : Cond.fieldLink RX6 91 "LiftingSignalModel" "isBad" "Z" ∈ GW := gm 1236 (by decide +kernel) (by decide +kernel)
theorem k1237 : Cond.fieldLink RX6 46 "LiftingSignalModel" "newSamples" "I" ∈ GW := gm 1237 (by decide +kernel) (by decide +kernel)
theorem k1238 : Cond.fieldLink RX6 49 "LiftingSignalModel" "newLeast" "I" ∈ GW := gm 1238 (by decide +kernel) (by decide +kernel)
theorem k1239 : Cond.fieldLink RX6 52 "LiftingSignalModel" "newSplit" "I" ∈ GW := gm 1239 (by decide +kernel) (by decide +kernel)
theorem k1240 : Cond.fieldLink RX6 55 "LiftingSignalModel" "newPredict" "I" ∈ GW := gm 1240 (by decide +kernel) (by decide +kernel)
theorem k1241 : Cond.fieldLink RX6 58 "LiftingSignalModel" "newUpdate" "I" ∈ GW := gm 1241 (by decide +kernel) (by decide +kernel)
theorem k1242 : Cond.fieldLink RX6 135 "LiftingSignalModel" "told" "I" ∈ GW := gm 1242 (by decide +kernel) (by decide +kernel)
theorem k1244 : Cond.fieldLink RX6 40 "LiftingSignalModel" "newPlace" "[I" ∈ GW := gm 1244 (by decide +kernel) (by decide +kernel)
theorem k1245 : Cond.fieldLink RX6 43 "LiftingSignalModel" "newValue" "[I" ∈ GW := gm 1245 (by decide +kernel) (by decide +kernel)
theorem k1301 : Cond.methodLink RL 127 yX6_thrown ∈ GW := gm 1301 (by decide +kernel) (by decide +kernel)
theorem k1302 : Cond.instanceMethod yX6_thrown ∈ GW := gm 1302 (by decide +kernel) (by decide +kernel)
theorem k1303 : Cond.selects RX6 yX6_thrown yX6_thrown ∈ GW := gm 1303 (by decide +kernel) (by decide +kernel)
theorem k1304 : Cond.code yX6_thrown cX6_thrown 1 (some .int) ∈ GW := gm 1304 (by decide +kernel) (by decide +kernel)
theorem k1305 : Cond.methodLink RL 120 yX6_append ∈ GW := gm 1305 (by decide +kernel) (by decide +kernel)
theorem k1306 : Cond.instanceMethod yX6_append ∈ GW := gm 1306 (by decide +kernel) (by decide +kernel)
theorem k1307 : Cond.selects RX6 yX6_append yX6_append ∈ GW := gm 1307 (by decide +kernel) (by decide +kernel)
theorem k1308 : Cond.code yX6_append cX6_append 6 (some .int) ∈ GW := gm 1308 (by decide +kernel) (by decide +kernel)
theorem k1309 : Cond.methodLink RX6 80 yX6_four ∈ GW := gm 1309 (by decide +kernel) (by decide +kernel)
theorem k1311 : Cond.instanceMethod yX6_four ∈ GW := gm 1311 (by decide +kernel) (by decide +kernel)
theorem k1312 : Cond.code yX6_four cX6_four 3 none ∈ GW := gm 1312 (by decide +kernel) (by decide +kernel)
theorem k1313 : Cond.methodLink RL 126 yX6_truncate ∈ GW := gm 1313 (by decide +kernel) (by decide +kernel)
theorem k1314 : Cond.instanceMethod yX6_truncate ∈ GW := gm 1314 (by decide +kernel) (by decide +kernel)
theorem k1315 : Cond.selects RX6 yX6_truncate yX6_truncate ∈ GW := gm 1315 (by decide +kernel) (by decide +kernel)
theorem k1316 : Cond.code yX6_truncate cX6_truncate 2 (some .int) ∈ GW := gm 1316 (by decide +kernel) (by decide +kernel)
theorem k1317 : Cond.methodLink RX6 84 yX6_in ∈ GW := gm 1317 (by decide +kernel) (by decide +kernel)
theorem k1318 : Cond.static yX6_in ∈ GW := gm 1318 (by decide +kernel) (by decide +kernel)
theorem k1319 : Cond.code yX6_in cX6_in 6 (some .boolean) ∈ GW := gm 1319 (by decide +kernel) (by decide +kernel)
theorem k1320 : Cond.methodLink RX6 73 yX6_fails ∈ GW := gm 1320 (by decide +kernel) (by decide +kernel)
theorem k1322 : Cond.instanceMethod yX6_fails ∈ GW := gm 1322 (by decide +kernel) (by decide +kernel)
theorem k1323 : Cond.code yX6_fails cX6_fails 2 (some .int) ∈ GW := gm 1323 (by decide +kernel) (by decide +kernel)
theorem k1324 : Cond.methodLink RL 133 yX6_load ∈ GW := gm 1324 (by decide +kernel) (by decide +kernel)
theorem k1325 : Cond.instanceMethod yX6_load ∈ GW := gm 1325 (by decide +kernel) (by decide +kernel)
theorem k1326 : Cond.selects RX6 yX6_load yX6_load ∈ GW := gm 1326 (by decide +kernel) (by decide +kernel)
theorem k1327 : Cond.code yX6_load cX6_load 1 (some .int) ∈ GW := gm 1327 (by decide +kernel) (by decide +kernel)
theorem k1328 : Cond.methodLink RX6 194 yX6_reads ∈ GW := gm 1328 (by decide +kernel) (by decide +kernel)
theorem k1330 : Cond.instanceMethod yX6_reads ∈ GW := gm 1330 (by decide +kernel) (by decide +kernel)
theorem k1331 : Cond.code yX6_reads cX6_reads 3 none ∈ GW := gm 1331 (by decide +kernel) (by decide +kernel)
theorem k1332 : Cond.methodLink RX6 176 yX6_setting ∈ GW := gm 1332 (by decide +kernel) (by decide +kernel)
theorem k1334 : Cond.instanceMethod yX6_setting ∈ GW := gm 1334 (by decide +kernel) (by decide +kernel)
theorem k1335 : Cond.code yX6_setting cX6_setting 1 (some .boolean) ∈ GW := gm 1335 (by decide +kernel) (by decide +kernel)
theorem k1336 : Cond.constantLong RX6 138 10421318 ∈ GW := gm 1336 (by decide +kernel) (by decide +kernel)
theorem k1337 : Cond.methodLink RX6 117 yX6_isWord ∈ GW := gm 1337 (by decide +kernel) (by decide +kernel)
theorem k1339 : Cond.instanceMethod yX6_isWord ∈ GW := gm 1339 (by decide +kernel) (by decide +kernel)
theorem k1340 : Cond.code yX6_isWord cX6_isWord 3 (some .boolean) ∈ GW := gm 1340 (by decide +kernel) (by decide +kernel)
theorem k1341 : Cond.methodLink RX6 113 yX6_word ∈ GW := gm 1341 (by decide +kernel) (by decide +kernel)
theorem k1343 : Cond.instanceMethod yX6_word ∈ GW := gm 1343 (by decide +kernel) (by decide +kernel)
theorem k1344 : Cond.code yX6_word cX6_word 5 (some .long) ∈ GW := gm 1344 (by decide +kernel) (by decide +kernel)
theorem k1345 : Cond.methodLink RX6 102 yX6_here ∈ GW := gm 1345 (by decide +kernel) (by decide +kernel)
theorem k1347 : Cond.instanceMethod yX6_here ∈ GW := gm 1347 (by decide +kernel) (by decide +kernel)
theorem k1348 : Cond.code yX6_here cX6_here 1 (some .int) ∈ GW := gm 1348 (by decide +kernel) (by decide +kernel)
theorem k1361 : Cond.methodLink RX6 128 yX6_wrong ∈ GW := gm 1361 (by decide +kernel) (by decide +kernel)
theorem k1363 : Cond.instanceMethod yX6_wrong ∈ GW := gm 1363 (by decide +kernel) (by decide +kernel)
theorem k1364 : Cond.code yX6_wrong cX6_wrong 3 none ∈ GW := gm 1364 (by decide +kernel) (by decide +kernel)
theorem k1376 : Cond.constantLong RX6 154 6459750749 ∈ GW := gm 1376 (by decide +kernel) (by decide +kernel)
theorem k1380 : Cond.constantLong RX6 162 309910109 ∈ GW := gm 1380 (by decide +kernel) (by decide +kernel)
theorem k1383 : Cond.constantLong RX6 168 6476969 ∈ GW := gm 1383 (by decide +kernel) (by decide +kernel)
theorem k1394 : Cond.constantLong RX6 180 47 ∈ GW := gm 1394 (by decide +kernel) (by decide +kernel)
theorem k1399 : Cond.methodLink RL 137 yX6_errorCode ∈ GW := gm 1399 (by decide +kernel) (by decide +kernel)
theorem k1400 : Cond.instanceMethod yX6_errorCode ∈ GW := gm 1400 (by decide +kernel) (by decide +kernel)
theorem k1401 : Cond.selects RX6 yX6_errorCode yX6_errorCode ∈ GW := gm 1401 (by decide +kernel) (by decide +kernel)
theorem k1402 : Cond.code yX6_errorCode cX6_errorCode 1 (some .int) ∈ GW := gm 1402 (by decide +kernel) (by decide +kernel)
theorem k1403 : Cond.methodLink RL 141 yX6_errorPosition ∈ GW := gm 1403 (by decide +kernel) (by decide +kernel)
theorem k1404 : Cond.instanceMethod yX6_errorPosition ∈ GW := gm 1404 (by decide +kernel) (by decide +kernel)
theorem k1405 : Cond.selects RX6 yX6_errorPosition yX6_errorPosition ∈ GW := gm 1405 (by decide +kernel) (by decide +kernel)
theorem k1406 : Cond.code yX6_errorPosition cX6_errorPosition 1 (some .int) ∈ GW := gm 1406 (by decide +kernel) (by decide +kernel)
theorem k1407 : Cond.methodLink RL 144 yX6_count ∈ GW := gm 1407 (by decide +kernel) (by decide +kernel)
theorem k1408 : Cond.instanceMethod yX6_count ∈ GW := gm 1408 (by decide +kernel) (by decide +kernel)
theorem k1409 : Cond.selects RX6 yX6_count yX6_count ∈ GW := gm 1409 (by decide +kernel) (by decide +kernel)
theorem k1410 : Cond.code yX6_count cX6_count 2 (some .int) ∈ GW := gm 1410 (by decide +kernel) (by decide +kernel)
theorem k1411 : Cond.constantLong RX6 212 8 ∈ GW := gm 1411 (by decide +kernel) (by decide +kernel)
theorem k1412 : Cond.methodLink RX6 214 yX6_presents ∈ GW := gm 1412 (by decide +kernel) (by decide +kernel)
theorem k1414 : Cond.instanceMethod yX6_presents ∈ GW := gm 1414 (by decide +kernel) (by decide +kernel)
theorem k1415 : Cond.code yX6_presents cX6_presents 1 (some .int) ∈ GW := gm 1415 (by decide +kernel) (by decide +kernel)
theorem k1416 : Cond.methodLink RX6 199 yX6_steps ∈ GW := gm 1416 (by decide +kernel) (by decide +kernel)
theorem k1418 : Cond.instanceMethod yX6_steps ∈ GW := gm 1418 (by decide +kernel) (by decide +kernel)
theorem k1419 : Cond.code yX6_steps cX6_steps 1 (some .int) ∈ GW := gm 1419 (by decide +kernel) (by decide +kernel)
theorem k1420 : Cond.methodLink RX6 217 yX6_zeros ∈ GW := gm 1420 (by decide +kernel) (by decide +kernel)
theorem k1422 : Cond.instanceMethod yX6_zeros ∈ GW := gm 1422 (by decide +kernel) (by decide +kernel)
theorem k1423 : Cond.code yX6_zeros cX6_zeros 3 (some .int) ∈ GW := gm 1423 (by decide +kernel) (by decide +kernel)
theorem k1428 : Cond.methodLink RX6 220 yX6_weights ∈ GW := gm 1428 (by decide +kernel) (by decide +kernel)
theorem k1430 : Cond.instanceMethod yX6_weights ∈ GW := gm 1430 (by decide +kernel) (by decide +kernel)
theorem k1431 : Cond.code yX6_weights cX6_weights 4 (some .long) ∈ GW := gm 1431 (by decide +kernel) (by decide +kernel)
theorem k1432 : Cond.methodLink RX6 202 yX6_isPresent ∈ GW := gm 1432 (by decide +kernel) (by decide +kernel)
theorem k1434 : Cond.instanceMethod yX6_isPresent ∈ GW := gm 1434 (by decide +kernel) (by decide +kernel)
theorem k1435 : Cond.code yX6_isPresent cX6_isPresent 2 (some .boolean) ∈ GW := gm 1435 (by decide +kernel) (by decide +kernel)
theorem k1436 : Cond.methodLink RL 148 yX6_sample ∈ GW := gm 1436 (by decide +kernel) (by decide +kernel)
theorem k1437 : Cond.instanceMethod yX6_sample ∈ GW := gm 1437 (by decide +kernel) (by decide +kernel)
theorem k1438 : Cond.selects RX6 yX6_sample yX6_sample ∈ GW := gm 1438 (by decide +kernel) (by decide +kernel)
theorem k1439 : Cond.code yX6_sample cX6_sample 3 (some .long) ∈ GW := gm 1439 (by decide +kernel) (by decide +kernel)
theorem k1440 : Cond.methodLink RX6 205 yX6_isSample ∈ GW := gm 1440 (by decide +kernel) (by decide +kernel)
theorem k1442 : Cond.instanceMethod yX6_isSample ∈ GW := gm 1442 (by decide +kernel) (by decide +kernel)
theorem k1443 : Cond.code yX6_isSample cX6_isSample 2 (some .boolean) ∈ GW := gm 1443 (by decide +kernel) (by decide +kernel)
theorem k1444 : Cond.constantLong RX6 223 5 ∈ GW := gm 1444 (by decide +kernel) (by decide +kernel)
theorem k1445 : Cond.methodLink RL 151 yX6_present ∈ GW := gm 1445 (by decide +kernel) (by decide +kernel)
theorem k1446 : Cond.instanceMethod yX6_present ∈ GW := gm 1446 (by decide +kernel) (by decide +kernel)
theorem k1447 : Cond.selects RX6 yX6_present yX6_present ∈ GW := gm 1447 (by decide +kernel) (by decide +kernel)
theorem k1448 : Cond.code yX6_present cX6_present 4 (some .int) ∈ GW := gm 1448 (by decide +kernel) (by decide +kernel)
theorem k1449 : Cond.methodLink RX6 225 yX6_beside ∈ GW := gm 1449 (by decide +kernel) (by decide +kernel)
theorem k1451 : Cond.instanceMethod yX6_beside ∈ GW := gm 1451 (by decide +kernel) (by decide +kernel)
theorem k1452 : Cond.code yX6_beside cX6_beside 4 (some .int) ∈ GW := gm 1452 (by decide +kernel) (by decide +kernel)
theorem k1453 : Cond.methodLink RL 155 yX6_neighbour ∈ GW := gm 1453 (by decide +kernel) (by decide +kernel)
theorem k1454 : Cond.instanceMethod yX6_neighbour ∈ GW := gm 1454 (by decide +kernel) (by decide +kernel)
theorem k1455 : Cond.selects RX6 yX6_neighbour yX6_neighbour ∈ GW := gm 1455 (by decide +kernel) (by decide +kernel)
theorem k1456 : Cond.code yX6_neighbour cX6_neighbour 3 (some .int) ∈ GW := gm 1456 (by decide +kernel) (by decide +kernel)
theorem k1457 : Cond.methodLink RL 158 yX6_step ∈ GW := gm 1457 (by decide +kernel) (by decide +kernel)
theorem k1458 : Cond.instanceMethod yX6_step ∈ GW := gm 1458 (by decide +kernel) (by decide +kernel)
theorem k1459 : Cond.selects RX6 yX6_step yX6_step ∈ GW := gm 1459 (by decide +kernel) (by decide +kernel)
theorem k1460 : Cond.code yX6_step cX6_step 3 (some .long) ∈ GW := gm 1460 (by decide +kernel) (by decide +kernel)
theorem k1461 : Cond.methodLink RX6 229 yX6_isStep ∈ GW := gm 1461 (by decide +kernel) (by decide +kernel)
theorem k1463 : Cond.instanceMethod yX6_isStep ∈ GW := gm 1463 (by decide +kernel) (by decide +kernel)
theorem k1464 : Cond.code yX6_isStep cX6_isStep 2 (some .boolean) ∈ GW := gm 1464 (by decide +kernel) (by decide +kernel)
theorem k1465 : Cond.methodLink RL 161 yX6_valueAt ∈ GW := gm 1465 (by decide +kernel) (by decide +kernel)
theorem k1466 : Cond.instanceMethod yX6_valueAt ∈ GW := gm 1466 (by decide +kernel) (by decide +kernel)
theorem k1467 : Cond.selects RX6 yX6_valueAt yX6_valueAt ∈ GW := gm 1467 (by decide +kernel) (by decide +kernel)
theorem k1468 : Cond.code yX6_valueAt cX6_valueAt 4 (some .long) ∈ GW := gm 1468 (by decide +kernel) (by decide +kernel)
theorem k1469 : Cond.methodLink RX6 232 yX6_floor ∈ GW := gm 1469 (by decide +kernel) (by decide +kernel)
theorem k1470 : Cond.static yX6_floor ∈ GW := gm 1470 (by decide +kernel) (by decide +kernel)
theorem k1471 : Cond.code yX6_floor cX6_floor 6 (some .long) ∈ GW := gm 1471 (by decide +kernel) (by decide +kernel)
theorem k1472 : Cond.methodLink RL 166 yX6_integral ∈ GW := gm 1472 (by decide +kernel) (by decide +kernel)
theorem k1473 : Cond.instanceMethod yX6_integral ∈ GW := gm 1473 (by decide +kernel) (by decide +kernel)
theorem k1474 : Cond.selects RX6 yX6_integral yX6_integral ∈ GW := gm 1474 (by decide +kernel) (by decide +kernel)
theorem k1475 : Cond.code yX6_integral cX6_integral 1 (some .long) ∈ GW := gm 1475 (by decide +kernel) (by decide +kernel)
theorem k1476 : Cond.methodLink RX6 236 yX6_whole ∈ GW := gm 1476 (by decide +kernel) (by decide +kernel)
theorem k1478 : Cond.instanceMethod yX6_whole ∈ GW := gm 1478 (by decide +kernel) (by decide +kernel)
theorem k1479 : Cond.code yX6_whole cX6_whole 4 (some .long) ∈ GW := gm 1479 (by decide +kernel) (by decide +kernel)
theorem k1480 : Cond.methodLink RL 170 yX6_drift ∈ GW := gm 1480 (by decide +kernel) (by decide +kernel)
theorem k1481 : Cond.instanceMethod yX6_drift ∈ GW := gm 1481 (by decide +kernel) (by decide +kernel)
theorem k1482 : Cond.selects RX6 yX6_drift yX6_drift ∈ GW := gm 1482 (by decide +kernel) (by decide +kernel)
theorem k1483 : Cond.code yX6_drift cX6_drift 1 (some .long) ∈ GW := gm 1483 (by decide +kernel) (by decide +kernel)
theorem k1484 : Cond.methodLink RL 173 yX6_mean ∈ GW := gm 1484 (by decide +kernel) (by decide +kernel)
theorem k1485 : Cond.instanceMethod yX6_mean ∈ GW := gm 1485 (by decide +kernel) (by decide +kernel)
theorem k1486 : Cond.selects RX6 yX6_mean yX6_mean ∈ GW := gm 1486 (by decide +kernel) (by decide +kernel)
theorem k1487 : Cond.code yX6_mean cX6_mean 4 (some .long) ∈ GW := gm 1487 (by decide +kernel) (by decide +kernel)
theorem k1488 : Cond.methodLink RX6 239 yX6_amount ∈ GW := gm 1488 (by decide +kernel) (by decide +kernel)
theorem k1489 : Cond.static yX6_amount ∈ GW := gm 1489 (by decide +kernel) (by decide +kernel)
theorem k1490 : Cond.code yX6_amount cX6_amount 2 (some .long) ∈ GW := gm 1490 (by decide +kernel) (by decide +kernel)
theorem k1491 : Cond.methodLink RX6 243 yX6_common ∈ GW := gm 1491 (by decide +kernel) (by decide +kernel)
theorem k1492 : Cond.static yX6_common ∈ GW := gm 1492 (by decide +kernel) (by decide +kernel)
theorem k1493 : Cond.code yX6_common cX6_common 10 (some .long) ∈ GW := gm 1493 (by decide +kernel) (by decide +kernel)
theorem k1494 : Cond.methodLink RL 178 yX6_plainMean ∈ GW := gm 1494 (by decide +kernel) (by decide +kernel)
theorem k1495 : Cond.instanceMethod yX6_plainMean ∈ GW := gm 1495 (by decide +kernel) (by decide +kernel)
theorem k1496 : Cond.selects RX6 yX6_plainMean yX6_plainMean ∈ GW := gm 1496 (by decide +kernel) (by decide +kernel)
theorem k1497 : Cond.code yX6_plainMean cX6_plainMean 4 (some .double) ∈ GW := gm 1497 (by decide +kernel) (by decide +kernel)
theorem k1498 : Cond.methodLink RL 182 yX6_energy ∈ GW := gm 1498 (by decide +kernel) (by decide +kernel)
theorem k1499 : Cond.instanceMethod yX6_energy ∈ GW := gm 1499 (by decide +kernel) (by decide +kernel)
theorem k1500 : Cond.selects RX6 yX6_energy yX6_energy ∈ GW := gm 1500 (by decide +kernel) (by decide +kernel)
theorem k1501 : Cond.code yX6_energy cX6_energy 4 (some .long) ∈ GW := gm 1501 (by decide +kernel) (by decide +kernel)
theorem k1502 : Cond.methodLink RL 186 yX6_bits ∈ GW := gm 1502 (by decide +kernel) (by decide +kernel)
theorem k1503 : Cond.instanceMethod yX6_bits ∈ GW := gm 1503 (by decide +kernel) (by decide +kernel)
theorem k1504 : Cond.selects RX6 yX6_bits yX6_bits ∈ GW := gm 1504 (by decide +kernel) (by decide +kernel)
theorem k1505 : Cond.code yX6_bits cX6_bits 1 (some .int) ∈ GW := gm 1505 (by decide +kernel) (by decide +kernel)
theorem k1506 : Cond.methodLink RX6 248 yX6_bitsNow ∈ GW := gm 1506 (by decide +kernel) (by decide +kernel)
theorem k1508 : Cond.instanceMethod yX6_bitsNow ∈ GW := gm 1508 (by decide +kernel) (by decide +kernel)
theorem k1509 : Cond.code yX6_bitsNow cX6_bitsNow 5 (some .int) ∈ GW := gm 1509 (by decide +kernel) (by decide +kernel)
theorem k1510 : Cond.constantLong RX6 246 2 ∈ GW := gm 1510 (by decide +kernel) (by decide +kernel)
theorem k1511 : Cond.methodLink RL 189 yX6_largest ∈ GW := gm 1511 (by decide +kernel) (by decide +kernel)
theorem k1512 : Cond.instanceMethod yX6_largest ∈ GW := gm 1512 (by decide +kernel) (by decide +kernel)
theorem k1513 : Cond.selects RX6 yX6_largest yX6_largest ∈ GW := gm 1513 (by decide +kernel) (by decide +kernel)
theorem k1514 : Cond.code yX6_largest cX6_largest 3 (some .int) ∈ GW := gm 1514 (by decide +kernel) (by decide +kernel)
theorem k1519 : Cond.methodLink RL 192 yX6_next ∈ GW := gm 1519 (by decide +kernel) (by decide +kernel)
theorem k1520 : Cond.instanceMethod yX6_next ∈ GW := gm 1520 (by decide +kernel) (by decide +kernel)
theorem k1521 : Cond.selects RX6 yX6_next yX6_next ∈ GW := gm 1521 (by decide +kernel) (by decide +kernel)
theorem k1522 : Cond.code yX6_next cX6_next 2 (some .int) ∈ GW := gm 1522 (by decide +kernel) (by decide +kernel)
theorem k1523 : Cond.methodLink RX6 283 yX6_nextOne ∈ GW := gm 1523 (by decide +kernel) (by decide +kernel)
theorem k1525 : Cond.instanceMethod yX6_nextOne ∈ GW := gm 1525 (by decide +kernel) (by decide +kernel)
theorem k1526 : Cond.code yX6_nextOne cX6_nextOne 3 (some .int) ∈ GW := gm 1526 (by decide +kernel) (by decide +kernel)
theorem k1527 : Cond.methodLink RX6 277 yX6_isInner ∈ GW := gm 1527 (by decide +kernel) (by decide +kernel)
theorem k1529 : Cond.instanceMethod yX6_isInner ∈ GW := gm 1529 (by decide +kernel) (by decide +kernel)
theorem k1530 : Cond.code yX6_isInner cX6_isInner 2 (some .boolean) ∈ GW := gm 1530 (by decide +kernel) (by decide +kernel)
theorem k1547 : Cond.methodLink RL 195 yX6_setSplit ∈ GW := gm 1547 (by decide +kernel) (by decide +kernel)
theorem k1548 : Cond.instanceMethod yX6_setSplit ∈ GW := gm 1548 (by decide +kernel) (by decide +kernel)
theorem k1549 : Cond.selects RX6 yX6_setSplit yX6_setSplit ∈ GW := gm 1549 (by decide +kernel) (by decide +kernel)
theorem k1550 : Cond.code yX6_setSplit cX6_setSplit 2 (some .int) ∈ GW := gm 1550 (by decide +kernel) (by decide +kernel)
theorem k1551 : Cond.methodLink RX6 286 yX6_sets ∈ GW := gm 1551 (by decide +kernel) (by decide +kernel)
theorem k1553 : Cond.instanceMethod yX6_sets ∈ GW := gm 1553 (by decide +kernel) (by decide +kernel)
theorem k1554 : Cond.code yX6_sets cX6_sets 5 (some .int) ∈ GW := gm 1554 (by decide +kernel) (by decide +kernel)
theorem k1555 : Cond.methodLink RL 198 yX6_setPredict ∈ GW := gm 1555 (by decide +kernel) (by decide +kernel)
theorem k1556 : Cond.instanceMethod yX6_setPredict ∈ GW := gm 1556 (by decide +kernel) (by decide +kernel)
theorem k1557 : Cond.selects RX6 yX6_setPredict yX6_setPredict ∈ GW := gm 1557 (by decide +kernel) (by decide +kernel)
theorem k1558 : Cond.code yX6_setPredict cX6_setPredict 2 (some .int) ∈ GW := gm 1558 (by decide +kernel) (by decide +kernel)
theorem k1559 : Cond.methodLink RL 203 yX6_setUpdate ∈ GW := gm 1559 (by decide +kernel) (by decide +kernel)
theorem k1560 : Cond.instanceMethod yX6_setUpdate ∈ GW := gm 1560 (by decide +kernel) (by decide +kernel)
theorem k1561 : Cond.selects RX6 yX6_setUpdate yX6_setUpdate ∈ GW := gm 1561 (by decide +kernel) (by decide +kernel)
theorem k1562 : Cond.code yX6_setUpdate cX6_setUpdate 2 (some .boolean) ∈ GW := gm 1562 (by decide +kernel) (by decide +kernel)
theorem k1563 : Cond.methodLink RL 206 yX6_set ∈ GW := gm 1563 (by decide +kernel) (by decide +kernel)
theorem k1564 : Cond.instanceMethod yX6_set ∈ GW := gm 1564 (by decide +kernel) (by decide +kernel)
theorem k1565 : Cond.selects RX6 yX6_set yX6_set ∈ GW := gm 1565 (by decide +kernel) (by decide +kernel)
theorem k1566 : Cond.code yX6_set cX6_set 5 (some .long) ∈ GW := gm 1566 (by decide +kernel) (by decide +kernel)
theorem k1567 : Cond.constantLong RX6 290 (-9999) ∈ GW := gm 1567 (by decide +kernel) (by decide +kernel)
theorem k1568 : Cond.constantLong RX6 292 9999 ∈ GW := gm 1568 (by decide +kernel) (by decide +kernel)
theorem k1569 : Cond.methodLink RX6 294 yX6_stateFails ∈ GW := gm 1569 (by decide +kernel) (by decide +kernel)
theorem k1571 : Cond.instanceMethod yX6_stateFails ∈ GW := gm 1571 (by decide +kernel) (by decide +kernel)
theorem k1572 : Cond.code yX6_stateFails cX6_stateFails 5 (some .int) ∈ GW := gm 1572 (by decide +kernel) (by decide +kernel)
theorem k1573 : Cond.methodLink RL 209 yX6_noise ∈ GW := gm 1573 (by decide +kernel) (by decide +kernel)
theorem k1574 : Cond.instanceMethod yX6_noise ∈ GW := gm 1574 (by decide +kernel) (by decide +kernel)
theorem k1575 : Cond.selects RX6 yX6_noise yX6_noise ∈ GW := gm 1575 (by decide +kernel) (by decide +kernel)
theorem k1576 : Cond.code yX6_noise cX6_noise 7 (some .long) ∈ GW := gm 1576 (by decide +kernel) (by decide +kernel)
theorem k1577 : Cond.constantLong RX6 298 999 ∈ GW := gm 1577 (by decide +kernel) (by decide +kernel)
theorem k1578 : Cond.constant RX6 300 1103515245 ∈ GW := gm 1578 (by decide +kernel) (by decide +kernel)
theorem k1579 : Cond.methodLink RL 213 yX6_reset ∈ GW := gm 1579 (by decide +kernel) (by decide +kernel)
theorem k1580 : Cond.instanceMethod yX6_reset ∈ GW := gm 1580 (by decide +kernel) (by decide +kernel)
theorem k1581 : Cond.selects RX6 yX6_reset yX6_reset ∈ GW := gm 1581 (by decide +kernel) (by decide +kernel)
theorem k1582 : Cond.code yX6_reset cX6_reset 2 (some .int) ∈ GW := gm 1582 (by decide +kernel) (by decide +kernel)
theorem k1583 : Cond.methodLink RL 216 yX6_forward ∈ GW := gm 1583 (by decide +kernel) (by decide +kernel)
theorem k1584 : Cond.instanceMethod yX6_forward ∈ GW := gm 1584 (by decide +kernel) (by decide +kernel)
theorem k1585 : Cond.selects RX6 yX6_forward yX6_forward ∈ GW := gm 1585 (by decide +kernel) (by decide +kernel)
theorem k1586 : Cond.code yX6_forward cX6_forward 2 (some .int) ∈ GW := gm 1586 (by decide +kernel) (by decide +kernel)
theorem k1587 : Cond.constantLong RX6 304 46 ∈ GW := gm 1587 (by decide +kernel) (by decide +kernel)
theorem k1588 : Cond.methodLink RX6 306 yX6_goesOn ∈ GW := gm 1588 (by decide +kernel) (by decide +kernel)
theorem k1590 : Cond.instanceMethod yX6_goesOn ∈ GW := gm 1590 (by decide +kernel) (by decide +kernel)
theorem k1591 : Cond.code yX6_goesOn cX6_goesOn 4 (some .int) ∈ GW := gm 1591 (by decide +kernel) (by decide +kernel)
theorem k1608 : Cond.methodLink RL 219 yX6_lift ∈ GW := gm 1608 (by decide +kernel) (by decide +kernel)
theorem k1609 : Cond.instanceMethod yX6_lift ∈ GW := gm 1609 (by decide +kernel) (by decide +kernel)
theorem k1610 : Cond.selects RX6 yX6_lift yX6_lift ∈ GW := gm 1610 (by decide +kernel) (by decide +kernel)
theorem k1611 : Cond.code yX6_lift cX6_lift 2 (some .long) ∈ GW := gm 1611 (by decide +kernel) (by decide +kernel)
theorem k1612 : Cond.methodLink RL 222 yX6_inverse ∈ GW := gm 1612 (by decide +kernel) (by decide +kernel)
theorem k1613 : Cond.instanceMethod yX6_inverse ∈ GW := gm 1613 (by decide +kernel) (by decide +kernel)
theorem k1614 : Cond.selects RX6 yX6_inverse yX6_inverse ∈ GW := gm 1614 (by decide +kernel) (by decide +kernel)
theorem k1615 : Cond.code yX6_inverse cX6_inverse 3 (some .int) ∈ GW := gm 1615 (by decide +kernel) (by decide +kernel)
theorem k1620 : Cond.methodLink RL 225 yX6_setDetail ∈ GW := gm 1620 (by decide +kernel) (by decide +kernel)
theorem k1621 : Cond.instanceMethod yX6_setDetail ∈ GW := gm 1621 (by decide +kernel) (by decide +kernel)
theorem k1622 : Cond.selects RX6 yX6_setDetail yX6_setDetail ∈ GW := gm 1622 (by decide +kernel) (by decide +kernel)
theorem k1623 : Cond.code yX6_setDetail cX6_setDetail 5 (some .long) ∈ GW := gm 1623 (by decide +kernel) (by decide +kernel)
theorem k1625 : Cond.constantLong RX6 314 99999 ∈ GW := gm 1625 (by decide +kernel) (by decide +kernel)
theorem k1626 : Cond.methodLink RL 228 yX6_threshold ∈ GW := gm 1626 (by decide +kernel) (by decide +kernel)
theorem k1627 : Cond.instanceMethod yX6_threshold ∈ GW := gm 1627 (by decide +kernel) (by decide +kernel)
theorem k1628 : Cond.selects RX6 yX6_threshold yX6_threshold ∈ GW := gm 1628 (by decide +kernel) (by decide +kernel)
theorem k1629 : Cond.code yX6_threshold cX6_threshold 3 (some .int) ∈ GW := gm 1629 (by decide +kernel) (by decide +kernel)
theorem k1630 : Cond.methodLink RX6 316 yX6_cuts ∈ GW := gm 1630 (by decide +kernel) (by decide +kernel)
theorem k1632 : Cond.instanceMethod yX6_cuts ∈ GW := gm 1632 (by decide +kernel) (by decide +kernel)
theorem k1633 : Cond.code yX6_cuts cX6_cuts 8 none ∈ GW := gm 1633 (by decide +kernel) (by decide +kernel)
theorem k1634 : Cond.methodLink RL 231 yX6_quantize ∈ GW := gm 1634 (by decide +kernel) (by decide +kernel)
theorem k1635 : Cond.instanceMethod yX6_quantize ∈ GW := gm 1635 (by decide +kernel) (by decide +kernel)
theorem k1636 : Cond.selects RX6 yX6_quantize yX6_quantize ∈ GW := gm 1636 (by decide +kernel) (by decide +kernel)
theorem k1637 : Cond.code yX6_quantize cX6_quantize 13 (some .long) ∈ GW := gm 1637 (by decide +kernel) (by decide +kernel)
theorem k1638 : Cond.methodLink RL 234 yX6_keepLargest ∈ GW := gm 1638 (by decide +kernel) (by decide +kernel)
theorem k1639 : Cond.instanceMethod yX6_keepLargest ∈ GW := gm 1639 (by decide +kernel) (by decide +kernel)
theorem k1640 : Cond.selects RX6 yX6_keepLargest yX6_keepLargest ∈ GW := gm 1640 (by decide +kernel) (by decide +kernel)
theorem k1641 : Cond.code yX6_keepLargest cX6_keepLargest 6 (some .long) ∈ GW := gm 1641 (by decide +kernel) (by decide +kernel)
theorem k1642 : Cond.methodLink RL 237 yX6_error ∈ GW := gm 1642 (by decide +kernel) (by decide +kernel)
theorem k1643 : Cond.instanceMethod yX6_error ∈ GW := gm 1643 (by decide +kernel) (by decide +kernel)
theorem k1644 : Cond.selects RX6 yX6_error yX6_error ∈ GW := gm 1644 (by decide +kernel) (by decide +kernel)
theorem k1645 : Cond.code yX6_error cX6_error 2 (some .long) ∈ GW := gm 1645 (by decide +kernel) (by decide +kernel)
theorem k1646 : Cond.methodLink RX6 323 yX6_puts ∈ GW := gm 1646 (by decide +kernel) (by decide +kernel)
theorem k1648 : Cond.instanceMethod yX6_puts ∈ GW := gm 1648 (by decide +kernel) (by decide +kernel)
theorem k1649 : Cond.code yX6_puts cX6_puts 2 none ∈ GW := gm 1649 (by decide +kernel) (by decide +kernel)
theorem k1650 : Cond.methodLink RX6 326 yX6_errorOf ∈ GW := gm 1650 (by decide +kernel) (by decide +kernel)
theorem k1652 : Cond.instanceMethod yX6_errorOf ∈ GW := gm 1652 (by decide +kernel) (by decide +kernel)
theorem k1653 : Cond.code yX6_errorOf cX6_errorOf 7 (some .long) ∈ GW := gm 1653 (by decide +kernel) (by decide +kernel)
theorem k1654 : Cond.methodLink RX6 320 yX6_takesBack ∈ GW := gm 1654 (by decide +kernel) (by decide +kernel)
theorem k1656 : Cond.instanceMethod yX6_takesBack ∈ GW := gm 1656 (by decide +kernel) (by decide +kernel)
theorem k1657 : Cond.code yX6_takesBack cX6_takesBack 2 none ∈ GW := gm 1657 (by decide +kernel) (by decide +kernel)
theorem k1658 : Cond.methodLink RL 240 yX6_errorWith ∈ GW := gm 1658 (by decide +kernel) (by decide +kernel)
theorem k1659 : Cond.instanceMethod yX6_errorWith ∈ GW := gm 1659 (by decide +kernel) (by decide +kernel)
theorem k1660 : Cond.selects RX6 yX6_errorWith yX6_errorWith ∈ GW := gm 1660 (by decide +kernel) (by decide +kernel)
theorem k1661 : Cond.code yX6_errorWith cX6_errorWith 3 (some .long) ∈ GW := gm 1661 (by decide +kernel) (by decide +kernel)
theorem k1662 : Cond.methodLink RX6 329 yX6_errorBy ∈ GW := gm 1662 (by decide +kernel) (by decide +kernel)
theorem k1664 : Cond.instanceMethod yX6_errorBy ∈ GW := gm 1664 (by decide +kernel) (by decide +kernel)
theorem k1665 : Cond.code yX6_errorBy cX6_errorBy 3 (some .long) ∈ GW := gm 1665 (by decide +kernel) (by decide +kernel)
theorem k1666 : Cond.methodLink RL 243 yX6_bestThreshold ∈ GW := gm 1666 (by decide +kernel) (by decide +kernel)
theorem k1667 : Cond.instanceMethod yX6_bestThreshold ∈ GW := gm 1667 (by decide +kernel) (by decide +kernel)
theorem k1668 : Cond.selects RX6 yX6_bestThreshold yX6_bestThreshold ∈ GW := gm 1668 (by decide +kernel) (by decide +kernel)
theorem k1669 : Cond.code yX6_bestThreshold cX6_bestThreshold 3 (some .int) ∈ GW := gm 1669 (by decide +kernel) (by decide +kernel)
theorem k1670 : Cond.methodLink RL 246 yX6_bitsBy ∈ GW := gm 1670 (by decide +kernel) (by decide +kernel)
theorem k1671 : Cond.instanceMethod yX6_bitsBy ∈ GW := gm 1671 (by decide +kernel) (by decide +kernel)
theorem k1672 : Cond.selects RX6 yX6_bitsBy yX6_bitsBy ∈ GW := gm 1672 (by decide +kernel) (by decide +kernel)
theorem k1673 : Cond.code yX6_bitsBy cX6_bitsBy 3 (some .int) ∈ GW := gm 1673 (by decide +kernel) (by decide +kernel)
theorem k1674 : Cond.methodLink RX6 333 yX6_bitsOf ∈ GW := gm 1674 (by decide +kernel) (by decide +kernel)
theorem k1676 : Cond.instanceMethod yX6_bitsOf ∈ GW := gm 1676 (by decide +kernel) (by decide +kernel)
theorem k1677 : Cond.code yX6_bitsOf cX6_bitsOf 4 (some .int) ∈ GW := gm 1677 (by decide +kernel) (by decide +kernel)
theorem k1678 : Cond.methodLink RL 250 yX6_bestScheme ∈ GW := gm 1678 (by decide +kernel) (by decide +kernel)
theorem k1679 : Cond.instanceMethod yX6_bestScheme ∈ GW := gm 1679 (by decide +kernel) (by decide +kernel)
theorem k1680 : Cond.selects RX6 yX6_bestScheme yX6_bestScheme ∈ GW := gm 1680 (by decide +kernel) (by decide +kernel)
theorem k1681 : Cond.code yX6_bestScheme cX6_bestScheme 5 (some .int) ∈ GW := gm 1681 (by decide +kernel) (by decide +kernel)
theorem k1682 : Cond.methodLink RL 253 yX6_reason ∈ GW := gm 1682 (by decide +kernel) (by decide +kernel)
theorem k1683 : Cond.instanceMethod yX6_reason ∈ GW := gm 1683 (by decide +kernel) (by decide +kernel)
theorem k1684 : Cond.selects RX6 yX6_reason yX6_reason ∈ GW := gm 1684 (by decide +kernel) (by decide +kernel)
theorem k1685 : Cond.code yX6_reason cX6_reason 2 (some .int) ∈ GW := gm 1685 (by decide +kernel) (by decide +kernel)
theorem k1686 : Cond.methodLink RL 257 yX6_reasonSample ∈ GW := gm 1686 (by decide +kernel) (by decide +kernel)
theorem k1687 : Cond.instanceMethod yX6_reasonSample ∈ GW := gm 1687 (by decide +kernel) (by decide +kernel)
theorem k1688 : Cond.selects RX6 yX6_reasonSample yX6_reasonSample ∈ GW := gm 1688 (by decide +kernel) (by decide +kernel)
theorem k1689 : Cond.code yX6_reasonSample cX6_reasonSample 1 (some .int) ∈ GW := gm 1689 (by decide +kernel) (by decide +kernel)
theorem k1690 : Cond.methodLink RL 261 yX6_save ∈ GW := gm 1690 (by decide +kernel) (by decide +kernel)
theorem k1691 : Cond.instanceMethod yX6_save ∈ GW := gm 1691 (by decide +kernel) (by decide +kernel)
theorem k1692 : Cond.selects RX6 yX6_save yX6_save ∈ GW := gm 1692 (by decide +kernel) (by decide +kernel)
theorem k1693 : Cond.code yX6_save cX6_save 3 none ∈ GW := gm 1693 (by decide +kernel) (by decide +kernel)
theorem k1694 : Cond.methodLink RL 264 yX6_restore ∈ GW := gm 1694 (by decide +kernel) (by decide +kernel)
theorem k1695 : Cond.instanceMethod yX6_restore ∈ GW := gm 1695 (by decide +kernel) (by decide +kernel)
theorem k1696 : Cond.selects RX6 yX6_restore yX6_restore ∈ GW := gm 1696 (by decide +kernel) (by decide +kernel)
theorem k1697 : Cond.code yX6_restore cX6_restore 3 none ∈ GW := gm 1697 (by decide +kernel) (by decide +kernel)
theorem dJ9_floorDiv_f86c9_0 : decode cJ9_floorDiv_f86c9 0 = .ok (.lload_n 0, 1) := by decide +kernel
theorem dJ9_floorDiv_f86c9_1 : decode cJ9_floorDiv_f86c9 1 = .ok (.lload_n 2, 1) := by decide +kernel
theorem dJ9_floorDiv_f86c9_2 : decode cJ9_floorDiv_f86c9 2 = .ok (.ldiv, 1) := by decide +kernel
theorem dJ9_floorDiv_f86c9_3 : decode cJ9_floorDiv_f86c9 3 = .ok (.lstore 4, 2) := by decide +kernel
theorem dJ9_floorDiv_f86c9_5 : decode cJ9_floorDiv_f86c9 5 = .ok (.lload_n 0, 1) := by decide +kernel
theorem dJ9_floorDiv_f86c9_6 : decode cJ9_floorDiv_f86c9 6 = .ok (.lload_n 2, 1) := by decide +kernel
theorem dJ9_floorDiv_f86c9_7 : decode cJ9_floorDiv_f86c9 7 = .ok (.lxor, 1) := by decide +kernel
theorem dJ9_floorDiv_f86c9_8 : decode cJ9_floorDiv_f86c9 8 = .ok (.lconst 0, 1) := by decide +kernel
theorem dJ9_floorDiv_f86c9_9 : decode cJ9_floorDiv_f86c9 9 = .ok (.lcmp, 1) := by decide +kernel
theorem dJ9_floorDiv_f86c9_10 : decode cJ9_floorDiv_f86c9 10 = .ok (.ifCond .ge 17, 3) := by decide +kernel
theorem dJ9_floorDiv_f86c9_27 : decode cJ9_floorDiv_f86c9 27 = .ok (.lload 4, 2) := by decide +kernel
theorem dJ9_floorDiv_f86c9_29 : decode cJ9_floorDiv_f86c9 29 = .ok (.lreturn, 1) := by decide +kernel
theorem dL_bestThreshold_0 : decode cL_bestThreshold 0 = .ok (.aload_n 2, 1) := by decide +kernel
theorem dL_bestThreshold_1 : decode cL_bestThreshold 1 = .ok (.iconst 0, 1) := by decide +kernel
theorem dL_bestThreshold_2 : decode cL_bestThreshold 2 = .ok (.aload_n 0, 1) := by decide +kernel
theorem dL_bestThreshold_3 : decode cL_bestThreshold 3 = .ok (.iload_n 1, 1) := by decide +kernel
theorem dL_bestThreshold_4 : decode cL_bestThreshold 4 = .ok (.invokevirtual 95, 3) := by decide +kernel
theorem dL_bestThreshold_7 : decode cL_bestThreshold 7 = .ok (.i2l, 1) := by decide +kernel
theorem dL_bestThreshold_8 : decode cL_bestThreshold 8 = .ok (.lastore, 1) := by decide +kernel
theorem dL_bestThreshold_9 : decode cL_bestThreshold 9 = .ok (.goto 9, 3) := by decide +kernel
theorem dL_bestThreshold_12 : decode cL_bestThreshold 12 = .ok (.astore_n 3, 1) := by decide +kernel
theorem dL_bestThreshold_13 : decode cL_bestThreshold 13 = .ok (.iconst 1, 1) := by decide +kernel
theorem dL_bestThreshold_14 : decode cL_bestThreshold 14 = .ok (.ireturn, 1) := by decide +kernel
theorem dL_bestThreshold_18 : decode cL_bestThreshold 18 = .ok (.iconst 0, 1) := by decide +kernel
theorem dL_bestThreshold_19 : decode cL_bestThreshold 19 = .ok (.ireturn, 1) := by decide +kernel
theorem dL_bitsBy_0 : decode cL_bitsBy 0 = .ok (.aload_n 3, 1) := by decide +kernel
theorem dL_bitsBy_1 : decode cL_bitsBy 1 = .ok (.iconst 0, 1) := by decide +kernel
theorem dL_bitsBy_2 : decode cL_bitsBy 2 = .ok (.aload_n 0, 1) := by decide +kernel
theorem dL_bitsBy_3 : decode cL_bitsBy 3 = .ok (.iload_n 1, 1) := by decide +kernel
theorem dL_bitsBy_4 : decode cL_bitsBy 4 = .ok (.iload_n 2, 1) := by decide +kernel
theorem dL_bitsBy_5 : decode cL_bitsBy 5 = .ok (.invokevirtual 98, 3) := by decide +kernel
theorem dL_bitsBy_8 : decode cL_bitsBy 8 = .ok (.i2l, 1) := by decide +kernel
theorem dL_bitsBy_9 : decode cL_bitsBy 9 = .ok (.lastore, 1) := by decide +kernel
theorem dL_bitsBy_10 : decode cL_bitsBy 10 = .ok (.goto 7, 3) := by decide +kernel
theorem dL_bitsBy_13 : decode cL_bitsBy 13 = .ok (.astore 4, 2) := by decide +kernel
theorem dL_bitsBy_15 : decode cL_bitsBy 15 = .ok (.iconst 1, 1) := by decide +kernel
theorem dL_bitsBy_16 : decode cL_bitsBy 16 = .ok (.ireturn, 1) := by decide +kernel
theorem dL_bitsBy_17 : decode cL_bitsBy 17 = .ok (.iconst 0, 1) := by decide +kernel
theorem dL_bitsBy_18 : decode cL_bitsBy 18 = .ok (.ireturn, 1) := by decide +kernel
theorem dL_count_0 : decode cL_count 0 = .ok (.aload_n 2, 1) := by decide +kernel
theorem dL_count_1 : decode cL_count 1 = .ok (.iconst 0, 1) := by decide +kernel
theorem dL_count_2 : decode cL_count 2 = .ok (.aload_n 0, 1) := by decide +kernel
theorem dL_count_3 : decode cL_count 3 = .ok (.iload_n 1, 1) := by decide +kernel
theorem dL_count_4 : decode cL_count 4 = .ok (.invokevirtual 21, 3) := by decide +kernel
theorem dL_count_7 : decode cL_count 7 = .ok (.i2l, 1) := by decide +kernel
theorem dL_count_8 : decode cL_count 8 = .ok (.lastore, 1) := by decide +kernel
theorem dL_count_9 : decode cL_count 9 = .ok (.goto 6, 3) := by decide +kernel
theorem dL_count_12 : decode cL_count 12 = .ok (.astore_n 3, 1) := by decide +kernel
theorem dL_count_13 : decode cL_count 13 = .ok (.iconst 1, 1) := by decide +kernel
theorem dL_count_14 : decode cL_count 14 = .ok (.ireturn, 1) := by decide +kernel
theorem dL_count_15 : decode cL_count 15 = .ok (.iconst 0, 1) := by decide +kernel
theorem dL_count_16 : decode cL_count 16 = .ok (.ireturn, 1) := by decide +kernel
theorem dL_error_0 : decode cL_error 0 = .ok (.aload_n 2, 1) := by decide +kernel
theorem dL_error_1 : decode cL_error 1 = .ok (.iconst 0, 1) := by decide +kernel
theorem dL_error_2 : decode cL_error 2 = .ok (.aload_n 0, 1) := by decide +kernel
theorem dL_error_3 : decode cL_error 3 = .ok (.iload_n 1, 1) := by decide +kernel
theorem dL_error_4 : decode cL_error 4 = .ok (.invokevirtual 88, 3) := by decide +kernel
theorem dL_error_7 : decode cL_error 7 = .ok (.lastore, 1) := by decide +kernel
theorem dL_error_8 : decode cL_error 8 = .ok (.goto 6, 3) := by decide +kernel
theorem dL_error_11 : decode cL_error 11 = .ok (.astore_n 3, 1) := by decide +kernel
theorem dL_error_12 : decode cL_error 12 = .ok (.iconst 1, 1) := by decide +kernel
theorem dL_error_13 : decode cL_error 13 = .ok (.ireturn, 1) := by decide +kernel
theorem dL_error_14 : decode cL_error 14 = .ok (.iconst 0, 1) := by decide +kernel
theorem dL_error_15 : decode cL_error 15 = .ok (.ireturn, 1) := by decide +kernel
theorem dL_errorWith_0 : decode cL_errorWith 0 = .ok (.aload_n 3, 1) := by decide +kernel
theorem dL_errorWith_1 : decode cL_errorWith 1 = .ok (.iconst 0, 1) := by decide +kernel
theorem dL_errorWith_2 : decode cL_errorWith 2 = .ok (.aload_n 0, 1) := by decide +kernel
theorem dL_errorWith_3 : decode cL_errorWith 3 = .ok (.iload_n 1, 1) := by decide +kernel
theorem dL_errorWith_4 : decode cL_errorWith 4 = .ok (.iload_n 2, 1) := by decide +kernel
theorem dL_errorWith_5 : decode cL_errorWith 5 = .ok (.invokevirtual 91, 3) := by decide +kernel
theorem dL_errorWith_8 : decode cL_errorWith 8 = .ok (.lastore, 1) := by decide +kernel
theorem dL_errorWith_9 : decode cL_errorWith 9 = .ok (.goto 7, 3) := by decide +kernel
theorem dL_errorWith_12 : decode cL_errorWith 12 = .ok (.astore 4, 2) := by decide +kernel
theorem dL_errorWith_14 : decode cL_errorWith 14 = .ok (.iconst 1, 1) := by decide +kernel
theorem dL_errorWith_15 : decode cL_errorWith 15 = .ok (.ireturn, 1) := by decide +kernel
theorem dL_errorWith_16 : decode cL_errorWith 16 = .ok (.iconst 0, 1) := by decide +kernel
theorem dL_errorWith_17 : decode cL_errorWith 17 = .ok (.ireturn, 1) := by decide +kernel
theorem dL_forward_0 : decode cL_forward 0 = .ok (.aload_n 2, 1) := by decide +kernel
theorem dL_forward_1 : decode cL_forward 1 = .ok (.iconst 0, 1) := by decide +kernel
theorem dL_forward_2 : decode cL_forward 2 = .ok (.aload_n 0, 1) := by decide +kernel
theorem dL_forward_3 : decode cL_forward 3 = .ok (.iload_n 1, 1) := by decide +kernel
theorem dL_forward_4 : decode cL_forward 4 = .ok (.invokevirtual 67, 3) := by decide +kernel
theorem dL_forward_12 : decode cL_forward 12 = .ok (.astore_n 3, 1) := by decide +kernel
theorem dL_forward_13 : decode cL_forward 13 = .ok (.iconst 1, 1) := by decide +kernel
theorem dL_forward_14 : decode cL_forward 14 = .ok (.ireturn, 1) := by decide +kernel
theorem dL_forward_15 : decode cL_forward 15 = .ok (.astore_n 3, 1) := by decide +kernel
theorem dL_forward_16 : decode cL_forward 16 = .ok (.iconst 2, 1) := by decide +kernel
theorem dL_forward_17 : decode cL_forward 17 = .ok (.ireturn, 1) := by decide +kernel
theorem dL_inverse_0 : decode cL_inverse 0 = .ok (.aload_n 2, 1) := by decide +kernel
theorem dL_inverse_1 : decode cL_inverse 1 = .ok (.iconst 0, 1) := by decide +kernel
theorem dL_inverse_2 : decode cL_inverse 2 = .ok (.aload_n 0, 1) := by decide +kernel
theorem dL_inverse_3 : decode cL_inverse 3 = .ok (.iload_n 1, 1) := by decide +kernel
theorem dL_inverse_4 : decode cL_inverse 4 = .ok (.invokevirtual 73, 3) := by decide +kernel
theorem dL_inverse_12 : decode cL_inverse 12 = .ok (.astore_n 3, 1) := by decide +kernel
theorem dL_inverse_13 : decode cL_inverse 13 = .ok (.iconst 1, 1) := by decide +kernel
theorem dL_inverse_14 : decode cL_inverse 14 = .ok (.ireturn, 1) := by decide +kernel
theorem dL_inverse_15 : decode cL_inverse 15 = .ok (.astore_n 3, 1) := by decide +kernel
theorem dL_inverse_16 : decode cL_inverse 16 = .ok (.iconst 2, 1) := by decide +kernel
theorem dL_inverse_17 : decode cL_inverse 17 = .ok (.ireturn, 1) := by decide +kernel
theorem dL_keepLargest_0 : decode cL_keepLargest 0 = .ok (.aload_n 2, 1) := by decide +kernel
theorem dL_keepLargest_1 : decode cL_keepLargest 1 = .ok (.iconst 0, 1) := by decide +kernel
theorem dL_keepLargest_2 : decode cL_keepLargest 2 = .ok (.aload_n 0, 1) := by decide +kernel
theorem dL_keepLargest_3 : decode cL_keepLargest 3 = .ok (.iload_n 1, 1) := by decide +kernel
theorem dL_keepLargest_4 : decode cL_keepLargest 4 = .ok (.invokevirtual 85, 3) := by decide +kernel
theorem dL_keepLargest_7 : decode cL_keepLargest 7 = .ok (.lastore, 1) := by decide +kernel
theorem dL_keepLargest_8 : decode cL_keepLargest 8 = .ok (.goto 6, 3) := by decide +kernel
theorem dL_keepLargest_11 : decode cL_keepLargest 11 = .ok (.astore_n 3, 1) := by decide +kernel
theorem dL_keepLargest_12 : decode cL_keepLargest 12 = .ok (.iconst 1, 1) := by decide +kernel
theorem dL_keepLargest_13 : decode cL_keepLargest 13 = .ok (.ireturn, 1) := by decide +kernel
theorem dL_keepLargest_14 : decode cL_keepLargest 14 = .ok (.iconst 0, 1) := by decide +kernel
theorem dL_keepLargest_15 : decode cL_keepLargest 15 = .ok (.ireturn, 1) := by decide +kernel
theorem dL_largest_0 : decode cL_largest 0 = .ok (.aload_n 2, 1) := by decide +kernel
theorem dL_largest_1 : decode cL_largest 1 = .ok (.iconst 0, 1) := by decide +kernel
theorem dL_largest_2 : decode cL_largest 2 = .ok (.aload_n 0, 1) := by decide +kernel
theorem dL_largest_3 : decode cL_largest 3 = .ok (.iload_n 1, 1) := by decide +kernel
theorem dL_largest_4 : decode cL_largest 4 = .ok (.invokevirtual 45, 3) := by decide +kernel
theorem dL_largest_12 : decode cL_largest 12 = .ok (.astore_n 3, 1) := by decide +kernel
theorem dL_largest_13 : decode cL_largest 13 = .ok (.iconst 1, 1) := by decide +kernel
theorem dL_largest_14 : decode cL_largest 14 = .ok (.ireturn, 1) := by decide +kernel
theorem dL_law_220 : decode cL_law 220 = .ok (.aload_n 1, 1) := by decide +kernel
theorem dL_law_221 : decode cL_law 221 = .ok (.aload_n 0, 1) := by decide +kernel
theorem dL_law_222 : decode cL_law 222 = .ok (.iload 4, 2) := by decide +kernel
theorem dL_law_224 : decode cL_law 224 = .ok (.iconst 1, 1) := by decide +kernel
theorem dL_law_225 : decode cL_law 225 = .ok (.iadd, 1) := by decide +kernel
theorem dL_law_226 : decode cL_law 226 = .ok (.iaload, 1) := by decide +kernel
theorem dL_law_227 : decode cL_law 227 = .ok (.aload_n 0, 1) := by decide +kernel
theorem dL_law_228 : decode cL_law 228 = .ok (.iload 4, 2) := by decide +kernel
theorem dL_law_230 : decode cL_law 230 = .ok (.iconst 2, 1) := by decide +kernel
theorem dL_law_231 : decode cL_law 231 = .ok (.iadd, 1) := by decide +kernel
theorem dL_law_232 : decode cL_law 232 = .ok (.iaload, 1) := by decide +kernel
theorem dL_law_233 : decode cL_law 233 = .ok (.aload_n 0, 1) := by decide +kernel
theorem dL_law_234 : decode cL_law 234 = .ok (.iload 4, 2) := by decide +kernel
theorem dL_law_236 : decode cL_law 236 = .ok (.iconst 3, 1) := by decide +kernel
theorem dL_law_237 : decode cL_law 237 = .ok (.iadd, 1) := by decide +kernel
theorem dL_law_238 : decode cL_law 238 = .ok (.iaload, 1) := by decide +kernel
theorem dL_law_239 : decode cL_law 239 = .ok (.aload_n 0, 1) := by decide +kernel
theorem dL_law_240 : decode cL_law 240 = .ok (.iload 4, 2) := by decide +kernel
theorem dL_law_242 : decode cL_law 242 = .ok (.iconst 4, 1) := by decide +kernel
theorem dL_law_243 : decode cL_law 243 = .ok (.iadd, 1) := by decide +kernel
theorem dL_law_244 : decode cL_law 244 = .ok (.iaload, 1) := by decide +kernel
theorem dL_law_245 : decode cL_law 245 = .ok (.aload_n 0, 1) := by decide +kernel
theorem dL_law_246 : decode cL_law 246 = .ok (.iload 4, 2) := by decide +kernel
theorem dL_law_248 : decode cL_law 248 = .ok (.iconst 5, 1) := by decide +kernel
theorem dL_law_249 : decode cL_law 249 = .ok (.iadd, 1) := by decide +kernel
theorem dL_law_250 : decode cL_law 250 = .ok (.iaload, 1) := by decide +kernel
theorem dL_law_251 : decode cL_law 251 = .ok (.invokevirtual 116, 3) := by decide +kernel
theorem dL_law_254 : decode cL_law 254 = .ok (.aload_n 2, 1) := by decide +kernel
theorem dL_law_255 : decode cL_law 255 = .ok (.aload_n 0, 1) := by decide +kernel
theorem dL_law_256 : decode cL_law 256 = .ok (.iload 4, 2) := by decide +kernel
theorem dL_law_258 : decode cL_law 258 = .ok (.iconst 1, 1) := by decide +kernel
theorem dL_law_259 : decode cL_law 259 = .ok (.iadd, 1) := by decide +kernel
theorem dL_law_260 : decode cL_law 260 = .ok (.iaload, 1) := by decide +kernel
theorem dL_law_261 : decode cL_law 261 = .ok (.aload_n 0, 1) := by decide +kernel
theorem dL_law_262 : decode cL_law 262 = .ok (.iload 4, 2) := by decide +kernel
theorem dL_law_264 : decode cL_law 264 = .ok (.iconst 2, 1) := by decide +kernel
theorem dL_law_265 : decode cL_law 265 = .ok (.iadd, 1) := by decide +kernel
theorem dL_law_266 : decode cL_law 266 = .ok (.iaload, 1) := by decide +kernel
theorem dL_law_267 : decode cL_law 267 = .ok (.aload_n 0, 1) := by decide +kernel
theorem dL_law_268 : decode cL_law 268 = .ok (.iload 4, 2) := by decide +kernel
theorem dL_law_270 : decode cL_law 270 = .ok (.iconst 3, 1) := by decide +kernel
theorem dL_law_271 : decode cL_law 271 = .ok (.iadd, 1) := by decide +kernel
theorem dL_law_272 : decode cL_law 272 = .ok (.iaload, 1) := by decide +kernel
theorem dL_law_273 : decode cL_law 273 = .ok (.aload_n 0, 1) := by decide +kernel
theorem dL_law_274 : decode cL_law 274 = .ok (.iload 4, 2) := by decide +kernel
theorem dL_law_276 : decode cL_law 276 = .ok (.iconst 4, 1) := by decide +kernel
theorem dL_law_277 : decode cL_law 277 = .ok (.iadd, 1) := by decide +kernel
theorem dL_law_278 : decode cL_law 278 = .ok (.iaload, 1) := by decide +kernel
theorem dL_law_279 : decode cL_law 279 = .ok (.aload_n 0, 1) := by decide +kernel
theorem dL_law_280 : decode cL_law 280 = .ok (.iload 4, 2) := by decide +kernel
theorem dL_law_282 : decode cL_law 282 = .ok (.iconst 5, 1) := by decide +kernel
theorem dL_law_283 : decode cL_law 283 = .ok (.iadd, 1) := by decide +kernel
theorem dL_law_284 : decode cL_law 284 = .ok (.iaload, 1) := by decide +kernel
theorem dL_law_285 : decode cL_law 285 = .ok (.invokevirtual 120, 3) := by decide +kernel
theorem dL_law_288 : decode cL_law 288 = .ok (.if_icmp .eq 1911, 3) := by decide +kernel
theorem dL_law_293 : decode cL_law 293 = .ok (.aload_n 1, 1) := by decide +kernel
theorem dL_law_294 : decode cL_law 294 = .ok (.aload_n 0, 1) := by decide +kernel
theorem dL_law_295 : decode cL_law 295 = .ok (.iload 4, 2) := by decide +kernel
theorem dL_law_297 : decode cL_law 297 = .ok (.iconst 1, 1) := by decide +kernel
theorem dL_law_298 : decode cL_law 298 = .ok (.iadd, 1) := by decide +kernel
theorem dL_law_299 : decode cL_law 299 = .ok (.iaload, 1) := by decide +kernel
theorem dL_law_300 : decode cL_law 300 = .ok (.aload_n 3, 1) := by decide +kernel
theorem dL_law_301 : decode cL_law 301 = .ok (.invokestatic 121, 3) := by decide +kernel
theorem dL_law_304 : decode cL_law 304 = .ok (.istore 5, 2) := by decide +kernel
theorem dL_law_306 : decode cL_law 306 = .ok (.aload_n 2, 1) := by decide +kernel
theorem dL_law_307 : decode cL_law 307 = .ok (.aload_n 0, 1) := by decide +kernel
theorem dL_law_308 : decode cL_law 308 = .ok (.iload 4, 2) := by decide +kernel
theorem dL_law_310 : decode cL_law 310 = .ok (.iconst 1, 1) := by decide +kernel
theorem dL_law_311 : decode cL_law 311 = .ok (.iadd, 1) := by decide +kernel
theorem dL_law_312 : decode cL_law 312 = .ok (.iaload, 1) := by decide +kernel
theorem dL_law_313 : decode cL_law 313 = .ok (.invokevirtual 126, 3) := by decide +kernel
theorem dL_law_316 : decode cL_law 316 = .ok (.istore 6, 2) := by decide +kernel
theorem dL_law_318 : decode cL_law 318 = .ok (.aload_n 2, 1) := by decide +kernel
theorem dL_law_319 : decode cL_law 319 = .ok (.invokevirtual 127, 3) := by decide +kernel
theorem dL_law_322 : decode cL_law 322 = .ok (.iload 5, 2) := by decide +kernel
theorem dL_law_324 : decode cL_law 324 = .ok (.if_icmp .eq 5, 3) := by decide +kernel
theorem dL_law_329 : decode cL_law 329 = .ok (.iload 5, 2) := by decide +kernel
theorem dL_law_331 : decode cL_law 331 = .ok (.ifCond .ne 15, 3) := by decide +kernel
theorem dL_law_334 : decode cL_law 334 = .ok (.aload_n 3, 1) := by decide +kernel
theorem dL_law_335 : decode cL_law 335 = .ok (.iconst 0, 1) := by decide +kernel
theorem dL_law_336 : decode cL_law 336 = .ok (.laload, 1) := by decide +kernel
theorem dL_law_337 : decode cL_law 337 = .ok (.iload 6, 2) := by decide +kernel
theorem dL_law_339 : decode cL_law 339 = .ok (.i2l, 1) := by decide +kernel
theorem dL_law_340 : decode cL_law 340 = .ok (.lcmp, 1) := by decide +kernel
theorem dL_law_341 : decode cL_law 341 = .ok (.ifCond .eq 5, 3) := by decide +kernel
theorem dL_law_346 : decode cL_law 346 = .ok (.goto 1853, 3) := by decide +kernel
theorem dL_law_349 : decode cL_law 349 = .ok (.aload_n 1, 1) := by decide +kernel
theorem dL_law_350 : decode cL_law 350 = .ok (.aload_n 3, 1) := by decide +kernel
theorem dL_law_351 : decode cL_law 351 = .ok (.invokestatic 130, 3) := by decide +kernel
theorem dL_law_354 : decode cL_law 354 = .ok (.istore 5, 2) := by decide +kernel
theorem dL_law_356 : decode cL_law 356 = .ok (.aload_n 2, 1) := by decide +kernel
theorem dL_law_357 : decode cL_law 357 = .ok (.invokevirtual 133, 3) := by decide +kernel
theorem dL_law_360 : decode cL_law 360 = .ok (.istore 6, 2) := by decide +kernel
theorem dL_law_362 : decode cL_law 362 = .ok (.aload_n 2, 1) := by decide +kernel
theorem dL_law_363 : decode cL_law 363 = .ok (.invokevirtual 127, 3) := by decide +kernel
theorem dL_law_366 : decode cL_law 366 = .ok (.iload 5, 2) := by decide +kernel
theorem dL_law_368 : decode cL_law 368 = .ok (.if_icmp .eq 5, 3) := by decide +kernel
theorem dL_law_373 : decode cL_law 373 = .ok (.iload 5, 2) := by decide +kernel
theorem dL_law_375 : decode cL_law 375 = .ok (.ifCond .ne 15, 3) := by decide +kernel
theorem dL_law_390 : decode cL_law 390 = .ok (.goto 1809, 3) := by decide +kernel
theorem dL_law_393 : decode cL_law 393 = .ok (.aload_n 1, 1) := by decide +kernel
theorem dL_law_394 : decode cL_law 394 = .ok (.invokevirtual 134, 3) := by decide +kernel
theorem dL_law_397 : decode cL_law 397 = .ok (.aload_n 2, 1) := by decide +kernel
theorem dL_law_398 : decode cL_law 398 = .ok (.invokevirtual 137, 3) := by decide +kernel
theorem dL_law_401 : decode cL_law 401 = .ok (.if_icmp .eq 1798, 3) := by decide +kernel
theorem dL_law_406 : decode cL_law 406 = .ok (.aload_n 1, 1) := by decide +kernel
theorem dL_law_407 : decode cL_law 407 = .ok (.invokevirtual 138, 3) := by decide +kernel
theorem dL_law_410 : decode cL_law 410 = .ok (.aload_n 2, 1) := by decide +kernel
theorem dL_law_411 : decode cL_law 411 = .ok (.invokevirtual 141, 3) := by decide +kernel
theorem dL_law_414 : decode cL_law 414 = .ok (.if_icmp .eq 1785, 3) := by decide +kernel
theorem dL_law_419 : decode cL_law 419 = .ok (.aload_n 1, 1) := by decide +kernel
theorem dL_law_420 : decode cL_law 420 = .ok (.aload_n 0, 1) := by decide +kernel
theorem dL_law_421 : decode cL_law 421 = .ok (.iload 4, 2) := by decide +kernel
theorem dL_law_423 : decode cL_law 423 = .ok (.iconst 1, 1) := by decide +kernel
theorem dL_law_424 : decode cL_law 424 = .ok (.iadd, 1) := by decide +kernel
theorem dL_law_425 : decode cL_law 425 = .ok (.iaload, 1) := by decide +kernel
theorem dL_law_426 : decode cL_law 426 = .ok (.aload_n 3, 1) := by decide +kernel
theorem dL_law_427 : decode cL_law 427 = .ok (.invokestatic 142, 3) := by decide +kernel
theorem dL_law_430 : decode cL_law 430 = .ok (.istore 5, 2) := by decide +kernel
theorem dL_law_432 : decode cL_law 432 = .ok (.aload_n 2, 1) := by decide +kernel
theorem dL_law_433 : decode cL_law 433 = .ok (.aload_n 0, 1) := by decide +kernel
theorem dL_law_434 : decode cL_law 434 = .ok (.iload 4, 2) := by decide +kernel
theorem dL_law_436 : decode cL_law 436 = .ok (.iconst 1, 1) := by decide +kernel
theorem dL_law_437 : decode cL_law 437 = .ok (.iadd, 1) := by decide +kernel
theorem dL_law_438 : decode cL_law 438 = .ok (.iaload, 1) := by decide +kernel
theorem dL_law_439 : decode cL_law 439 = .ok (.invokevirtual 144, 3) := by decide +kernel
theorem dL_law_442 : decode cL_law 442 = .ok (.istore 6, 2) := by decide +kernel
theorem dL_law_444 : decode cL_law 444 = .ok (.aload_n 2, 1) := by decide +kernel
theorem dL_law_445 : decode cL_law 445 = .ok (.invokevirtual 127, 3) := by decide +kernel
theorem dL_law_448 : decode cL_law 448 = .ok (.iload 5, 2) := by decide +kernel
theorem dL_law_450 : decode cL_law 450 = .ok (.if_icmp .eq 5, 3) := by decide +kernel
theorem dL_law_455 : decode cL_law 455 = .ok (.iload 5, 2) := by decide +kernel
theorem dL_law_457 : decode cL_law 457 = .ok (.ifCond .ne 15, 3) := by decide +kernel
theorem dL_law_460 : decode cL_law 460 = .ok (.aload_n 3, 1) := by decide +kernel
theorem dL_law_461 : decode cL_law 461 = .ok (.iconst 0, 1) := by decide +kernel
theorem dL_law_462 : decode cL_law 462 = .ok (.laload, 1) := by decide +kernel
theorem dL_law_463 : decode cL_law 463 = .ok (.iload 6, 2) := by decide +kernel
theorem dL_law_465 : decode cL_law 465 = .ok (.i2l, 1) := by decide +kernel
theorem dL_law_466 : decode cL_law 466 = .ok (.lcmp, 1) := by decide +kernel
theorem dL_law_467 : decode cL_law 467 = .ok (.ifCond .eq 5, 3) := by decide +kernel
theorem dL_law_472 : decode cL_law 472 = .ok (.goto 1727, 3) := by decide +kernel
theorem dL_law_475 : decode cL_law 475 = .ok (.aload_n 1, 1) := by decide +kernel
theorem dL_law_476 : decode cL_law 476 = .ok (.aload_n 0, 1) := by decide +kernel
theorem dL_law_477 : decode cL_law 477 = .ok (.iload 4, 2) := by decide +kernel
theorem dL_law_479 : decode cL_law 479 = .ok (.iconst 1, 1) := by decide +kernel
theorem dL_law_480 : decode cL_law 480 = .ok (.iadd, 1) := by decide +kernel
theorem dL_law_481 : decode cL_law 481 = .ok (.iaload, 1) := by decide +kernel
theorem dL_law_482 : decode cL_law 482 = .ok (.aload_n 0, 1) := by decide +kernel
theorem dL_law_483 : decode cL_law 483 = .ok (.iload 4, 2) := by decide +kernel
theorem dL_law_485 : decode cL_law 485 = .ok (.iconst 2, 1) := by decide +kernel
theorem dL_law_486 : decode cL_law 486 = .ok (.iadd, 1) := by decide +kernel
theorem dL_law_487 : decode cL_law 487 = .ok (.iaload, 1) := by decide +kernel
theorem dL_law_488 : decode cL_law 488 = .ok (.aload_n 3, 1) := by decide +kernel
theorem dL_law_489 : decode cL_law 489 = .ok (.invokestatic 145, 3) := by decide +kernel
theorem dL_law_492 : decode cL_law 492 = .ok (.istore 5, 2) := by decide +kernel
theorem dL_law_494 : decode cL_law 494 = .ok (.aload_n 2, 1) := by decide +kernel
theorem dL_law_495 : decode cL_law 495 = .ok (.aload_n 0, 1) := by decide +kernel
theorem dL_law_496 : decode cL_law 496 = .ok (.iload 4, 2) := by decide +kernel
theorem dL_law_498 : decode cL_law 498 = .ok (.iconst 1, 1) := by decide +kernel
theorem dL_law_499 : decode cL_law 499 = .ok (.iadd, 1) := by decide +kernel
theorem dL_law_500 : decode cL_law 500 = .ok (.iaload, 1) := by decide +kernel
theorem dL_law_501 : decode cL_law 501 = .ok (.aload_n 0, 1) := by decide +kernel
theorem dL_law_502 : decode cL_law 502 = .ok (.iload 4, 2) := by decide +kernel
theorem dL_law_504 : decode cL_law 504 = .ok (.iconst 2, 1) := by decide +kernel
theorem dL_law_505 : decode cL_law 505 = .ok (.iadd, 1) := by decide +kernel
theorem dL_law_506 : decode cL_law 506 = .ok (.iaload, 1) := by decide +kernel
theorem dL_law_507 : decode cL_law 507 = .ok (.invokevirtual 148, 3) := by decide +kernel
theorem dL_law_510 : decode cL_law 510 = .ok (.lstore 6, 2) := by decide +kernel
theorem dL_law_512 : decode cL_law 512 = .ok (.aload_n 2, 1) := by decide +kernel
theorem dL_law_513 : decode cL_law 513 = .ok (.invokevirtual 127, 3) := by decide +kernel
theorem dL_law_516 : decode cL_law 516 = .ok (.iload 5, 2) := by decide +kernel
theorem dL_law_518 : decode cL_law 518 = .ok (.if_icmp .eq 5, 3) := by decide +kernel
theorem dL_law_523 : decode cL_law 523 = .ok (.iload 5, 2) := by decide +kernel
theorem dL_law_525 : decode cL_law 525 = .ok (.ifCond .ne 14, 3) := by decide +kernel
theorem dL_law_528 : decode cL_law 528 = .ok (.aload_n 3, 1) := by decide +kernel
theorem dL_law_529 : decode cL_law 529 = .ok (.iconst 0, 1) := by decide +kernel
theorem dL_law_530 : decode cL_law 530 = .ok (.laload, 1) := by decide +kernel
theorem dL_law_531 : decode cL_law 531 = .ok (.lload 6, 2) := by decide +kernel
theorem dL_law_533 : decode cL_law 533 = .ok (.lcmp, 1) := by decide +kernel
theorem dL_law_534 : decode cL_law 534 = .ok (.ifCond .eq 5, 3) := by decide +kernel
theorem dL_law_539 : decode cL_law 539 = .ok (.goto 1660, 3) := by decide +kernel
theorem dL_law_542 : decode cL_law 542 = .ok (.aload_n 1, 1) := by decide +kernel
theorem dL_law_543 : decode cL_law 543 = .ok (.aload_n 0, 1) := by decide +kernel
theorem dL_law_544 : decode cL_law 544 = .ok (.iload 4, 2) := by decide +kernel
theorem dL_law_546 : decode cL_law 546 = .ok (.iconst 1, 1) := by decide +kernel
theorem dL_law_547 : decode cL_law 547 = .ok (.iadd, 1) := by decide +kernel
theorem dL_law_548 : decode cL_law 548 = .ok (.iaload, 1) := by decide +kernel
theorem dL_law_549 : decode cL_law 549 = .ok (.aload_n 3, 1) := by decide +kernel
theorem dL_law_550 : decode cL_law 550 = .ok (.invokestatic 149, 3) := by decide +kernel
theorem dL_law_553 : decode cL_law 553 = .ok (.istore 5, 2) := by decide +kernel
theorem dL_law_555 : decode cL_law 555 = .ok (.aload_n 2, 1) := by decide +kernel
theorem dL_law_556 : decode cL_law 556 = .ok (.aload_n 0, 1) := by decide +kernel
theorem dL_law_557 : decode cL_law 557 = .ok (.iload 4, 2) := by decide +kernel
theorem dL_law_559 : decode cL_law 559 = .ok (.iconst 1, 1) := by decide +kernel
theorem dL_law_560 : decode cL_law 560 = .ok (.iadd, 1) := by decide +kernel
theorem dL_law_561 : decode cL_law 561 = .ok (.iaload, 1) := by decide +kernel
theorem dL_law_562 : decode cL_law 562 = .ok (.invokevirtual 151, 3) := by decide +kernel
theorem dL_law_565 : decode cL_law 565 = .ok (.istore 6, 2) := by decide +kernel
theorem dL_law_567 : decode cL_law 567 = .ok (.aload_n 2, 1) := by decide +kernel
theorem dL_law_568 : decode cL_law 568 = .ok (.invokevirtual 127, 3) := by decide +kernel
theorem dL_law_571 : decode cL_law 571 = .ok (.iload 5, 2) := by decide +kernel
theorem dL_law_573 : decode cL_law 573 = .ok (.if_icmp .eq 5, 3) := by decide +kernel
theorem dL_law_578 : decode cL_law 578 = .ok (.iload 5, 2) := by decide +kernel
theorem dL_law_580 : decode cL_law 580 = .ok (.ifCond .ne 15, 3) := by decide +kernel
theorem dL_law_583 : decode cL_law 583 = .ok (.aload_n 3, 1) := by decide +kernel
theorem dL_law_584 : decode cL_law 584 = .ok (.iconst 0, 1) := by decide +kernel
theorem dL_law_585 : decode cL_law 585 = .ok (.laload, 1) := by decide +kernel
theorem dL_law_586 : decode cL_law 586 = .ok (.iload 6, 2) := by decide +kernel
theorem dL_law_588 : decode cL_law 588 = .ok (.i2l, 1) := by decide +kernel
theorem dL_law_589 : decode cL_law 589 = .ok (.lcmp, 1) := by decide +kernel
theorem dL_law_590 : decode cL_law 590 = .ok (.ifCond .eq 5, 3) := by decide +kernel
theorem dL_law_595 : decode cL_law 595 = .ok (.goto 1604, 3) := by decide +kernel
theorem dL_law_598 : decode cL_law 598 = .ok (.aload_n 1, 1) := by decide +kernel
theorem dL_law_599 : decode cL_law 599 = .ok (.aload_n 0, 1) := by decide +kernel
theorem dL_law_600 : decode cL_law 600 = .ok (.iload 4, 2) := by decide +kernel
theorem dL_law_602 : decode cL_law 602 = .ok (.iconst 1, 1) := by decide +kernel
theorem dL_law_603 : decode cL_law 603 = .ok (.iadd, 1) := by decide +kernel
theorem dL_law_604 : decode cL_law 604 = .ok (.iaload, 1) := by decide +kernel
theorem dL_law_605 : decode cL_law 605 = .ok (.aload_n 0, 1) := by decide +kernel
theorem dL_law_606 : decode cL_law 606 = .ok (.iload 4, 2) := by decide +kernel
theorem dL_law_608 : decode cL_law 608 = .ok (.iconst 2, 1) := by decide +kernel
theorem dL_law_609 : decode cL_law 609 = .ok (.iadd, 1) := by decide +kernel
theorem dL_law_610 : decode cL_law 610 = .ok (.iaload, 1) := by decide +kernel
theorem dL_law_611 : decode cL_law 611 = .ok (.ifCond .eq 7, 3) := by decide +kernel
theorem dL_law_614 : decode cL_law 614 = .ok (.iconst 1, 1) := by decide +kernel
theorem dL_law_615 : decode cL_law 615 = .ok (.goto 4, 3) := by decide +kernel
theorem dL_law_618 : decode cL_law 618 = .ok (.iconst 0, 1) := by decide +kernel
theorem dL_law_619 : decode cL_law 619 = .ok (.aload_n 3, 1) := by decide +kernel
theorem dL_law_620 : decode cL_law 620 = .ok (.invokestatic 152, 3) := by decide +kernel
theorem dL_law_623 : decode cL_law 623 = .ok (.istore 5, 2) := by decide +kernel
theorem dL_law_625 : decode cL_law 625 = .ok (.aload_n 2, 1) := by decide +kernel
theorem dL_law_626 : decode cL_law 626 = .ok (.aload_n 0, 1) := by decide +kernel
theorem dL_law_627 : decode cL_law 627 = .ok (.iload 4, 2) := by decide +kernel
theorem dL_law_629 : decode cL_law 629 = .ok (.iconst 1, 1) := by decide +kernel
theorem dL_law_630 : decode cL_law 630 = .ok (.iadd, 1) := by decide +kernel
theorem dL_law_631 : decode cL_law 631 = .ok (.iaload, 1) := by decide +kernel
theorem dL_law_632 : decode cL_law 632 = .ok (.aload_n 0, 1) := by decide +kernel
theorem dL_law_633 : decode cL_law 633 = .ok (.iload 4, 2) := by decide +kernel
theorem dL_law_635 : decode cL_law 635 = .ok (.iconst 2, 1) := by decide +kernel
theorem dL_law_636 : decode cL_law 636 = .ok (.iadd, 1) := by decide +kernel
theorem dL_law_637 : decode cL_law 637 = .ok (.iaload, 1) := by decide +kernel
theorem dL_law_638 : decode cL_law 638 = .ok (.ifCond .eq 7, 3) := by decide +kernel
theorem dL_law_641 : decode cL_law 641 = .ok (.iconst 1, 1) := by decide +kernel
theorem dL_law_642 : decode cL_law 642 = .ok (.goto 4, 3) := by decide +kernel
theorem dL_law_645 : decode cL_law 645 = .ok (.iconst 0, 1) := by decide +kernel
theorem dL_law_646 : decode cL_law 646 = .ok (.invokevirtual 155, 3) := by decide +kernel
theorem dL_law_649 : decode cL_law 649 = .ok (.istore 6, 2) := by decide +kernel
theorem dL_law_651 : decode cL_law 651 = .ok (.aload_n 2, 1) := by decide +kernel
theorem dL_law_652 : decode cL_law 652 = .ok (.invokevirtual 127, 3) := by decide +kernel
theorem dL_law_655 : decode cL_law 655 = .ok (.iload 5, 2) := by decide +kernel
theorem dL_law_657 : decode cL_law 657 = .ok (.if_icmp .eq 5, 3) := by decide +kernel
theorem dL_law_662 : decode cL_law 662 = .ok (.iload 5, 2) := by decide +kernel
theorem dL_law_664 : decode cL_law 664 = .ok (.ifCond .ne 15, 3) := by decide +kernel
theorem dL_law_667 : decode cL_law 667 = .ok (.aload_n 3, 1) := by decide +kernel
theorem dL_law_668 : decode cL_law 668 = .ok (.iconst 0, 1) := by decide +kernel
theorem dL_law_669 : decode cL_law 669 = .ok (.laload, 1) := by decide +kernel
theorem dL_law_670 : decode cL_law 670 = .ok (.iload 6, 2) := by decide +kernel
theorem dL_law_672 : decode cL_law 672 = .ok (.i2l, 1) := by decide +kernel
theorem dL_law_673 : decode cL_law 673 = .ok (.lcmp, 1) := by decide +kernel
theorem dL_law_674 : decode cL_law 674 = .ok (.ifCond .eq 5, 3) := by decide +kernel
theorem dL_law_679 : decode cL_law 679 = .ok (.goto 1520, 3) := by decide +kernel
theorem dL_law_682 : decode cL_law 682 = .ok (.aload_n 1, 1) := by decide +kernel
theorem dL_law_683 : decode cL_law 683 = .ok (.aload_n 0, 1) := by decide +kernel
theorem dL_law_684 : decode cL_law 684 = .ok (.iload 4, 2) := by decide +kernel
theorem dL_law_686 : decode cL_law 686 = .ok (.iconst 1, 1) := by decide +kernel
theorem dL_law_687 : decode cL_law 687 = .ok (.iadd, 1) := by decide +kernel
theorem dL_law_688 : decode cL_law 688 = .ok (.iaload, 1) := by decide +kernel
theorem dL_law_689 : decode cL_law 689 = .ok (.aload_n 0, 1) := by decide +kernel
theorem dL_law_690 : decode cL_law 690 = .ok (.iload 4, 2) := by decide +kernel
theorem dL_law_692 : decode cL_law 692 = .ok (.iconst 2, 1) := by decide +kernel
theorem dL_law_693 : decode cL_law 693 = .ok (.iadd, 1) := by decide +kernel
theorem dL_law_694 : decode cL_law 694 = .ok (.iaload, 1) := by decide +kernel
theorem dL_law_695 : decode cL_law 695 = .ok (.aload_n 3, 1) := by decide +kernel
theorem dL_law_696 : decode cL_law 696 = .ok (.invokestatic 156, 3) := by decide +kernel
theorem dL_law_699 : decode cL_law 699 = .ok (.istore 5, 2) := by decide +kernel
theorem dL_law_701 : decode cL_law 701 = .ok (.aload_n 2, 1) := by decide +kernel
theorem dL_law_702 : decode cL_law 702 = .ok (.aload_n 0, 1) := by decide +kernel
theorem dL_law_703 : decode cL_law 703 = .ok (.iload 4, 2) := by decide +kernel
theorem dL_law_705 : decode cL_law 705 = .ok (.iconst 1, 1) := by decide +kernel
theorem dL_law_706 : decode cL_law 706 = .ok (.iadd, 1) := by decide +kernel
theorem dL_law_707 : decode cL_law 707 = .ok (.iaload, 1) := by decide +kernel
theorem dL_law_708 : decode cL_law 708 = .ok (.aload_n 0, 1) := by decide +kernel
theorem dL_law_709 : decode cL_law 709 = .ok (.iload 4, 2) := by decide +kernel
theorem dL_law_711 : decode cL_law 711 = .ok (.iconst 2, 1) := by decide +kernel
theorem dL_law_712 : decode cL_law 712 = .ok (.iadd, 1) := by decide +kernel
theorem dL_law_713 : decode cL_law 713 = .ok (.iaload, 1) := by decide +kernel
theorem dL_law_714 : decode cL_law 714 = .ok (.invokevirtual 158, 3) := by decide +kernel
theorem dL_law_717 : decode cL_law 717 = .ok (.lstore 6, 2) := by decide +kernel
theorem dL_law_719 : decode cL_law 719 = .ok (.aload_n 2, 1) := by decide +kernel
theorem dL_law_720 : decode cL_law 720 = .ok (.invokevirtual 127, 3) := by decide +kernel
theorem dL_law_723 : decode cL_law 723 = .ok (.iload 5, 2) := by decide +kernel
theorem dL_law_725 : decode cL_law 725 = .ok (.if_icmp .eq 5, 3) := by decide +kernel
theorem dL_law_730 : decode cL_law 730 = .ok (.iload 5, 2) := by decide +kernel
theorem dL_law_732 : decode cL_law 732 = .ok (.ifCond .ne 14, 3) := by decide +kernel
theorem dL_law_746 : decode cL_law 746 = .ok (.goto 1453, 3) := by decide +kernel
theorem dL_law_749 : decode cL_law 749 = .ok (.aload_n 1, 1) := by decide +kernel
theorem dL_law_750 : decode cL_law 750 = .ok (.aload_n 0, 1) := by decide +kernel
theorem dL_law_751 : decode cL_law 751 = .ok (.iload 4, 2) := by decide +kernel
theorem dL_law_753 : decode cL_law 753 = .ok (.iconst 1, 1) := by decide +kernel
theorem dL_law_754 : decode cL_law 754 = .ok (.iadd, 1) := by decide +kernel
theorem dL_law_755 : decode cL_law 755 = .ok (.iaload, 1) := by decide +kernel
theorem dL_law_756 : decode cL_law 756 = .ok (.aload_n 3, 1) := by decide +kernel
theorem dL_law_757 : decode cL_law 757 = .ok (.invokestatic 159, 3) := by decide +kernel
theorem dL_law_760 : decode cL_law 760 = .ok (.istore 5, 2) := by decide +kernel
theorem dL_law_762 : decode cL_law 762 = .ok (.aload_n 2, 1) := by decide +kernel
theorem dL_law_763 : decode cL_law 763 = .ok (.aload_n 0, 1) := by decide +kernel
theorem dL_law_764 : decode cL_law 764 = .ok (.iload 4, 2) := by decide +kernel
theorem dL_law_766 : decode cL_law 766 = .ok (.iconst 1, 1) := by decide +kernel
theorem dL_law_767 : decode cL_law 767 = .ok (.iadd, 1) := by decide +kernel
theorem dL_law_768 : decode cL_law 768 = .ok (.iaload, 1) := by decide +kernel
theorem dL_law_769 : decode cL_law 769 = .ok (.invokevirtual 161, 3) := by decide +kernel
theorem dL_law_772 : decode cL_law 772 = .ok (.lstore 6, 2) := by decide +kernel
theorem dL_law_774 : decode cL_law 774 = .ok (.aload_n 2, 1) := by decide +kernel
theorem dL_law_775 : decode cL_law 775 = .ok (.invokevirtual 127, 3) := by decide +kernel
theorem dL_law_778 : decode cL_law 778 = .ok (.iload 5, 2) := by decide +kernel
theorem dL_law_780 : decode cL_law 780 = .ok (.if_icmp .eq 5, 3) := by decide +kernel
theorem dL_law_785 : decode cL_law 785 = .ok (.iload 5, 2) := by decide +kernel
theorem dL_law_787 : decode cL_law 787 = .ok (.ifCond .ne 14, 3) := by decide +kernel
theorem dL_law_790 : decode cL_law 790 = .ok (.aload_n 3, 1) := by decide +kernel
theorem dL_law_791 : decode cL_law 791 = .ok (.iconst 0, 1) := by decide +kernel
theorem dL_law_792 : decode cL_law 792 = .ok (.laload, 1) := by decide +kernel
theorem dL_law_793 : decode cL_law 793 = .ok (.lload 6, 2) := by decide +kernel
theorem dL_law_795 : decode cL_law 795 = .ok (.lcmp, 1) := by decide +kernel
theorem dL_law_796 : decode cL_law 796 = .ok (.ifCond .eq 5, 3) := by decide +kernel
theorem dL_law_801 : decode cL_law 801 = .ok (.goto 1398, 3) := by decide +kernel
theorem dL_law_804 : decode cL_law 804 = .ok (.aload_n 1, 1) := by decide +kernel
theorem dL_law_805 : decode cL_law 805 = .ok (.invokevirtual 162, 3) := by decide +kernel
theorem dL_law_808 : decode cL_law 808 = .ok (.aload_n 2, 1) := by decide +kernel
theorem dL_law_809 : decode cL_law 809 = .ok (.invokevirtual 166, 3) := by decide +kernel
theorem dL_law_812 : decode cL_law 812 = .ok (.lcmp, 1) := by decide +kernel
theorem dL_law_813 : decode cL_law 813 = .ok (.ifCond .eq 1386, 3) := by decide +kernel
theorem dL_law_818 : decode cL_law 818 = .ok (.aload_n 1, 1) := by decide +kernel
theorem dL_law_819 : decode cL_law 819 = .ok (.invokevirtual 167, 3) := by decide +kernel
theorem dL_law_822 : decode cL_law 822 = .ok (.aload_n 2, 1) := by decide +kernel
theorem dL_law_823 : decode cL_law 823 = .ok (.invokevirtual 170, 3) := by decide +kernel
theorem dL_law_826 : decode cL_law 826 = .ok (.lcmp, 1) := by decide +kernel
theorem dL_law_827 : decode cL_law 827 = .ok (.ifCond .eq 1372, 3) := by decide +kernel
theorem dL_law_832 : decode cL_law 832 = .ok (.aload_n 1, 1) := by decide +kernel
theorem dL_law_833 : decode cL_law 833 = .ok (.aload_n 0, 1) := by decide +kernel
theorem dL_law_834 : decode cL_law 834 = .ok (.iload 4, 2) := by decide +kernel
theorem dL_law_836 : decode cL_law 836 = .ok (.iconst 1, 1) := by decide +kernel
theorem dL_law_837 : decode cL_law 837 = .ok (.iadd, 1) := by decide +kernel
theorem dL_law_838 : decode cL_law 838 = .ok (.iaload, 1) := by decide +kernel
theorem dL_law_839 : decode cL_law 839 = .ok (.aload_n 3, 1) := by decide +kernel
theorem dL_law_840 : decode cL_law 840 = .ok (.invokestatic 171, 3) := by decide +kernel
theorem dL_law_843 : decode cL_law 843 = .ok (.istore 5, 2) := by decide +kernel
theorem dL_law_845 : decode cL_law 845 = .ok (.aload_n 2, 1) := by decide +kernel
theorem dL_law_846 : decode cL_law 846 = .ok (.aload_n 0, 1) := by decide +kernel
theorem dL_law_847 : decode cL_law 847 = .ok (.iload 4, 2) := by decide +kernel
theorem dL_law_849 : decode cL_law 849 = .ok (.iconst 1, 1) := by decide +kernel
theorem dL_law_850 : decode cL_law 850 = .ok (.iadd, 1) := by decide +kernel
theorem dL_law_851 : decode cL_law 851 = .ok (.iaload, 1) := by decide +kernel
theorem dL_law_852 : decode cL_law 852 = .ok (.invokevirtual 173, 3) := by decide +kernel
theorem dL_law_855 : decode cL_law 855 = .ok (.lstore 6, 2) := by decide +kernel
theorem dL_law_857 : decode cL_law 857 = .ok (.aload_n 2, 1) := by decide +kernel
theorem dL_law_858 : decode cL_law 858 = .ok (.invokevirtual 127, 3) := by decide +kernel
theorem dL_law_861 : decode cL_law 861 = .ok (.iload 5, 2) := by decide +kernel
theorem dL_law_863 : decode cL_law 863 = .ok (.if_icmp .eq 5, 3) := by decide +kernel
theorem dL_law_868 : decode cL_law 868 = .ok (.iload 5, 2) := by decide +kernel
theorem dL_law_870 : decode cL_law 870 = .ok (.ifCond .ne 14, 3) := by decide +kernel
theorem dL_law_873 : decode cL_law 873 = .ok (.aload_n 3, 1) := by decide +kernel
theorem dL_law_874 : decode cL_law 874 = .ok (.iconst 0, 1) := by decide +kernel
theorem dL_law_875 : decode cL_law 875 = .ok (.laload, 1) := by decide +kernel
theorem dL_law_876 : decode cL_law 876 = .ok (.lload 6, 2) := by decide +kernel
theorem dL_law_878 : decode cL_law 878 = .ok (.lcmp, 1) := by decide +kernel
theorem dL_law_879 : decode cL_law 879 = .ok (.ifCond .eq 5, 3) := by decide +kernel
theorem dL_law_884 : decode cL_law 884 = .ok (.goto 1315, 3) := by decide +kernel
theorem dL_law_887 : decode cL_law 887 = .ok (.aload_n 1, 1) := by decide +kernel
theorem dL_law_888 : decode cL_law 888 = .ok (.invokevirtual 174, 3) := by decide +kernel
theorem dL_law_891 : decode cL_law 891 = .ok (.dstore 5, 2) := by decide +kernel
theorem dL_law_893 : decode cL_law 893 = .ok (.aload_n 2, 1) := by decide +kernel
theorem dL_law_894 : decode cL_law 894 = .ok (.invokevirtual 178, 3) := by decide +kernel
theorem dL_law_897 : decode cL_law 897 = .ok (.dstore 7, 2) := by decide +kernel
theorem dL_law_899 : decode cL_law 899 = .ok (.dload 5, 2) := by decide +kernel
theorem dL_law_901 : decode cL_law 901 = .ok (.dload 7, 2) := by decide +kernel
theorem dL_law_903 : decode cL_law 903 = .ok (.dcmp .l, 1) := by decide +kernel
theorem dL_law_904 : decode cL_law 904 = .ok (.ifCond .eq 21, 3) := by decide +kernel
theorem dL_law_925 : decode cL_law 925 = .ok (.goto 1274, 3) := by decide +kernel
theorem dL_law_928 : decode cL_law 928 = .ok (.aload_n 1, 1) := by decide +kernel
theorem dL_law_929 : decode cL_law 929 = .ok (.invokevirtual 179, 3) := by decide +kernel
theorem dL_law_932 : decode cL_law 932 = .ok (.aload_n 2, 1) := by decide +kernel
theorem dL_law_933 : decode cL_law 933 = .ok (.invokevirtual 182, 3) := by decide +kernel
theorem dL_law_936 : decode cL_law 936 = .ok (.lcmp, 1) := by decide +kernel
theorem dL_law_937 : decode cL_law 937 = .ok (.ifCond .eq 1262, 3) := by decide +kernel
theorem dL_law_942 : decode cL_law 942 = .ok (.aload_n 1, 1) := by decide +kernel
theorem dL_law_943 : decode cL_law 943 = .ok (.invokevirtual 183, 3) := by decide +kernel
theorem dL_law_946 : decode cL_law 946 = .ok (.aload_n 2, 1) := by decide +kernel
theorem dL_law_947 : decode cL_law 947 = .ok (.invokevirtual 186, 3) := by decide +kernel
theorem dL_law_950 : decode cL_law 950 = .ok (.if_icmp .eq 1249, 3) := by decide +kernel
theorem dL_law_955 : decode cL_law 955 = .ok (.aload_n 1, 1) := by decide +kernel
theorem dL_law_956 : decode cL_law 956 = .ok (.aload_n 0, 1) := by decide +kernel
theorem dL_law_957 : decode cL_law 957 = .ok (.iload 4, 2) := by decide +kernel
theorem dL_law_959 : decode cL_law 959 = .ok (.iconst 1, 1) := by decide +kernel
theorem dL_law_960 : decode cL_law 960 = .ok (.iadd, 1) := by decide +kernel
theorem dL_law_961 : decode cL_law 961 = .ok (.iaload, 1) := by decide +kernel
theorem dL_law_962 : decode cL_law 962 = .ok (.aload_n 3, 1) := by decide +kernel
theorem dL_law_963 : decode cL_law 963 = .ok (.invokestatic 187, 3) := by decide +kernel
theorem dL_law_966 : decode cL_law 966 = .ok (.istore 5, 2) := by decide +kernel
theorem dL_law_968 : decode cL_law 968 = .ok (.aload_n 2, 1) := by decide +kernel
theorem dL_law_969 : decode cL_law 969 = .ok (.aload_n 0, 1) := by decide +kernel
theorem dL_law_970 : decode cL_law 970 = .ok (.iload 4, 2) := by decide +kernel
theorem dL_law_972 : decode cL_law 972 = .ok (.iconst 1, 1) := by decide +kernel
theorem dL_law_973 : decode cL_law 973 = .ok (.iadd, 1) := by decide +kernel
theorem dL_law_974 : decode cL_law 974 = .ok (.iaload, 1) := by decide +kernel
theorem dL_law_975 : decode cL_law 975 = .ok (.invokevirtual 189, 3) := by decide +kernel
theorem dL_law_978 : decode cL_law 978 = .ok (.istore 6, 2) := by decide +kernel
theorem dL_law_980 : decode cL_law 980 = .ok (.aload_n 2, 1) := by decide +kernel
theorem dL_law_981 : decode cL_law 981 = .ok (.invokevirtual 127, 3) := by decide +kernel
theorem dL_law_984 : decode cL_law 984 = .ok (.iload 5, 2) := by decide +kernel
theorem dL_law_986 : decode cL_law 986 = .ok (.if_icmp .eq 5, 3) := by decide +kernel
theorem dL_law_991 : decode cL_law 991 = .ok (.iload 5, 2) := by decide +kernel
theorem dL_law_993 : decode cL_law 993 = .ok (.ifCond .ne 15, 3) := by decide +kernel
theorem dL_law_1008 : decode cL_law 1008 = .ok (.goto 1191, 3) := by decide +kernel
theorem dL_law_1011 : decode cL_law 1011 = .ok (.aload_n 1, 1) := by decide +kernel
theorem dL_law_1012 : decode cL_law 1012 = .ok (.aload_n 3, 1) := by decide +kernel
theorem dL_law_1013 : decode cL_law 1013 = .ok (.invokestatic 190, 3) := by decide +kernel
theorem dL_law_1016 : decode cL_law 1016 = .ok (.istore 5, 2) := by decide +kernel
theorem dL_law_1018 : decode cL_law 1018 = .ok (.aload_n 2, 1) := by decide +kernel
theorem dL_law_1019 : decode cL_law 1019 = .ok (.invokevirtual 192, 3) := by decide +kernel
theorem dL_law_1022 : decode cL_law 1022 = .ok (.istore 6, 2) := by decide +kernel
theorem dL_law_1024 : decode cL_law 1024 = .ok (.aload_n 2, 1) := by decide +kernel
theorem dL_law_1025 : decode cL_law 1025 = .ok (.invokevirtual 127, 3) := by decide +kernel
theorem dL_law_1028 : decode cL_law 1028 = .ok (.iload 5, 2) := by decide +kernel
theorem dL_law_1030 : decode cL_law 1030 = .ok (.if_icmp .eq 5, 3) := by decide +kernel
theorem dL_law_1035 : decode cL_law 1035 = .ok (.iload 5, 2) := by decide +kernel
theorem dL_law_1037 : decode cL_law 1037 = .ok (.ifCond .ne 15, 3) := by decide +kernel
theorem dL_law_1052 : decode cL_law 1052 = .ok (.goto 1147, 3) := by decide +kernel
theorem dL_law_1055 : decode cL_law 1055 = .ok (.aload_n 1, 1) := by decide +kernel
theorem dL_law_1056 : decode cL_law 1056 = .ok (.aload_n 0, 1) := by decide +kernel
theorem dL_law_1057 : decode cL_law 1057 = .ok (.iload 4, 2) := by decide +kernel
theorem dL_law_1059 : decode cL_law 1059 = .ok (.iconst 1, 1) := by decide +kernel
theorem dL_law_1060 : decode cL_law 1060 = .ok (.iadd, 1) := by decide +kernel
theorem dL_law_1061 : decode cL_law 1061 = .ok (.iaload, 1) := by decide +kernel
theorem dL_law_1062 : decode cL_law 1062 = .ok (.aload_n 3, 1) := by decide +kernel
theorem dL_law_1063 : decode cL_law 1063 = .ok (.invokestatic 193, 3) := by decide +kernel
theorem dL_law_1066 : decode cL_law 1066 = .ok (.istore 5, 2) := by decide +kernel
theorem dL_law_1068 : decode cL_law 1068 = .ok (.aload_n 2, 1) := by decide +kernel
theorem dL_law_1069 : decode cL_law 1069 = .ok (.aload_n 0, 1) := by decide +kernel
theorem dL_law_1070 : decode cL_law 1070 = .ok (.iload 4, 2) := by decide +kernel
theorem dL_law_1072 : decode cL_law 1072 = .ok (.iconst 1, 1) := by decide +kernel
theorem dL_law_1073 : decode cL_law 1073 = .ok (.iadd, 1) := by decide +kernel
theorem dL_law_1074 : decode cL_law 1074 = .ok (.iaload, 1) := by decide +kernel
theorem dL_law_1075 : decode cL_law 1075 = .ok (.invokevirtual 195, 3) := by decide +kernel
theorem dL_law_1078 : decode cL_law 1078 = .ok (.istore 6, 2) := by decide +kernel
theorem dL_law_1080 : decode cL_law 1080 = .ok (.aload_n 2, 1) := by decide +kernel
theorem dL_law_1081 : decode cL_law 1081 = .ok (.invokevirtual 127, 3) := by decide +kernel
theorem dL_law_1084 : decode cL_law 1084 = .ok (.iload 5, 2) := by decide +kernel
theorem dL_law_1086 : decode cL_law 1086 = .ok (.if_icmp .eq 5, 3) := by decide +kernel
theorem dL_law_1091 : decode cL_law 1091 = .ok (.iload 5, 2) := by decide +kernel
theorem dL_law_1093 : decode cL_law 1093 = .ok (.ifCond .ne 15, 3) := by decide +kernel
theorem dL_law_1096 : decode cL_law 1096 = .ok (.aload_n 3, 1) := by decide +kernel
theorem dL_law_1097 : decode cL_law 1097 = .ok (.iconst 0, 1) := by decide +kernel
theorem dL_law_1098 : decode cL_law 1098 = .ok (.laload, 1) := by decide +kernel
theorem dL_law_1099 : decode cL_law 1099 = .ok (.iload 6, 2) := by decide +kernel
theorem dL_law_1101 : decode cL_law 1101 = .ok (.i2l, 1) := by decide +kernel
theorem dL_law_1102 : decode cL_law 1102 = .ok (.lcmp, 1) := by decide +kernel
theorem dL_law_1103 : decode cL_law 1103 = .ok (.ifCond .eq 5, 3) := by decide +kernel
theorem dL_law_1108 : decode cL_law 1108 = .ok (.goto 1091, 3) := by decide +kernel
theorem dL_law_1111 : decode cL_law 1111 = .ok (.aload_n 1, 1) := by decide +kernel
theorem dL_law_1112 : decode cL_law 1112 = .ok (.aload_n 0, 1) := by decide +kernel
theorem dL_law_1113 : decode cL_law 1113 = .ok (.iload 4, 2) := by decide +kernel
theorem dL_law_1115 : decode cL_law 1115 = .ok (.iconst 1, 1) := by decide +kernel
theorem dL_law_1116 : decode cL_law 1116 = .ok (.iadd, 1) := by decide +kernel
theorem dL_law_1117 : decode cL_law 1117 = .ok (.iaload, 1) := by decide +kernel
theorem dL_law_1118 : decode cL_law 1118 = .ok (.aload_n 3, 1) := by decide +kernel
theorem dL_law_1119 : decode cL_law 1119 = .ok (.invokestatic 196, 3) := by decide +kernel
theorem dL_law_1122 : decode cL_law 1122 = .ok (.istore 5, 2) := by decide +kernel
theorem dL_law_1124 : decode cL_law 1124 = .ok (.aload_n 2, 1) := by decide +kernel
theorem dL_law_1125 : decode cL_law 1125 = .ok (.aload_n 0, 1) := by decide +kernel
theorem dL_law_1126 : decode cL_law 1126 = .ok (.iload 4, 2) := by decide +kernel
theorem dL_law_1128 : decode cL_law 1128 = .ok (.iconst 1, 1) := by decide +kernel
theorem dL_law_1129 : decode cL_law 1129 = .ok (.iadd, 1) := by decide +kernel
theorem dL_law_1130 : decode cL_law 1130 = .ok (.iaload, 1) := by decide +kernel
theorem dL_law_1131 : decode cL_law 1131 = .ok (.invokevirtual 198, 3) := by decide +kernel
theorem dL_law_1134 : decode cL_law 1134 = .ok (.istore 6, 2) := by decide +kernel
theorem dL_law_1136 : decode cL_law 1136 = .ok (.aload_n 2, 1) := by decide +kernel
theorem dL_law_1137 : decode cL_law 1137 = .ok (.invokevirtual 127, 3) := by decide +kernel
theorem dL_law_1140 : decode cL_law 1140 = .ok (.iload 5, 2) := by decide +kernel
theorem dL_law_1142 : decode cL_law 1142 = .ok (.if_icmp .eq 5, 3) := by decide +kernel
theorem dL_law_1147 : decode cL_law 1147 = .ok (.iload 5, 2) := by decide +kernel
theorem dL_law_1149 : decode cL_law 1149 = .ok (.ifCond .ne 15, 3) := by decide +kernel
theorem dL_law_1152 : decode cL_law 1152 = .ok (.aload_n 3, 1) := by decide +kernel
theorem dL_law_1153 : decode cL_law 1153 = .ok (.iconst 0, 1) := by decide +kernel
theorem dL_law_1154 : decode cL_law 1154 = .ok (.laload, 1) := by decide +kernel
theorem dL_law_1155 : decode cL_law 1155 = .ok (.iload 6, 2) := by decide +kernel
theorem dL_law_1157 : decode cL_law 1157 = .ok (.i2l, 1) := by decide +kernel
theorem dL_law_1158 : decode cL_law 1158 = .ok (.lcmp, 1) := by decide +kernel
theorem dL_law_1159 : decode cL_law 1159 = .ok (.ifCond .eq 5, 3) := by decide +kernel
theorem dL_law_1164 : decode cL_law 1164 = .ok (.goto 1035, 3) := by decide +kernel
theorem dL_law_1167 : decode cL_law 1167 = .ok (.aload_n 1, 1) := by decide +kernel
theorem dL_law_1168 : decode cL_law 1168 = .ok (.aload_n 0, 1) := by decide +kernel
theorem dL_law_1169 : decode cL_law 1169 = .ok (.iload 4, 2) := by decide +kernel
theorem dL_law_1171 : decode cL_law 1171 = .ok (.iconst 1, 1) := by decide +kernel
theorem dL_law_1172 : decode cL_law 1172 = .ok (.iadd, 1) := by decide +kernel
theorem dL_law_1173 : decode cL_law 1173 = .ok (.iaload, 1) := by decide +kernel
theorem dL_law_1174 : decode cL_law 1174 = .ok (.ifCond .eq 7, 3) := by decide +kernel
theorem dL_law_1177 : decode cL_law 1177 = .ok (.iconst 1, 1) := by decide +kernel
theorem dL_law_1178 : decode cL_law 1178 = .ok (.goto 4, 3) := by decide +kernel
theorem dL_law_1181 : decode cL_law 1181 = .ok (.iconst 0, 1) := by decide +kernel
theorem dL_law_1182 : decode cL_law 1182 = .ok (.invokevirtual 199, 3) := by decide +kernel
theorem dL_law_1185 : decode cL_law 1185 = .ok (.aload_n 2, 1) := by decide +kernel
theorem dL_law_1186 : decode cL_law 1186 = .ok (.aload_n 0, 1) := by decide +kernel
theorem dL_law_1187 : decode cL_law 1187 = .ok (.iload 4, 2) := by decide +kernel
theorem dL_law_1189 : decode cL_law 1189 = .ok (.iconst 1, 1) := by decide +kernel
theorem dL_law_1190 : decode cL_law 1190 = .ok (.iadd, 1) := by decide +kernel
theorem dL_law_1191 : decode cL_law 1191 = .ok (.iaload, 1) := by decide +kernel
theorem dL_law_1192 : decode cL_law 1192 = .ok (.ifCond .eq 7, 3) := by decide +kernel
theorem dL_law_1195 : decode cL_law 1195 = .ok (.iconst 1, 1) := by decide +kernel
theorem dL_law_1196 : decode cL_law 1196 = .ok (.goto 4, 3) := by decide +kernel
theorem dL_law_1199 : decode cL_law 1199 = .ok (.iconst 0, 1) := by decide +kernel
theorem dL_law_1200 : decode cL_law 1200 = .ok (.invokevirtual 203, 3) := by decide +kernel
theorem dL_law_1203 : decode cL_law 1203 = .ok (.if_icmp .eq 996, 3) := by decide +kernel
theorem dL_law_1208 : decode cL_law 1208 = .ok (.aload_n 1, 1) := by decide +kernel
theorem dL_law_1209 : decode cL_law 1209 = .ok (.aload_n 0, 1) := by decide +kernel
theorem dL_law_1210 : decode cL_law 1210 = .ok (.iload 4, 2) := by decide +kernel
theorem dL_law_1212 : decode cL_law 1212 = .ok (.iconst 1, 1) := by decide +kernel
theorem dL_law_1213 : decode cL_law 1213 = .ok (.iadd, 1) := by decide +kernel
theorem dL_law_1214 : decode cL_law 1214 = .ok (.iaload, 1) := by decide +kernel
theorem dL_law_1215 : decode cL_law 1215 = .ok (.aload_n 0, 1) := by decide +kernel
theorem dL_law_1216 : decode cL_law 1216 = .ok (.iload 4, 2) := by decide +kernel
theorem dL_law_1218 : decode cL_law 1218 = .ok (.iconst 2, 1) := by decide +kernel
theorem dL_law_1219 : decode cL_law 1219 = .ok (.iadd, 1) := by decide +kernel
theorem dL_law_1220 : decode cL_law 1220 = .ok (.iaload, 1) := by decide +kernel
theorem dL_law_1221 : decode cL_law 1221 = .ok (.aload_n 3, 1) := by decide +kernel
theorem dL_law_1222 : decode cL_law 1222 = .ok (.invokestatic 204, 3) := by decide +kernel
theorem dL_law_1225 : decode cL_law 1225 = .ok (.istore 5, 2) := by decide +kernel
theorem dL_law_1227 : decode cL_law 1227 = .ok (.aload_n 2, 1) := by decide +kernel
theorem dL_law_1228 : decode cL_law 1228 = .ok (.aload_n 0, 1) := by decide +kernel
theorem dL_law_1229 : decode cL_law 1229 = .ok (.iload 4, 2) := by decide +kernel
theorem dL_law_1231 : decode cL_law 1231 = .ok (.iconst 1, 1) := by decide +kernel
theorem dL_law_1232 : decode cL_law 1232 = .ok (.iadd, 1) := by decide +kernel
theorem dL_law_1233 : decode cL_law 1233 = .ok (.iaload, 1) := by decide +kernel
theorem dL_law_1234 : decode cL_law 1234 = .ok (.aload_n 0, 1) := by decide +kernel
theorem dL_law_1235 : decode cL_law 1235 = .ok (.iload 4, 2) := by decide +kernel
theorem dL_law_1237 : decode cL_law 1237 = .ok (.iconst 2, 1) := by decide +kernel
theorem dL_law_1238 : decode cL_law 1238 = .ok (.iadd, 1) := by decide +kernel
theorem dL_law_1239 : decode cL_law 1239 = .ok (.iaload, 1) := by decide +kernel
theorem dL_law_1240 : decode cL_law 1240 = .ok (.invokevirtual 206, 3) := by decide +kernel
theorem dL_law_1243 : decode cL_law 1243 = .ok (.lstore 6, 2) := by decide +kernel
theorem dL_law_1245 : decode cL_law 1245 = .ok (.aload_n 2, 1) := by decide +kernel
theorem dL_law_1246 : decode cL_law 1246 = .ok (.invokevirtual 127, 3) := by decide +kernel
theorem dL_law_1249 : decode cL_law 1249 = .ok (.iload 5, 2) := by decide +kernel
theorem dL_law_1251 : decode cL_law 1251 = .ok (.if_icmp .eq 5, 3) := by decide +kernel
theorem dL_law_1256 : decode cL_law 1256 = .ok (.iload 5, 2) := by decide +kernel
theorem dL_law_1258 : decode cL_law 1258 = .ok (.ifCond .ne 14, 3) := by decide +kernel
theorem dL_law_1261 : decode cL_law 1261 = .ok (.aload_n 3, 1) := by decide +kernel
theorem dL_law_1262 : decode cL_law 1262 = .ok (.iconst 0, 1) := by decide +kernel
theorem dL_law_1263 : decode cL_law 1263 = .ok (.laload, 1) := by decide +kernel
theorem dL_law_1264 : decode cL_law 1264 = .ok (.lload 6, 2) := by decide +kernel
theorem dL_law_1266 : decode cL_law 1266 = .ok (.lcmp, 1) := by decide +kernel
theorem dL_law_1267 : decode cL_law 1267 = .ok (.ifCond .eq 5, 3) := by decide +kernel
theorem dL_law_1272 : decode cL_law 1272 = .ok (.goto 927, 3) := by decide +kernel
theorem dL_law_1275 : decode cL_law 1275 = .ok (.aload_n 1, 1) := by decide +kernel
theorem dL_law_1276 : decode cL_law 1276 = .ok (.aload_n 0, 1) := by decide +kernel
theorem dL_law_1277 : decode cL_law 1277 = .ok (.iload 4, 2) := by decide +kernel
theorem dL_law_1279 : decode cL_law 1279 = .ok (.iconst 1, 1) := by decide +kernel
theorem dL_law_1280 : decode cL_law 1280 = .ok (.iadd, 1) := by decide +kernel
theorem dL_law_1281 : decode cL_law 1281 = .ok (.iaload, 1) := by decide +kernel
theorem dL_law_1282 : decode cL_law 1282 = .ok (.aload_n 0, 1) := by decide +kernel
theorem dL_law_1283 : decode cL_law 1283 = .ok (.iload 4, 2) := by decide +kernel
theorem dL_law_1285 : decode cL_law 1285 = .ok (.iconst 2, 1) := by decide +kernel
theorem dL_law_1286 : decode cL_law 1286 = .ok (.iadd, 1) := by decide +kernel
theorem dL_law_1287 : decode cL_law 1287 = .ok (.iaload, 1) := by decide +kernel
theorem dL_law_1288 : decode cL_law 1288 = .ok (.aload_n 3, 1) := by decide +kernel
theorem dL_law_1289 : decode cL_law 1289 = .ok (.invokestatic 207, 3) := by decide +kernel
theorem dL_law_1292 : decode cL_law 1292 = .ok (.istore 5, 2) := by decide +kernel
theorem dL_law_1294 : decode cL_law 1294 = .ok (.aload_n 2, 1) := by decide +kernel
theorem dL_law_1295 : decode cL_law 1295 = .ok (.aload_n 0, 1) := by decide +kernel
theorem dL_law_1296 : decode cL_law 1296 = .ok (.iload 4, 2) := by decide +kernel
theorem dL_law_1298 : decode cL_law 1298 = .ok (.iconst 1, 1) := by decide +kernel
theorem dL_law_1299 : decode cL_law 1299 = .ok (.iadd, 1) := by decide +kernel
theorem dL_law_1300 : decode cL_law 1300 = .ok (.iaload, 1) := by decide +kernel
theorem dL_law_1301 : decode cL_law 1301 = .ok (.aload_n 0, 1) := by decide +kernel
theorem dL_law_1302 : decode cL_law 1302 = .ok (.iload 4, 2) := by decide +kernel
theorem dL_law_1304 : decode cL_law 1304 = .ok (.iconst 2, 1) := by decide +kernel
theorem dL_law_1305 : decode cL_law 1305 = .ok (.iadd, 1) := by decide +kernel
theorem dL_law_1306 : decode cL_law 1306 = .ok (.iaload, 1) := by decide +kernel
theorem dL_law_1307 : decode cL_law 1307 = .ok (.invokevirtual 209, 3) := by decide +kernel
theorem dL_law_1310 : decode cL_law 1310 = .ok (.lstore 6, 2) := by decide +kernel
theorem dL_law_1312 : decode cL_law 1312 = .ok (.aload_n 2, 1) := by decide +kernel
theorem dL_law_1313 : decode cL_law 1313 = .ok (.invokevirtual 127, 3) := by decide +kernel
theorem dL_law_1316 : decode cL_law 1316 = .ok (.iload 5, 2) := by decide +kernel
theorem dL_law_1318 : decode cL_law 1318 = .ok (.if_icmp .eq 5, 3) := by decide +kernel
theorem dL_law_1323 : decode cL_law 1323 = .ok (.iload 5, 2) := by decide +kernel
theorem dL_law_1325 : decode cL_law 1325 = .ok (.ifCond .ne 14, 3) := by decide +kernel
theorem dL_law_1339 : decode cL_law 1339 = .ok (.goto 860, 3) := by decide +kernel
theorem dL_law_1342 : decode cL_law 1342 = .ok (.aload_n 1, 1) := by decide +kernel
theorem dL_law_1343 : decode cL_law 1343 = .ok (.invokevirtual 210, 3) := by decide +kernel
theorem dL_law_1346 : decode cL_law 1346 = .ok (.aload_n 2, 1) := by decide +kernel
theorem dL_law_1347 : decode cL_law 1347 = .ok (.invokevirtual 213, 3) := by decide +kernel
theorem dL_law_1350 : decode cL_law 1350 = .ok (.if_icmp .eq 849, 3) := by decide +kernel
theorem dL_law_1355 : decode cL_law 1355 = .ok (.aload_n 1, 1) := by decide +kernel
theorem dL_law_1356 : decode cL_law 1356 = .ok (.aload_n 0, 1) := by decide +kernel
theorem dL_law_1357 : decode cL_law 1357 = .ok (.iload 4, 2) := by decide +kernel
theorem dL_law_1359 : decode cL_law 1359 = .ok (.iconst 1, 1) := by decide +kernel
theorem dL_law_1360 : decode cL_law 1360 = .ok (.iadd, 1) := by decide +kernel
theorem dL_law_1361 : decode cL_law 1361 = .ok (.iaload, 1) := by decide +kernel
theorem dL_law_1362 : decode cL_law 1362 = .ok (.aload_n 3, 1) := by decide +kernel
theorem dL_law_1363 : decode cL_law 1363 = .ok (.invokestatic 214, 3) := by decide +kernel
theorem dL_law_1366 : decode cL_law 1366 = .ok (.istore 5, 2) := by decide +kernel
theorem dL_law_1368 : decode cL_law 1368 = .ok (.aload_n 2, 1) := by decide +kernel
theorem dL_law_1369 : decode cL_law 1369 = .ok (.aload_n 0, 1) := by decide +kernel
theorem dL_law_1370 : decode cL_law 1370 = .ok (.iload 4, 2) := by decide +kernel
theorem dL_law_1372 : decode cL_law 1372 = .ok (.iconst 1, 1) := by decide +kernel
theorem dL_law_1373 : decode cL_law 1373 = .ok (.iadd, 1) := by decide +kernel
theorem dL_law_1374 : decode cL_law 1374 = .ok (.iaload, 1) := by decide +kernel
theorem dL_law_1375 : decode cL_law 1375 = .ok (.invokevirtual 216, 3) := by decide +kernel
theorem dL_law_1378 : decode cL_law 1378 = .ok (.istore 6, 2) := by decide +kernel
theorem dL_law_1380 : decode cL_law 1380 = .ok (.aload_n 2, 1) := by decide +kernel
theorem dL_law_1381 : decode cL_law 1381 = .ok (.invokevirtual 127, 3) := by decide +kernel
theorem dL_law_1384 : decode cL_law 1384 = .ok (.iload 5, 2) := by decide +kernel
theorem dL_law_1386 : decode cL_law 1386 = .ok (.if_icmp .eq 5, 3) := by decide +kernel
theorem dL_law_1391 : decode cL_law 1391 = .ok (.iload 5, 2) := by decide +kernel
theorem dL_law_1393 : decode cL_law 1393 = .ok (.ifCond .ne 15, 3) := by decide +kernel
theorem dL_law_1408 : decode cL_law 1408 = .ok (.goto 791, 3) := by decide +kernel
theorem dL_law_1411 : decode cL_law 1411 = .ok (.aload_n 1, 1) := by decide +kernel
theorem dL_law_1412 : decode cL_law 1412 = .ok (.aload_n 0, 1) := by decide +kernel
theorem dL_law_1413 : decode cL_law 1413 = .ok (.iload 4, 2) := by decide +kernel
theorem dL_law_1415 : decode cL_law 1415 = .ok (.iconst 1, 1) := by decide +kernel
theorem dL_law_1416 : decode cL_law 1416 = .ok (.iadd, 1) := by decide +kernel
theorem dL_law_1417 : decode cL_law 1417 = .ok (.iaload, 1) := by decide +kernel
theorem dL_law_1418 : decode cL_law 1418 = .ok (.aload_n 3, 1) := by decide +kernel
theorem dL_law_1419 : decode cL_law 1419 = .ok (.invokestatic 217, 3) := by decide +kernel
theorem dL_law_1422 : decode cL_law 1422 = .ok (.istore 5, 2) := by decide +kernel
theorem dL_law_1424 : decode cL_law 1424 = .ok (.aload_n 2, 1) := by decide +kernel
theorem dL_law_1425 : decode cL_law 1425 = .ok (.aload_n 0, 1) := by decide +kernel
theorem dL_law_1426 : decode cL_law 1426 = .ok (.iload 4, 2) := by decide +kernel
theorem dL_law_1428 : decode cL_law 1428 = .ok (.iconst 1, 1) := by decide +kernel
theorem dL_law_1429 : decode cL_law 1429 = .ok (.iadd, 1) := by decide +kernel
theorem dL_law_1430 : decode cL_law 1430 = .ok (.iaload, 1) := by decide +kernel
theorem dL_law_1431 : decode cL_law 1431 = .ok (.invokevirtual 219, 3) := by decide +kernel
theorem dL_law_1434 : decode cL_law 1434 = .ok (.lstore 6, 2) := by decide +kernel
theorem dL_law_1436 : decode cL_law 1436 = .ok (.aload_n 2, 1) := by decide +kernel
theorem dL_law_1437 : decode cL_law 1437 = .ok (.invokevirtual 127, 3) := by decide +kernel
theorem dL_law_1440 : decode cL_law 1440 = .ok (.iload 5, 2) := by decide +kernel
theorem dL_law_1442 : decode cL_law 1442 = .ok (.if_icmp .eq 5, 3) := by decide +kernel
theorem dL_law_1447 : decode cL_law 1447 = .ok (.iload 5, 2) := by decide +kernel
theorem dL_law_1449 : decode cL_law 1449 = .ok (.ifCond .ne 14, 3) := by decide +kernel
theorem dL_law_1463 : decode cL_law 1463 = .ok (.goto 736, 3) := by decide +kernel
theorem dL_law_1466 : decode cL_law 1466 = .ok (.aload_n 1, 1) := by decide +kernel
theorem dL_law_1467 : decode cL_law 1467 = .ok (.aload_n 0, 1) := by decide +kernel
theorem dL_law_1468 : decode cL_law 1468 = .ok (.iload 4, 2) := by decide +kernel
theorem dL_law_1470 : decode cL_law 1470 = .ok (.iconst 1, 1) := by decide +kernel
theorem dL_law_1471 : decode cL_law 1471 = .ok (.iadd, 1) := by decide +kernel
theorem dL_law_1472 : decode cL_law 1472 = .ok (.iaload, 1) := by decide +kernel
theorem dL_law_1473 : decode cL_law 1473 = .ok (.aload_n 3, 1) := by decide +kernel
theorem dL_law_1474 : decode cL_law 1474 = .ok (.invokestatic 220, 3) := by decide +kernel
theorem dL_law_1477 : decode cL_law 1477 = .ok (.istore 5, 2) := by decide +kernel
theorem dL_law_1479 : decode cL_law 1479 = .ok (.aload_n 2, 1) := by decide +kernel
theorem dL_law_1480 : decode cL_law 1480 = .ok (.aload_n 0, 1) := by decide +kernel
theorem dL_law_1481 : decode cL_law 1481 = .ok (.iload 4, 2) := by decide +kernel
theorem dL_law_1483 : decode cL_law 1483 = .ok (.iconst 1, 1) := by decide +kernel
theorem dL_law_1484 : decode cL_law 1484 = .ok (.iadd, 1) := by decide +kernel
theorem dL_law_1485 : decode cL_law 1485 = .ok (.iaload, 1) := by decide +kernel
theorem dL_law_1486 : decode cL_law 1486 = .ok (.invokevirtual 222, 3) := by decide +kernel
theorem dL_law_1489 : decode cL_law 1489 = .ok (.istore 6, 2) := by decide +kernel
theorem dL_law_1491 : decode cL_law 1491 = .ok (.aload_n 2, 1) := by decide +kernel
theorem dL_law_1492 : decode cL_law 1492 = .ok (.invokevirtual 127, 3) := by decide +kernel
theorem dL_law_1495 : decode cL_law 1495 = .ok (.iload 5, 2) := by decide +kernel
theorem dL_law_1497 : decode cL_law 1497 = .ok (.if_icmp .eq 5, 3) := by decide +kernel
theorem dL_law_1502 : decode cL_law 1502 = .ok (.iload 5, 2) := by decide +kernel
theorem dL_law_1504 : decode cL_law 1504 = .ok (.ifCond .ne 15, 3) := by decide +kernel
theorem dL_law_1519 : decode cL_law 1519 = .ok (.goto 680, 3) := by decide +kernel
theorem dL_law_1522 : decode cL_law 1522 = .ok (.aload_n 1, 1) := by decide +kernel
theorem dL_law_1523 : decode cL_law 1523 = .ok (.aload_n 0, 1) := by decide +kernel
theorem dL_law_1524 : decode cL_law 1524 = .ok (.iload 4, 2) := by decide +kernel
theorem dL_law_1526 : decode cL_law 1526 = .ok (.iconst 1, 1) := by decide +kernel
theorem dL_law_1527 : decode cL_law 1527 = .ok (.iadd, 1) := by decide +kernel
theorem dL_law_1528 : decode cL_law 1528 = .ok (.iaload, 1) := by decide +kernel
theorem dL_law_1529 : decode cL_law 1529 = .ok (.aload_n 0, 1) := by decide +kernel
theorem dL_law_1530 : decode cL_law 1530 = .ok (.iload 4, 2) := by decide +kernel
theorem dL_law_1532 : decode cL_law 1532 = .ok (.iconst 2, 1) := by decide +kernel
theorem dL_law_1533 : decode cL_law 1533 = .ok (.iadd, 1) := by decide +kernel
theorem dL_law_1534 : decode cL_law 1534 = .ok (.iaload, 1) := by decide +kernel
theorem dL_law_1535 : decode cL_law 1535 = .ok (.aload_n 3, 1) := by decide +kernel
theorem dL_law_1536 : decode cL_law 1536 = .ok (.invokestatic 223, 3) := by decide +kernel
theorem dL_law_1539 : decode cL_law 1539 = .ok (.istore 5, 2) := by decide +kernel
theorem dL_law_1541 : decode cL_law 1541 = .ok (.aload_n 2, 1) := by decide +kernel
theorem dL_law_1542 : decode cL_law 1542 = .ok (.aload_n 0, 1) := by decide +kernel
theorem dL_law_1543 : decode cL_law 1543 = .ok (.iload 4, 2) := by decide +kernel
theorem dL_law_1545 : decode cL_law 1545 = .ok (.iconst 1, 1) := by decide +kernel
theorem dL_law_1546 : decode cL_law 1546 = .ok (.iadd, 1) := by decide +kernel
theorem dL_law_1547 : decode cL_law 1547 = .ok (.iaload, 1) := by decide +kernel
theorem dL_law_1548 : decode cL_law 1548 = .ok (.aload_n 0, 1) := by decide +kernel
theorem dL_law_1549 : decode cL_law 1549 = .ok (.iload 4, 2) := by decide +kernel
theorem dL_law_1551 : decode cL_law 1551 = .ok (.iconst 2, 1) := by decide +kernel
theorem dL_law_1552 : decode cL_law 1552 = .ok (.iadd, 1) := by decide +kernel
theorem dL_law_1553 : decode cL_law 1553 = .ok (.iaload, 1) := by decide +kernel
theorem dL_law_1554 : decode cL_law 1554 = .ok (.invokevirtual 225, 3) := by decide +kernel
theorem dL_law_1557 : decode cL_law 1557 = .ok (.lstore 6, 2) := by decide +kernel
theorem dL_law_1559 : decode cL_law 1559 = .ok (.aload_n 2, 1) := by decide +kernel
theorem dL_law_1560 : decode cL_law 1560 = .ok (.invokevirtual 127, 3) := by decide +kernel
theorem dL_law_1563 : decode cL_law 1563 = .ok (.iload 5, 2) := by decide +kernel
theorem dL_law_1565 : decode cL_law 1565 = .ok (.if_icmp .eq 5, 3) := by decide +kernel
theorem dL_law_1570 : decode cL_law 1570 = .ok (.iload 5, 2) := by decide +kernel
theorem dL_law_1572 : decode cL_law 1572 = .ok (.ifCond .ne 14, 3) := by decide +kernel
theorem dL_law_1586 : decode cL_law 1586 = .ok (.goto 613, 3) := by decide +kernel
theorem dL_law_1589 : decode cL_law 1589 = .ok (.aload_n 1, 1) := by decide +kernel
theorem dL_law_1590 : decode cL_law 1590 = .ok (.aload_n 0, 1) := by decide +kernel
theorem dL_law_1591 : decode cL_law 1591 = .ok (.iload 4, 2) := by decide +kernel
theorem dL_law_1593 : decode cL_law 1593 = .ok (.iconst 1, 1) := by decide +kernel
theorem dL_law_1594 : decode cL_law 1594 = .ok (.iadd, 1) := by decide +kernel
theorem dL_law_1595 : decode cL_law 1595 = .ok (.iaload, 1) := by decide +kernel
theorem dL_law_1596 : decode cL_law 1596 = .ok (.aload_n 0, 1) := by decide +kernel
theorem dL_law_1597 : decode cL_law 1597 = .ok (.iload 4, 2) := by decide +kernel
theorem dL_law_1599 : decode cL_law 1599 = .ok (.iconst 2, 1) := by decide +kernel
theorem dL_law_1600 : decode cL_law 1600 = .ok (.iadd, 1) := by decide +kernel
theorem dL_law_1601 : decode cL_law 1601 = .ok (.iaload, 1) := by decide +kernel
theorem dL_law_1602 : decode cL_law 1602 = .ok (.ifCond .eq 7, 3) := by decide +kernel
theorem dL_law_1605 : decode cL_law 1605 = .ok (.iconst 1, 1) := by decide +kernel
theorem dL_law_1606 : decode cL_law 1606 = .ok (.goto 4, 3) := by decide +kernel
theorem dL_law_1609 : decode cL_law 1609 = .ok (.iconst 0, 1) := by decide +kernel
theorem dL_law_1610 : decode cL_law 1610 = .ok (.aload_n 3, 1) := by decide +kernel
theorem dL_law_1611 : decode cL_law 1611 = .ok (.invokestatic 226, 3) := by decide +kernel
theorem dL_law_1614 : decode cL_law 1614 = .ok (.istore 5, 2) := by decide +kernel
theorem dL_law_1616 : decode cL_law 1616 = .ok (.aload_n 2, 1) := by decide +kernel
theorem dL_law_1617 : decode cL_law 1617 = .ok (.aload_n 0, 1) := by decide +kernel
theorem dL_law_1618 : decode cL_law 1618 = .ok (.iload 4, 2) := by decide +kernel
theorem dL_law_1620 : decode cL_law 1620 = .ok (.iconst 1, 1) := by decide +kernel
theorem dL_law_1621 : decode cL_law 1621 = .ok (.iadd, 1) := by decide +kernel
theorem dL_law_1622 : decode cL_law 1622 = .ok (.iaload, 1) := by decide +kernel
theorem dL_law_1623 : decode cL_law 1623 = .ok (.aload_n 0, 1) := by decide +kernel
theorem dL_law_1624 : decode cL_law 1624 = .ok (.iload 4, 2) := by decide +kernel
theorem dL_law_1626 : decode cL_law 1626 = .ok (.iconst 2, 1) := by decide +kernel
theorem dL_law_1627 : decode cL_law 1627 = .ok (.iadd, 1) := by decide +kernel
theorem dL_law_1628 : decode cL_law 1628 = .ok (.iaload, 1) := by decide +kernel
theorem dL_law_1629 : decode cL_law 1629 = .ok (.ifCond .eq 7, 3) := by decide +kernel
theorem dL_law_1632 : decode cL_law 1632 = .ok (.iconst 1, 1) := by decide +kernel
theorem dL_law_1633 : decode cL_law 1633 = .ok (.goto 4, 3) := by decide +kernel
theorem dL_law_1636 : decode cL_law 1636 = .ok (.iconst 0, 1) := by decide +kernel
theorem dL_law_1637 : decode cL_law 1637 = .ok (.invokevirtual 228, 3) := by decide +kernel
theorem dL_law_1640 : decode cL_law 1640 = .ok (.istore 6, 2) := by decide +kernel
theorem dL_law_1642 : decode cL_law 1642 = .ok (.aload_n 2, 1) := by decide +kernel
theorem dL_law_1643 : decode cL_law 1643 = .ok (.invokevirtual 127, 3) := by decide +kernel
theorem dL_law_1646 : decode cL_law 1646 = .ok (.iload 5, 2) := by decide +kernel
theorem dL_law_1648 : decode cL_law 1648 = .ok (.if_icmp .eq 5, 3) := by decide +kernel
theorem dL_law_1653 : decode cL_law 1653 = .ok (.iload 5, 2) := by decide +kernel
theorem dL_law_1655 : decode cL_law 1655 = .ok (.ifCond .ne 15, 3) := by decide +kernel
theorem dL_law_1658 : decode cL_law 1658 = .ok (.aload_n 3, 1) := by decide +kernel
theorem dL_law_1659 : decode cL_law 1659 = .ok (.iconst 0, 1) := by decide +kernel
theorem dL_law_1660 : decode cL_law 1660 = .ok (.laload, 1) := by decide +kernel
theorem dL_law_1661 : decode cL_law 1661 = .ok (.iload 6, 2) := by decide +kernel
theorem dL_law_1663 : decode cL_law 1663 = .ok (.i2l, 1) := by decide +kernel
theorem dL_law_1664 : decode cL_law 1664 = .ok (.lcmp, 1) := by decide +kernel
theorem dL_law_1665 : decode cL_law 1665 = .ok (.ifCond .eq 5, 3) := by decide +kernel
theorem dL_law_1670 : decode cL_law 1670 = .ok (.goto 529, 3) := by decide +kernel
theorem dL_law_1673 : decode cL_law 1673 = .ok (.aload_n 1, 1) := by decide +kernel
theorem dL_law_1674 : decode cL_law 1674 = .ok (.aload_n 0, 1) := by decide +kernel
theorem dL_law_1675 : decode cL_law 1675 = .ok (.iload 4, 2) := by decide +kernel
theorem dL_law_1677 : decode cL_law 1677 = .ok (.iconst 1, 1) := by decide +kernel
theorem dL_law_1678 : decode cL_law 1678 = .ok (.iadd, 1) := by decide +kernel
theorem dL_law_1679 : decode cL_law 1679 = .ok (.iaload, 1) := by decide +kernel
theorem dL_law_1680 : decode cL_law 1680 = .ok (.aload_n 3, 1) := by decide +kernel
theorem dL_law_1681 : decode cL_law 1681 = .ok (.invokestatic 229, 3) := by decide +kernel
theorem dL_law_1684 : decode cL_law 1684 = .ok (.istore 5, 2) := by decide +kernel
theorem dL_law_1686 : decode cL_law 1686 = .ok (.aload_n 2, 1) := by decide +kernel
theorem dL_law_1687 : decode cL_law 1687 = .ok (.aload_n 0, 1) := by decide +kernel
theorem dL_law_1688 : decode cL_law 1688 = .ok (.iload 4, 2) := by decide +kernel
theorem dL_law_1690 : decode cL_law 1690 = .ok (.iconst 1, 1) := by decide +kernel
theorem dL_law_1691 : decode cL_law 1691 = .ok (.iadd, 1) := by decide +kernel
theorem dL_law_1692 : decode cL_law 1692 = .ok (.iaload, 1) := by decide +kernel
theorem dL_law_1693 : decode cL_law 1693 = .ok (.invokevirtual 231, 3) := by decide +kernel
theorem dL_law_1696 : decode cL_law 1696 = .ok (.lstore 6, 2) := by decide +kernel
theorem dL_law_1698 : decode cL_law 1698 = .ok (.aload_n 2, 1) := by decide +kernel
theorem dL_law_1699 : decode cL_law 1699 = .ok (.invokevirtual 127, 3) := by decide +kernel
theorem dL_law_1702 : decode cL_law 1702 = .ok (.iload 5, 2) := by decide +kernel
theorem dL_law_1704 : decode cL_law 1704 = .ok (.if_icmp .eq 5, 3) := by decide +kernel
theorem dL_law_1709 : decode cL_law 1709 = .ok (.iload 5, 2) := by decide +kernel
theorem dL_law_1711 : decode cL_law 1711 = .ok (.ifCond .ne 14, 3) := by decide +kernel
theorem dL_law_1714 : decode cL_law 1714 = .ok (.aload_n 3, 1) := by decide +kernel
theorem dL_law_1715 : decode cL_law 1715 = .ok (.iconst 0, 1) := by decide +kernel
theorem dL_law_1716 : decode cL_law 1716 = .ok (.laload, 1) := by decide +kernel
theorem dL_law_1717 : decode cL_law 1717 = .ok (.lload 6, 2) := by decide +kernel
theorem dL_law_1719 : decode cL_law 1719 = .ok (.lcmp, 1) := by decide +kernel
theorem dL_law_1720 : decode cL_law 1720 = .ok (.ifCond .eq 5, 3) := by decide +kernel
theorem dL_law_1725 : decode cL_law 1725 = .ok (.goto 474, 3) := by decide +kernel
theorem dL_law_1728 : decode cL_law 1728 = .ok (.aload_n 1, 1) := by decide +kernel
theorem dL_law_1729 : decode cL_law 1729 = .ok (.aload_n 0, 1) := by decide +kernel
theorem dL_law_1730 : decode cL_law 1730 = .ok (.iload 4, 2) := by decide +kernel
theorem dL_law_1732 : decode cL_law 1732 = .ok (.iconst 1, 1) := by decide +kernel
theorem dL_law_1733 : decode cL_law 1733 = .ok (.iadd, 1) := by decide +kernel
theorem dL_law_1734 : decode cL_law 1734 = .ok (.iaload, 1) := by decide +kernel
theorem dL_law_1735 : decode cL_law 1735 = .ok (.aload_n 3, 1) := by decide +kernel
theorem dL_law_1736 : decode cL_law 1736 = .ok (.invokestatic 232, 3) := by decide +kernel
theorem dL_law_1739 : decode cL_law 1739 = .ok (.istore 5, 2) := by decide +kernel
theorem dL_law_1741 : decode cL_law 1741 = .ok (.aload_n 2, 1) := by decide +kernel
theorem dL_law_1742 : decode cL_law 1742 = .ok (.aload_n 0, 1) := by decide +kernel
theorem dL_law_1743 : decode cL_law 1743 = .ok (.iload 4, 2) := by decide +kernel
theorem dL_law_1745 : decode cL_law 1745 = .ok (.iconst 1, 1) := by decide +kernel
theorem dL_law_1746 : decode cL_law 1746 = .ok (.iadd, 1) := by decide +kernel
theorem dL_law_1747 : decode cL_law 1747 = .ok (.iaload, 1) := by decide +kernel
theorem dL_law_1748 : decode cL_law 1748 = .ok (.invokevirtual 234, 3) := by decide +kernel
theorem dL_law_1751 : decode cL_law 1751 = .ok (.lstore 6, 2) := by decide +kernel
theorem dL_law_1753 : decode cL_law 1753 = .ok (.aload_n 2, 1) := by decide +kernel
theorem dL_law_1754 : decode cL_law 1754 = .ok (.invokevirtual 127, 3) := by decide +kernel
theorem dL_law_1757 : decode cL_law 1757 = .ok (.iload 5, 2) := by decide +kernel
theorem dL_law_1759 : decode cL_law 1759 = .ok (.if_icmp .eq 5, 3) := by decide +kernel
theorem dL_law_1764 : decode cL_law 1764 = .ok (.iload 5, 2) := by decide +kernel
theorem dL_law_1766 : decode cL_law 1766 = .ok (.ifCond .ne 14, 3) := by decide +kernel
theorem dL_law_1769 : decode cL_law 1769 = .ok (.aload_n 3, 1) := by decide +kernel
theorem dL_law_1770 : decode cL_law 1770 = .ok (.iconst 0, 1) := by decide +kernel
theorem dL_law_1771 : decode cL_law 1771 = .ok (.laload, 1) := by decide +kernel
theorem dL_law_1772 : decode cL_law 1772 = .ok (.lload 6, 2) := by decide +kernel
theorem dL_law_1774 : decode cL_law 1774 = .ok (.lcmp, 1) := by decide +kernel
theorem dL_law_1775 : decode cL_law 1775 = .ok (.ifCond .eq 5, 3) := by decide +kernel
theorem dL_law_1780 : decode cL_law 1780 = .ok (.goto 419, 3) := by decide +kernel
theorem dL_law_1783 : decode cL_law 1783 = .ok (.aload_n 1, 1) := by decide +kernel
theorem dL_law_1784 : decode cL_law 1784 = .ok (.aload_n 0, 1) := by decide +kernel
theorem dL_law_1785 : decode cL_law 1785 = .ok (.iload 4, 2) := by decide +kernel
theorem dL_law_1787 : decode cL_law 1787 = .ok (.iconst 1, 1) := by decide +kernel
theorem dL_law_1788 : decode cL_law 1788 = .ok (.iadd, 1) := by decide +kernel
theorem dL_law_1789 : decode cL_law 1789 = .ok (.iaload, 1) := by decide +kernel
theorem dL_law_1790 : decode cL_law 1790 = .ok (.aload_n 3, 1) := by decide +kernel
theorem dL_law_1791 : decode cL_law 1791 = .ok (.invokestatic 235, 3) := by decide +kernel
theorem dL_law_1794 : decode cL_law 1794 = .ok (.istore 5, 2) := by decide +kernel
theorem dL_law_1796 : decode cL_law 1796 = .ok (.aload_n 2, 1) := by decide +kernel
theorem dL_law_1797 : decode cL_law 1797 = .ok (.aload_n 0, 1) := by decide +kernel
theorem dL_law_1798 : decode cL_law 1798 = .ok (.iload 4, 2) := by decide +kernel
theorem dL_law_1800 : decode cL_law 1800 = .ok (.iconst 1, 1) := by decide +kernel
theorem dL_law_1801 : decode cL_law 1801 = .ok (.iadd, 1) := by decide +kernel
theorem dL_law_1802 : decode cL_law 1802 = .ok (.iaload, 1) := by decide +kernel
theorem dL_law_1803 : decode cL_law 1803 = .ok (.invokevirtual 237, 3) := by decide +kernel
theorem dL_law_1806 : decode cL_law 1806 = .ok (.lstore 6, 2) := by decide +kernel
theorem dL_law_1808 : decode cL_law 1808 = .ok (.aload_n 2, 1) := by decide +kernel
theorem dL_law_1809 : decode cL_law 1809 = .ok (.invokevirtual 127, 3) := by decide +kernel
theorem dL_law_1812 : decode cL_law 1812 = .ok (.iload 5, 2) := by decide +kernel
theorem dL_law_1814 : decode cL_law 1814 = .ok (.if_icmp .eq 5, 3) := by decide +kernel
theorem dL_law_1819 : decode cL_law 1819 = .ok (.iload 5, 2) := by decide +kernel
theorem dL_law_1821 : decode cL_law 1821 = .ok (.ifCond .ne 14, 3) := by decide +kernel
theorem dL_law_1824 : decode cL_law 1824 = .ok (.aload_n 3, 1) := by decide +kernel
theorem dL_law_1825 : decode cL_law 1825 = .ok (.iconst 0, 1) := by decide +kernel
theorem dL_law_1826 : decode cL_law 1826 = .ok (.laload, 1) := by decide +kernel
theorem dL_law_1827 : decode cL_law 1827 = .ok (.lload 6, 2) := by decide +kernel
theorem dL_law_1829 : decode cL_law 1829 = .ok (.lcmp, 1) := by decide +kernel
theorem dL_law_1830 : decode cL_law 1830 = .ok (.ifCond .eq 5, 3) := by decide +kernel
theorem dL_law_1835 : decode cL_law 1835 = .ok (.goto 364, 3) := by decide +kernel
theorem dL_law_1838 : decode cL_law 1838 = .ok (.aload_n 1, 1) := by decide +kernel
theorem dL_law_1839 : decode cL_law 1839 = .ok (.aload_n 0, 1) := by decide +kernel
theorem dL_law_1840 : decode cL_law 1840 = .ok (.iload 4, 2) := by decide +kernel
theorem dL_law_1842 : decode cL_law 1842 = .ok (.iconst 1, 1) := by decide +kernel
theorem dL_law_1843 : decode cL_law 1843 = .ok (.iadd, 1) := by decide +kernel
theorem dL_law_1844 : decode cL_law 1844 = .ok (.iaload, 1) := by decide +kernel
theorem dL_law_1845 : decode cL_law 1845 = .ok (.aload_n 0, 1) := by decide +kernel
theorem dL_law_1846 : decode cL_law 1846 = .ok (.iload 4, 2) := by decide +kernel
theorem dL_law_1848 : decode cL_law 1848 = .ok (.iconst 2, 1) := by decide +kernel
theorem dL_law_1849 : decode cL_law 1849 = .ok (.iadd, 1) := by decide +kernel
theorem dL_law_1850 : decode cL_law 1850 = .ok (.iaload, 1) := by decide +kernel
theorem dL_law_1851 : decode cL_law 1851 = .ok (.ifCond .eq 7, 3) := by decide +kernel
theorem dL_law_1854 : decode cL_law 1854 = .ok (.iconst 1, 1) := by decide +kernel
theorem dL_law_1855 : decode cL_law 1855 = .ok (.goto 4, 3) := by decide +kernel
theorem dL_law_1858 : decode cL_law 1858 = .ok (.iconst 0, 1) := by decide +kernel
theorem dL_law_1859 : decode cL_law 1859 = .ok (.aload_n 3, 1) := by decide +kernel
theorem dL_law_1860 : decode cL_law 1860 = .ok (.invokestatic 238, 3) := by decide +kernel
theorem dL_law_1863 : decode cL_law 1863 = .ok (.istore 5, 2) := by decide +kernel
theorem dL_law_1865 : decode cL_law 1865 = .ok (.aload_n 2, 1) := by decide +kernel
theorem dL_law_1866 : decode cL_law 1866 = .ok (.aload_n 0, 1) := by decide +kernel
theorem dL_law_1867 : decode cL_law 1867 = .ok (.iload 4, 2) := by decide +kernel
theorem dL_law_1869 : decode cL_law 1869 = .ok (.iconst 1, 1) := by decide +kernel
theorem dL_law_1870 : decode cL_law 1870 = .ok (.iadd, 1) := by decide +kernel
theorem dL_law_1871 : decode cL_law 1871 = .ok (.iaload, 1) := by decide +kernel
theorem dL_law_1872 : decode cL_law 1872 = .ok (.aload_n 0, 1) := by decide +kernel
theorem dL_law_1873 : decode cL_law 1873 = .ok (.iload 4, 2) := by decide +kernel
theorem dL_law_1875 : decode cL_law 1875 = .ok (.iconst 2, 1) := by decide +kernel
theorem dL_law_1876 : decode cL_law 1876 = .ok (.iadd, 1) := by decide +kernel
theorem dL_law_1877 : decode cL_law 1877 = .ok (.iaload, 1) := by decide +kernel
theorem dL_law_1878 : decode cL_law 1878 = .ok (.ifCond .eq 7, 3) := by decide +kernel
theorem dL_law_1881 : decode cL_law 1881 = .ok (.iconst 1, 1) := by decide +kernel
theorem dL_law_1882 : decode cL_law 1882 = .ok (.goto 4, 3) := by decide +kernel
theorem dL_law_1885 : decode cL_law 1885 = .ok (.iconst 0, 1) := by decide +kernel
theorem dL_law_1886 : decode cL_law 1886 = .ok (.invokevirtual 240, 3) := by decide +kernel
theorem dL_law_1889 : decode cL_law 1889 = .ok (.lstore 6, 2) := by decide +kernel
theorem dL_law_1891 : decode cL_law 1891 = .ok (.aload_n 2, 1) := by decide +kernel
theorem dL_law_1892 : decode cL_law 1892 = .ok (.invokevirtual 127, 3) := by decide +kernel
theorem dL_law_1895 : decode cL_law 1895 = .ok (.iload 5, 2) := by decide +kernel
theorem dL_law_1897 : decode cL_law 1897 = .ok (.if_icmp .eq 5, 3) := by decide +kernel
theorem dL_law_1902 : decode cL_law 1902 = .ok (.iload 5, 2) := by decide +kernel
theorem dL_law_1904 : decode cL_law 1904 = .ok (.ifCond .ne 14, 3) := by decide +kernel
theorem dL_law_1907 : decode cL_law 1907 = .ok (.aload_n 3, 1) := by decide +kernel
theorem dL_law_1908 : decode cL_law 1908 = .ok (.iconst 0, 1) := by decide +kernel
theorem dL_law_1909 : decode cL_law 1909 = .ok (.laload, 1) := by decide +kernel
theorem dL_law_1910 : decode cL_law 1910 = .ok (.lload 6, 2) := by decide +kernel
theorem dL_law_1912 : decode cL_law 1912 = .ok (.lcmp, 1) := by decide +kernel
theorem dL_law_1913 : decode cL_law 1913 = .ok (.ifCond .eq 5, 3) := by decide +kernel
theorem dL_law_1918 : decode cL_law 1918 = .ok (.goto 281, 3) := by decide +kernel
theorem dL_law_1921 : decode cL_law 1921 = .ok (.aload_n 1, 1) := by decide +kernel
theorem dL_law_1922 : decode cL_law 1922 = .ok (.aload_n 0, 1) := by decide +kernel
theorem dL_law_1923 : decode cL_law 1923 = .ok (.iload 4, 2) := by decide +kernel
theorem dL_law_1925 : decode cL_law 1925 = .ok (.iconst 1, 1) := by decide +kernel
theorem dL_law_1926 : decode cL_law 1926 = .ok (.iadd, 1) := by decide +kernel
theorem dL_law_1927 : decode cL_law 1927 = .ok (.iaload, 1) := by decide +kernel
theorem dL_law_1928 : decode cL_law 1928 = .ok (.aload_n 3, 1) := by decide +kernel
theorem dL_law_1929 : decode cL_law 1929 = .ok (.invokestatic 241, 3) := by decide +kernel
theorem dL_law_1932 : decode cL_law 1932 = .ok (.istore 5, 2) := by decide +kernel
theorem dL_law_1934 : decode cL_law 1934 = .ok (.aload_n 2, 1) := by decide +kernel
theorem dL_law_1935 : decode cL_law 1935 = .ok (.aload_n 0, 1) := by decide +kernel
theorem dL_law_1936 : decode cL_law 1936 = .ok (.iload 4, 2) := by decide +kernel
theorem dL_law_1938 : decode cL_law 1938 = .ok (.iconst 1, 1) := by decide +kernel
theorem dL_law_1939 : decode cL_law 1939 = .ok (.iadd, 1) := by decide +kernel
theorem dL_law_1940 : decode cL_law 1940 = .ok (.iaload, 1) := by decide +kernel
theorem dL_law_1941 : decode cL_law 1941 = .ok (.invokevirtual 243, 3) := by decide +kernel
theorem dL_law_1944 : decode cL_law 1944 = .ok (.istore 6, 2) := by decide +kernel
theorem dL_law_1946 : decode cL_law 1946 = .ok (.aload_n 2, 1) := by decide +kernel
theorem dL_law_1947 : decode cL_law 1947 = .ok (.invokevirtual 127, 3) := by decide +kernel
theorem dL_law_1950 : decode cL_law 1950 = .ok (.iload 5, 2) := by decide +kernel
theorem dL_law_1952 : decode cL_law 1952 = .ok (.if_icmp .eq 5, 3) := by decide +kernel
theorem dL_law_1957 : decode cL_law 1957 = .ok (.iload 5, 2) := by decide +kernel
theorem dL_law_1959 : decode cL_law 1959 = .ok (.ifCond .ne 15, 3) := by decide +kernel
theorem dL_law_1962 : decode cL_law 1962 = .ok (.aload_n 3, 1) := by decide +kernel
theorem dL_law_1963 : decode cL_law 1963 = .ok (.iconst 0, 1) := by decide +kernel
theorem dL_law_1964 : decode cL_law 1964 = .ok (.laload, 1) := by decide +kernel
theorem dL_law_1965 : decode cL_law 1965 = .ok (.iload 6, 2) := by decide +kernel
theorem dL_law_1967 : decode cL_law 1967 = .ok (.i2l, 1) := by decide +kernel
theorem dL_law_1968 : decode cL_law 1968 = .ok (.lcmp, 1) := by decide +kernel
theorem dL_law_1969 : decode cL_law 1969 = .ok (.ifCond .eq 5, 3) := by decide +kernel
theorem dL_law_1974 : decode cL_law 1974 = .ok (.goto 225, 3) := by decide +kernel
theorem dL_law_1977 : decode cL_law 1977 = .ok (.aload_n 1, 1) := by decide +kernel
theorem dL_law_1978 : decode cL_law 1978 = .ok (.aload_n 0, 1) := by decide +kernel
theorem dL_law_1979 : decode cL_law 1979 = .ok (.iload 4, 2) := by decide +kernel
theorem dL_law_1981 : decode cL_law 1981 = .ok (.iconst 1, 1) := by decide +kernel
theorem dL_law_1982 : decode cL_law 1982 = .ok (.iadd, 1) := by decide +kernel
theorem dL_law_1983 : decode cL_law 1983 = .ok (.iaload, 1) := by decide +kernel
theorem dL_law_1984 : decode cL_law 1984 = .ok (.aload_n 0, 1) := by decide +kernel
theorem dL_law_1985 : decode cL_law 1985 = .ok (.iload 4, 2) := by decide +kernel
theorem dL_law_1987 : decode cL_law 1987 = .ok (.iconst 2, 1) := by decide +kernel
theorem dL_law_1988 : decode cL_law 1988 = .ok (.iadd, 1) := by decide +kernel
theorem dL_law_1989 : decode cL_law 1989 = .ok (.iaload, 1) := by decide +kernel
theorem dL_law_1990 : decode cL_law 1990 = .ok (.aload_n 3, 1) := by decide +kernel
theorem dL_law_1991 : decode cL_law 1991 = .ok (.invokestatic 244, 3) := by decide +kernel
theorem dL_law_1994 : decode cL_law 1994 = .ok (.istore 5, 2) := by decide +kernel
theorem dL_law_1996 : decode cL_law 1996 = .ok (.aload_n 2, 1) := by decide +kernel
theorem dL_law_1997 : decode cL_law 1997 = .ok (.aload_n 0, 1) := by decide +kernel
theorem dL_law_1998 : decode cL_law 1998 = .ok (.iload 4, 2) := by decide +kernel
theorem dL_law_2000 : decode cL_law 2000 = .ok (.iconst 1, 1) := by decide +kernel
theorem dL_law_2001 : decode cL_law 2001 = .ok (.iadd, 1) := by decide +kernel
theorem dL_law_2002 : decode cL_law 2002 = .ok (.iaload, 1) := by decide +kernel
theorem dL_law_2003 : decode cL_law 2003 = .ok (.aload_n 0, 1) := by decide +kernel
theorem dL_law_2004 : decode cL_law 2004 = .ok (.iload 4, 2) := by decide +kernel
theorem dL_law_2006 : decode cL_law 2006 = .ok (.iconst 2, 1) := by decide +kernel
theorem dL_law_2007 : decode cL_law 2007 = .ok (.iadd, 1) := by decide +kernel
theorem dL_law_2008 : decode cL_law 2008 = .ok (.iaload, 1) := by decide +kernel
theorem dL_law_2009 : decode cL_law 2009 = .ok (.invokevirtual 246, 3) := by decide +kernel
theorem dL_law_2012 : decode cL_law 2012 = .ok (.istore 6, 2) := by decide +kernel
theorem dL_law_2014 : decode cL_law 2014 = .ok (.aload_n 2, 1) := by decide +kernel
theorem dL_law_2015 : decode cL_law 2015 = .ok (.invokevirtual 127, 3) := by decide +kernel
theorem dL_law_2018 : decode cL_law 2018 = .ok (.iload 5, 2) := by decide +kernel
theorem dL_law_2020 : decode cL_law 2020 = .ok (.if_icmp .eq 5, 3) := by decide +kernel
theorem dL_law_2025 : decode cL_law 2025 = .ok (.iload 5, 2) := by decide +kernel
theorem dL_law_2027 : decode cL_law 2027 = .ok (.ifCond .ne 15, 3) := by decide +kernel
theorem dL_law_2030 : decode cL_law 2030 = .ok (.aload_n 3, 1) := by decide +kernel
theorem dL_law_2031 : decode cL_law 2031 = .ok (.iconst 0, 1) := by decide +kernel
theorem dL_law_2032 : decode cL_law 2032 = .ok (.laload, 1) := by decide +kernel
theorem dL_law_2033 : decode cL_law 2033 = .ok (.iload 6, 2) := by decide +kernel
theorem dL_law_2035 : decode cL_law 2035 = .ok (.i2l, 1) := by decide +kernel
theorem dL_law_2036 : decode cL_law 2036 = .ok (.lcmp, 1) := by decide +kernel
theorem dL_law_2037 : decode cL_law 2037 = .ok (.ifCond .eq 5, 3) := by decide +kernel
theorem dL_law_2042 : decode cL_law 2042 = .ok (.goto 157, 3) := by decide +kernel
theorem dL_law_2045 : decode cL_law 2045 = .ok (.aload_n 1, 1) := by decide +kernel
theorem dL_law_2046 : decode cL_law 2046 = .ok (.invokevirtual 247, 3) := by decide +kernel
theorem dL_law_2049 : decode cL_law 2049 = .ok (.aload_n 2, 1) := by decide +kernel
theorem dL_law_2050 : decode cL_law 2050 = .ok (.invokevirtual 250, 3) := by decide +kernel
theorem dL_law_2053 : decode cL_law 2053 = .ok (.if_icmp .eq 146, 3) := by decide +kernel
theorem dL_law_2058 : decode cL_law 2058 = .ok (.aload_n 1, 1) := by decide +kernel
theorem dL_law_2059 : decode cL_law 2059 = .ok (.aload_n 0, 1) := by decide +kernel
theorem dL_law_2060 : decode cL_law 2060 = .ok (.iload 4, 2) := by decide +kernel
theorem dL_law_2062 : decode cL_law 2062 = .ok (.iconst 1, 1) := by decide +kernel
theorem dL_law_2063 : decode cL_law 2063 = .ok (.iadd, 1) := by decide +kernel
theorem dL_law_2064 : decode cL_law 2064 = .ok (.iaload, 1) := by decide +kernel
theorem dL_law_2065 : decode cL_law 2065 = .ok (.aload_n 3, 1) := by decide +kernel
theorem dL_law_2066 : decode cL_law 2066 = .ok (.invokestatic 251, 3) := by decide +kernel
theorem dL_law_2069 : decode cL_law 2069 = .ok (.istore 5, 2) := by decide +kernel
theorem dL_law_2071 : decode cL_law 2071 = .ok (.aload_n 2, 1) := by decide +kernel
theorem dL_law_2072 : decode cL_law 2072 = .ok (.aload_n 0, 1) := by decide +kernel
theorem dL_law_2073 : decode cL_law 2073 = .ok (.iload 4, 2) := by decide +kernel
theorem dL_law_2075 : decode cL_law 2075 = .ok (.iconst 1, 1) := by decide +kernel
theorem dL_law_2076 : decode cL_law 2076 = .ok (.iadd, 1) := by decide +kernel
theorem dL_law_2077 : decode cL_law 2077 = .ok (.iaload, 1) := by decide +kernel
theorem dL_law_2078 : decode cL_law 2078 = .ok (.invokevirtual 253, 3) := by decide +kernel
theorem dL_law_2081 : decode cL_law 2081 = .ok (.istore 6, 2) := by decide +kernel
theorem dL_law_2083 : decode cL_law 2083 = .ok (.aload_n 2, 1) := by decide +kernel
theorem dL_law_2084 : decode cL_law 2084 = .ok (.invokevirtual 127, 3) := by decide +kernel
theorem dL_law_2087 : decode cL_law 2087 = .ok (.iload 5, 2) := by decide +kernel
theorem dL_law_2089 : decode cL_law 2089 = .ok (.if_icmp .eq 5, 3) := by decide +kernel
theorem dL_law_2094 : decode cL_law 2094 = .ok (.iload 5, 2) := by decide +kernel
theorem dL_law_2096 : decode cL_law 2096 = .ok (.ifCond .ne 15, 3) := by decide +kernel
theorem dL_law_2099 : decode cL_law 2099 = .ok (.aload_n 3, 1) := by decide +kernel
theorem dL_law_2100 : decode cL_law 2100 = .ok (.iconst 0, 1) := by decide +kernel
theorem dL_law_2101 : decode cL_law 2101 = .ok (.laload, 1) := by decide +kernel
theorem dL_law_2102 : decode cL_law 2102 = .ok (.iload 6, 2) := by decide +kernel
theorem dL_law_2104 : decode cL_law 2104 = .ok (.i2l, 1) := by decide +kernel
theorem dL_law_2105 : decode cL_law 2105 = .ok (.lcmp, 1) := by decide +kernel
theorem dL_law_2106 : decode cL_law 2106 = .ok (.ifCond .eq 5, 3) := by decide +kernel
theorem dL_law_2111 : decode cL_law 2111 = .ok (.goto 88, 3) := by decide +kernel
theorem dL_law_2114 : decode cL_law 2114 = .ok (.aload_n 1, 1) := by decide +kernel
theorem dL_law_2115 : decode cL_law 2115 = .ok (.invokevirtual 254, 3) := by decide +kernel
theorem dL_law_2118 : decode cL_law 2118 = .ok (.aload_n 2, 1) := by decide +kernel
theorem dL_law_2119 : decode cL_law 2119 = .ok (.invokevirtual 257, 3) := by decide +kernel
theorem dL_law_2122 : decode cL_law 2122 = .ok (.if_icmp .eq 77, 3) := by decide +kernel
theorem dL_law_2127 : decode cL_law 2127 = .ok (.aload_n 1, 1) := by decide +kernel
theorem dL_law_2128 : decode cL_law 2128 = .ok (.aload_n 0, 1) := by decide +kernel
theorem dL_law_2129 : decode cL_law 2129 = .ok (.iload 4, 2) := by decide +kernel
theorem dL_law_2131 : decode cL_law 2131 = .ok (.iconst 1, 1) := by decide +kernel
theorem dL_law_2132 : decode cL_law 2132 = .ok (.iadd, 1) := by decide +kernel
theorem dL_law_2133 : decode cL_law 2133 = .ok (.iaload, 1) := by decide +kernel
theorem dL_law_2134 : decode cL_law 2134 = .ok (.invokestatic 258, 3) := by decide +kernel
theorem dL_law_2137 : decode cL_law 2137 = .ok (.istore 5, 2) := by decide +kernel
theorem dL_law_2139 : decode cL_law 2139 = .ok (.aload_n 2, 1) := by decide +kernel
theorem dL_law_2140 : decode cL_law 2140 = .ok (.aload_n 0, 1) := by decide +kernel
theorem dL_law_2141 : decode cL_law 2141 = .ok (.iload 4, 2) := by decide +kernel
theorem dL_law_2143 : decode cL_law 2143 = .ok (.iconst 1, 1) := by decide +kernel
theorem dL_law_2144 : decode cL_law 2144 = .ok (.iadd, 1) := by decide +kernel
theorem dL_law_2145 : decode cL_law 2145 = .ok (.iaload, 1) := by decide +kernel
theorem dL_law_2146 : decode cL_law 2146 = .ok (.invokevirtual 261, 3) := by decide +kernel
theorem dL_law_2149 : decode cL_law 2149 = .ok (.aload_n 2, 1) := by decide +kernel
theorem dL_law_2150 : decode cL_law 2150 = .ok (.invokevirtual 127, 3) := by decide +kernel
theorem dL_law_2153 : decode cL_law 2153 = .ok (.iload 5, 2) := by decide +kernel
theorem dL_law_2155 : decode cL_law 2155 = .ok (.if_icmp .eq 5, 3) := by decide +kernel
theorem dL_law_2160 : decode cL_law 2160 = .ok (.goto 39, 3) := by decide +kernel
theorem dL_law_2163 : decode cL_law 2163 = .ok (.aload_n 1, 1) := by decide +kernel
theorem dL_law_2164 : decode cL_law 2164 = .ok (.aload_n 0, 1) := by decide +kernel
theorem dL_law_2165 : decode cL_law 2165 = .ok (.iload 4, 2) := by decide +kernel
theorem dL_law_2167 : decode cL_law 2167 = .ok (.iconst 1, 1) := by decide +kernel
theorem dL_law_2168 : decode cL_law 2168 = .ok (.iadd, 1) := by decide +kernel
theorem dL_law_2169 : decode cL_law 2169 = .ok (.iaload, 1) := by decide +kernel
theorem dL_law_2170 : decode cL_law 2170 = .ok (.invokestatic 262, 3) := by decide +kernel
theorem dL_law_2173 : decode cL_law 2173 = .ok (.istore 5, 2) := by decide +kernel
theorem dL_law_2175 : decode cL_law 2175 = .ok (.aload_n 2, 1) := by decide +kernel
theorem dL_law_2176 : decode cL_law 2176 = .ok (.aload_n 0, 1) := by decide +kernel
theorem dL_law_2177 : decode cL_law 2177 = .ok (.iload 4, 2) := by decide +kernel
theorem dL_law_2179 : decode cL_law 2179 = .ok (.iconst 1, 1) := by decide +kernel
theorem dL_law_2180 : decode cL_law 2180 = .ok (.iadd, 1) := by decide +kernel
theorem dL_law_2181 : decode cL_law 2181 = .ok (.iaload, 1) := by decide +kernel
theorem dL_law_2182 : decode cL_law 2182 = .ok (.invokevirtual 264, 3) := by decide +kernel
theorem dL_law_2185 : decode cL_law 2185 = .ok (.aload_n 2, 1) := by decide +kernel
theorem dL_law_2186 : decode cL_law 2186 = .ok (.invokevirtual 127, 3) := by decide +kernel
theorem dL_law_2189 : decode cL_law 2189 = .ok (.iload 5, 2) := by decide +kernel
theorem dL_law_2191 : decode cL_law 2191 = .ok (.if_icmp .eq 5, 3) := by decide +kernel
theorem dL_law_2196 : decode cL_law 2196 = .ok (.goto 3, 3) := by decide +kernel
theorem dL_lift_0 : decode cL_lift 0 = .ok (.aload_n 2, 1) := by decide +kernel
theorem dL_lift_1 : decode cL_lift 1 = .ok (.iconst 0, 1) := by decide +kernel
theorem dL_lift_2 : decode cL_lift 2 = .ok (.aload_n 0, 1) := by decide +kernel
theorem dL_lift_3 : decode cL_lift 3 = .ok (.iload_n 1, 1) := by decide +kernel
theorem dL_lift_4 : decode cL_lift 4 = .ok (.invokevirtual 70, 3) := by decide +kernel
theorem dL_lift_11 : decode cL_lift 11 = .ok (.astore_n 3, 1) := by decide +kernel
theorem dL_lift_12 : decode cL_lift 12 = .ok (.iconst 1, 1) := by decide +kernel
theorem dL_lift_13 : decode cL_lift 13 = .ok (.ireturn, 1) := by decide +kernel
theorem dL_lift_14 : decode cL_lift 14 = .ok (.astore_n 3, 1) := by decide +kernel
theorem dL_lift_15 : decode cL_lift 15 = .ok (.iconst 2, 1) := by decide +kernel
theorem dL_lift_16 : decode cL_lift 16 = .ok (.ireturn, 1) := by decide +kernel
theorem dL_load_0 : decode cL_load 0 = .ok (.aload_n 1, 1) := by decide +kernel
theorem dL_load_1 : decode cL_load 1 = .ok (.iconst 0, 1) := by decide +kernel
theorem dL_load_2 : decode cL_load 2 = .ok (.aload_n 0, 1) := by decide +kernel
theorem dL_load_3 : decode cL_load 3 = .ok (.invokevirtual 15, 3) := by decide +kernel
theorem dL_load_11 : decode cL_load 11 = .ok (.astore_n 2, 1) := by decide +kernel
theorem dL_load_12 : decode cL_load 12 = .ok (.iconst 1, 1) := by decide +kernel
theorem dL_load_13 : decode cL_load 13 = .ok (.ireturn, 1) := by decide +kernel
theorem dL_mean_0 : decode cL_mean 0 = .ok (.aload_n 2, 1) := by decide +kernel
theorem dL_mean_1 : decode cL_mean 1 = .ok (.iconst 0, 1) := by decide +kernel
theorem dL_mean_2 : decode cL_mean 2 = .ok (.aload_n 0, 1) := by decide +kernel
theorem dL_mean_3 : decode cL_mean 3 = .ok (.iload_n 1, 1) := by decide +kernel
theorem dL_mean_4 : decode cL_mean 4 = .ok (.invokevirtual 42, 3) := by decide +kernel
theorem dL_mean_7 : decode cL_mean 7 = .ok (.lastore, 1) := by decide +kernel
theorem dL_mean_8 : decode cL_mean 8 = .ok (.goto 6, 3) := by decide +kernel
theorem dL_mean_11 : decode cL_mean 11 = .ok (.astore_n 3, 1) := by decide +kernel
theorem dL_mean_12 : decode cL_mean 12 = .ok (.iconst 1, 1) := by decide +kernel
theorem dL_mean_13 : decode cL_mean 13 = .ok (.ireturn, 1) := by decide +kernel
theorem dL_mean_14 : decode cL_mean 14 = .ok (.iconst 0, 1) := by decide +kernel
theorem dL_mean_15 : decode cL_mean 15 = .ok (.ireturn, 1) := by decide +kernel
theorem dL_neighbour_0 : decode cL_neighbour 0 = .ok (.aload_n 3, 1) := by decide +kernel
theorem dL_neighbour_1 : decode cL_neighbour 1 = .ok (.iconst 0, 1) := by decide +kernel
theorem dL_neighbour_2 : decode cL_neighbour 2 = .ok (.aload_n 0, 1) := by decide +kernel
theorem dL_neighbour_3 : decode cL_neighbour 3 = .ok (.iload_n 1, 1) := by decide +kernel
theorem dL_neighbour_4 : decode cL_neighbour 4 = .ok (.iload_n 2, 1) := by decide +kernel
theorem dL_neighbour_5 : decode cL_neighbour 5 = .ok (.invokevirtual 31, 3) := by decide +kernel
theorem dL_neighbour_8 : decode cL_neighbour 8 = .ok (.i2l, 1) := by decide +kernel
theorem dL_neighbour_9 : decode cL_neighbour 9 = .ok (.lastore, 1) := by decide +kernel
theorem dL_neighbour_10 : decode cL_neighbour 10 = .ok (.goto 7, 3) := by decide +kernel
theorem dL_neighbour_13 : decode cL_neighbour 13 = .ok (.astore 4, 2) := by decide +kernel
theorem dL_neighbour_15 : decode cL_neighbour 15 = .ok (.iconst 1, 1) := by decide +kernel
theorem dL_neighbour_16 : decode cL_neighbour 16 = .ok (.ireturn, 1) := by decide +kernel
theorem dL_neighbour_17 : decode cL_neighbour 17 = .ok (.iconst 0, 1) := by decide +kernel
theorem dL_neighbour_18 : decode cL_neighbour 18 = .ok (.ireturn, 1) := by decide +kernel
theorem dL_next_0 : decode cL_next 0 = .ok (.aload_n 1, 1) := by decide +kernel
theorem dL_next_1 : decode cL_next 1 = .ok (.iconst 0, 1) := by decide +kernel
theorem dL_next_2 : decode cL_next 2 = .ok (.aload_n 0, 1) := by decide +kernel
theorem dL_next_3 : decode cL_next 3 = .ok (.invokevirtual 48, 3) := by decide +kernel
theorem dL_next_11 : decode cL_next 11 = .ok (.astore_n 2, 1) := by decide +kernel
theorem dL_next_12 : decode cL_next 12 = .ok (.iconst 1, 1) := by decide +kernel
theorem dL_next_13 : decode cL_next 13 = .ok (.ireturn, 1) := by decide +kernel
theorem dL_noise_0 : decode cL_noise 0 = .ok (.aload_n 3, 1) := by decide +kernel
theorem dL_noise_1 : decode cL_noise 1 = .ok (.iconst 0, 1) := by decide +kernel
theorem dL_noise_2 : decode cL_noise 2 = .ok (.aload_n 0, 1) := by decide +kernel
theorem dL_noise_3 : decode cL_noise 3 = .ok (.iload_n 1, 1) := by decide +kernel
theorem dL_noise_4 : decode cL_noise 4 = .ok (.iload_n 2, 1) := by decide +kernel
theorem dL_noise_5 : decode cL_noise 5 = .ok (.invokevirtual 64, 3) := by decide +kernel
theorem dL_noise_12 : decode cL_noise 12 = .ok (.astore 4, 2) := by decide +kernel
theorem dL_noise_14 : decode cL_noise 14 = .ok (.iconst 1, 1) := by decide +kernel
theorem dL_noise_15 : decode cL_noise 15 = .ok (.ireturn, 1) := by decide +kernel
theorem dL_present_0 : decode cL_present 0 = .ok (.aload_n 2, 1) := by decide +kernel
theorem dL_present_1 : decode cL_present 1 = .ok (.iconst 0, 1) := by decide +kernel
theorem dL_present_2 : decode cL_present 2 = .ok (.aload_n 0, 1) := by decide +kernel
theorem dL_present_3 : decode cL_present 3 = .ok (.iload_n 1, 1) := by decide +kernel
theorem dL_present_4 : decode cL_present 4 = .ok (.invokevirtual 28, 3) := by decide +kernel
theorem dL_present_7 : decode cL_present 7 = .ok (.i2l, 1) := by decide +kernel
theorem dL_present_8 : decode cL_present 8 = .ok (.lastore, 1) := by decide +kernel
theorem dL_present_9 : decode cL_present 9 = .ok (.goto 6, 3) := by decide +kernel
theorem dL_present_12 : decode cL_present 12 = .ok (.astore_n 3, 1) := by decide +kernel
theorem dL_present_13 : decode cL_present 13 = .ok (.iconst 1, 1) := by decide +kernel
theorem dL_present_14 : decode cL_present 14 = .ok (.ireturn, 1) := by decide +kernel
theorem dL_present_15 : decode cL_present 15 = .ok (.iconst 0, 1) := by decide +kernel
theorem dL_present_16 : decode cL_present 16 = .ok (.ireturn, 1) := by decide +kernel
theorem dL_quantize_0 : decode cL_quantize 0 = .ok (.aload_n 2, 1) := by decide +kernel
theorem dL_quantize_1 : decode cL_quantize 1 = .ok (.iconst 0, 1) := by decide +kernel
theorem dL_quantize_2 : decode cL_quantize 2 = .ok (.aload_n 0, 1) := by decide +kernel
theorem dL_quantize_3 : decode cL_quantize 3 = .ok (.iload_n 1, 1) := by decide +kernel
theorem dL_quantize_4 : decode cL_quantize 4 = .ok (.invokevirtual 82, 3) := by decide +kernel
theorem dL_quantize_7 : decode cL_quantize 7 = .ok (.lastore, 1) := by decide +kernel
theorem dL_quantize_8 : decode cL_quantize 8 = .ok (.goto 6, 3) := by decide +kernel
theorem dL_quantize_11 : decode cL_quantize 11 = .ok (.astore_n 3, 1) := by decide +kernel
theorem dL_quantize_12 : decode cL_quantize 12 = .ok (.iconst 1, 1) := by decide +kernel
theorem dL_quantize_13 : decode cL_quantize 13 = .ok (.ireturn, 1) := by decide +kernel
theorem dL_quantize_14 : decode cL_quantize 14 = .ok (.iconst 0, 1) := by decide +kernel
theorem dL_quantize_15 : decode cL_quantize 15 = .ok (.ireturn, 1) := by decide +kernel
theorem dL_reason_0 : decode cL_reason 0 = .ok (.aload_n 2, 1) := by decide +kernel
theorem dL_reason_1 : decode cL_reason 1 = .ok (.iconst 0, 1) := by decide +kernel
theorem dL_reason_2 : decode cL_reason 2 = .ok (.aload_n 0, 1) := by decide +kernel
theorem dL_reason_3 : decode cL_reason 3 = .ok (.iload_n 1, 1) := by decide +kernel
theorem dL_reason_4 : decode cL_reason 4 = .ok (.invokevirtual 102, 3) := by decide +kernel
theorem dL_reason_7 : decode cL_reason 7 = .ok (.i2l, 1) := by decide +kernel
theorem dL_reason_8 : decode cL_reason 8 = .ok (.lastore, 1) := by decide +kernel
theorem dL_reason_9 : decode cL_reason 9 = .ok (.goto 6, 3) := by decide +kernel
theorem dL_reason_12 : decode cL_reason 12 = .ok (.astore_n 3, 1) := by decide +kernel
theorem dL_reason_13 : decode cL_reason 13 = .ok (.iconst 1, 1) := by decide +kernel
theorem dL_reason_14 : decode cL_reason 14 = .ok (.ireturn, 1) := by decide +kernel
theorem dL_reason_15 : decode cL_reason 15 = .ok (.iconst 0, 1) := by decide +kernel
theorem dL_reason_16 : decode cL_reason 16 = .ok (.ireturn, 1) := by decide +kernel
theorem dL_restore_0 : decode cL_restore 0 = .ok (.aload_n 0, 1) := by decide +kernel
theorem dL_restore_1 : decode cL_restore 1 = .ok (.iload_n 1, 1) := by decide +kernel
theorem dL_restore_2 : decode cL_restore 2 = .ok (.invokevirtual 109, 3) := by decide +kernel
theorem dL_restore_8 : decode cL_restore 8 = .ok (.astore_n 2, 1) := by decide +kernel
theorem dL_restore_9 : decode cL_restore 9 = .ok (.iconst 1, 1) := by decide +kernel
theorem dL_restore_10 : decode cL_restore 10 = .ok (.ireturn, 1) := by decide +kernel
theorem dL_restore_11 : decode cL_restore 11 = .ok (.astore_n 2, 1) := by decide +kernel
theorem dL_restore_12 : decode cL_restore 12 = .ok (.iconst 2, 1) := by decide +kernel
theorem dL_restore_13 : decode cL_restore 13 = .ok (.ireturn, 1) := by decide +kernel
theorem dL_sample_0 : decode cL_sample 0 = .ok (.aload_n 3, 1) := by decide +kernel
theorem dL_sample_1 : decode cL_sample 1 = .ok (.iconst 0, 1) := by decide +kernel
theorem dL_sample_2 : decode cL_sample 2 = .ok (.aload_n 0, 1) := by decide +kernel
theorem dL_sample_3 : decode cL_sample 3 = .ok (.iload_n 1, 1) := by decide +kernel
theorem dL_sample_4 : decode cL_sample 4 = .ok (.iload_n 2, 1) := by decide +kernel
theorem dL_sample_5 : decode cL_sample 5 = .ok (.invokevirtual 24, 3) := by decide +kernel
theorem dL_sample_8 : decode cL_sample 8 = .ok (.lastore, 1) := by decide +kernel
theorem dL_sample_9 : decode cL_sample 9 = .ok (.goto 11, 3) := by decide +kernel
theorem dL_sample_12 : decode cL_sample 12 = .ok (.astore 4, 2) := by decide +kernel
theorem dL_sample_14 : decode cL_sample 14 = .ok (.iconst 1, 1) := by decide +kernel
theorem dL_sample_15 : decode cL_sample 15 = .ok (.ireturn, 1) := by decide +kernel
theorem dL_sample_16 : decode cL_sample 16 = .ok (.astore 4, 2) := by decide +kernel
theorem dL_sample_18 : decode cL_sample 18 = .ok (.iconst 2, 1) := by decide +kernel
theorem dL_sample_19 : decode cL_sample 19 = .ok (.ireturn, 1) := by decide +kernel
theorem dL_sample_20 : decode cL_sample 20 = .ok (.iconst 0, 1) := by decide +kernel
theorem dL_sample_21 : decode cL_sample 21 = .ok (.ireturn, 1) := by decide +kernel
theorem dL_save_0 : decode cL_save 0 = .ok (.aload_n 0, 1) := by decide +kernel
theorem dL_save_1 : decode cL_save 1 = .ok (.iload_n 1, 1) := by decide +kernel
theorem dL_save_2 : decode cL_save 2 = .ok (.invokevirtual 105, 3) := by decide +kernel
theorem dL_save_5 : decode cL_save 5 = .ok (.goto 6, 3) := by decide +kernel
theorem dL_save_8 : decode cL_save 8 = .ok (.astore_n 2, 1) := by decide +kernel
theorem dL_save_9 : decode cL_save 9 = .ok (.iconst 1, 1) := by decide +kernel
theorem dL_save_10 : decode cL_save 10 = .ok (.ireturn, 1) := by decide +kernel
theorem dL_save_11 : decode cL_save 11 = .ok (.iconst 0, 1) := by decide +kernel
theorem dL_save_12 : decode cL_save 12 = .ok (.ireturn, 1) := by decide +kernel
theorem dL_set_0 : decode cL_set 0 = .ok (.aload_n 3, 1) := by decide +kernel
theorem dL_set_1 : decode cL_set 1 = .ok (.iconst 0, 1) := by decide +kernel
theorem dL_set_2 : decode cL_set 2 = .ok (.aload_n 0, 1) := by decide +kernel
theorem dL_set_3 : decode cL_set 3 = .ok (.iload_n 1, 1) := by decide +kernel
theorem dL_set_4 : decode cL_set 4 = .ok (.iload_n 2, 1) := by decide +kernel
theorem dL_set_5 : decode cL_set 5 = .ok (.invokevirtual 59, 3) := by decide +kernel
theorem dL_set_8 : decode cL_set 8 = .ok (.lastore, 1) := by decide +kernel
theorem dL_set_9 : decode cL_set 9 = .ok (.goto 15, 3) := by decide +kernel
theorem dL_set_12 : decode cL_set 12 = .ok (.astore 4, 2) := by decide +kernel
theorem dL_set_14 : decode cL_set 14 = .ok (.iconst 1, 1) := by decide +kernel
theorem dL_set_15 : decode cL_set 15 = .ok (.ireturn, 1) := by decide +kernel
theorem dL_set_16 : decode cL_set 16 = .ok (.astore 4, 2) := by decide +kernel
theorem dL_set_18 : decode cL_set 18 = .ok (.iconst 2, 1) := by decide +kernel
theorem dL_set_19 : decode cL_set 19 = .ok (.ireturn, 1) := by decide +kernel
theorem dL_set_24 : decode cL_set 24 = .ok (.iconst 0, 1) := by decide +kernel
theorem dL_set_25 : decode cL_set 25 = .ok (.ireturn, 1) := by decide +kernel
theorem dL_setDetail_0 : decode cL_setDetail 0 = .ok (.aload_n 3, 1) := by decide +kernel
theorem dL_setDetail_1 : decode cL_setDetail 1 = .ok (.iconst 0, 1) := by decide +kernel
theorem dL_setDetail_2 : decode cL_setDetail 2 = .ok (.aload_n 0, 1) := by decide +kernel
theorem dL_setDetail_3 : decode cL_setDetail 3 = .ok (.iload_n 1, 1) := by decide +kernel
theorem dL_setDetail_4 : decode cL_setDetail 4 = .ok (.iload_n 2, 1) := by decide +kernel
theorem dL_setDetail_5 : decode cL_setDetail 5 = .ok (.invokevirtual 76, 3) := by decide +kernel
theorem dL_setDetail_12 : decode cL_setDetail 12 = .ok (.astore 4, 2) := by decide +kernel
theorem dL_setDetail_14 : decode cL_setDetail 14 = .ok (.iconst 1, 1) := by decide +kernel
theorem dL_setDetail_15 : decode cL_setDetail 15 = .ok (.ireturn, 1) := by decide +kernel
theorem dL_setPredict_0 : decode cL_setPredict 0 = .ok (.aload_n 2, 1) := by decide +kernel
theorem dL_setPredict_1 : decode cL_setPredict 1 = .ok (.iconst 0, 1) := by decide +kernel
theorem dL_setPredict_2 : decode cL_setPredict 2 = .ok (.aload_n 0, 1) := by decide +kernel
theorem dL_setPredict_3 : decode cL_setPredict 3 = .ok (.iload_n 1, 1) := by decide +kernel
theorem dL_setPredict_4 : decode cL_setPredict 4 = .ok (.invokevirtual 56, 3) := by decide +kernel
theorem dL_setPredict_7 : decode cL_setPredict 7 = .ok (.i2l, 1) := by decide +kernel
theorem dL_setPredict_8 : decode cL_setPredict 8 = .ok (.lastore, 1) := by decide +kernel
theorem dL_setPredict_9 : decode cL_setPredict 9 = .ok (.goto 6, 3) := by decide +kernel
theorem dL_setPredict_12 : decode cL_setPredict 12 = .ok (.astore_n 3, 1) := by decide +kernel
theorem dL_setPredict_13 : decode cL_setPredict 13 = .ok (.iconst 1, 1) := by decide +kernel
theorem dL_setPredict_14 : decode cL_setPredict 14 = .ok (.ireturn, 1) := by decide +kernel
theorem dL_setPredict_15 : decode cL_setPredict 15 = .ok (.iconst 0, 1) := by decide +kernel
theorem dL_setPredict_16 : decode cL_setPredict 16 = .ok (.ireturn, 1) := by decide +kernel
theorem dL_setSplit_0 : decode cL_setSplit 0 = .ok (.aload_n 2, 1) := by decide +kernel
theorem dL_setSplit_1 : decode cL_setSplit 1 = .ok (.iconst 0, 1) := by decide +kernel
theorem dL_setSplit_2 : decode cL_setSplit 2 = .ok (.aload_n 0, 1) := by decide +kernel
theorem dL_setSplit_3 : decode cL_setSplit 3 = .ok (.iload_n 1, 1) := by decide +kernel
theorem dL_setSplit_4 : decode cL_setSplit 4 = .ok (.invokevirtual 53, 3) := by decide +kernel
theorem dL_setSplit_7 : decode cL_setSplit 7 = .ok (.i2l, 1) := by decide +kernel
theorem dL_setSplit_8 : decode cL_setSplit 8 = .ok (.lastore, 1) := by decide +kernel
theorem dL_setSplit_9 : decode cL_setSplit 9 = .ok (.goto 6, 3) := by decide +kernel
theorem dL_setSplit_12 : decode cL_setSplit 12 = .ok (.astore_n 3, 1) := by decide +kernel
theorem dL_setSplit_13 : decode cL_setSplit 13 = .ok (.iconst 1, 1) := by decide +kernel
theorem dL_setSplit_14 : decode cL_setSplit 14 = .ok (.ireturn, 1) := by decide +kernel
theorem dL_setSplit_15 : decode cL_setSplit 15 = .ok (.iconst 0, 1) := by decide +kernel
theorem dL_setSplit_16 : decode cL_setSplit 16 = .ok (.ireturn, 1) := by decide +kernel
theorem dL_step_0 : decode cL_step 0 = .ok (.aload_n 3, 1) := by decide +kernel
theorem dL_step_1 : decode cL_step 1 = .ok (.iconst 0, 1) := by decide +kernel
theorem dL_step_2 : decode cL_step 2 = .ok (.aload_n 0, 1) := by decide +kernel
theorem dL_step_3 : decode cL_step 3 = .ok (.iload_n 1, 1) := by decide +kernel
theorem dL_step_4 : decode cL_step 4 = .ok (.iload_n 2, 1) := by decide +kernel
theorem dL_step_5 : decode cL_step 5 = .ok (.invokevirtual 35, 3) := by decide +kernel
theorem dL_step_12 : decode cL_step 12 = .ok (.astore 4, 2) := by decide +kernel
theorem dL_step_14 : decode cL_step 14 = .ok (.iconst 1, 1) := by decide +kernel
theorem dL_step_15 : decode cL_step 15 = .ok (.ireturn, 1) := by decide +kernel
theorem dL_threshold_0 : decode cL_threshold 0 = .ok (.aload_n 3, 1) := by decide +kernel
theorem dL_threshold_1 : decode cL_threshold 1 = .ok (.iconst 0, 1) := by decide +kernel
theorem dL_threshold_2 : decode cL_threshold 2 = .ok (.aload_n 0, 1) := by decide +kernel
theorem dL_threshold_3 : decode cL_threshold 3 = .ok (.iload_n 1, 1) := by decide +kernel
theorem dL_threshold_4 : decode cL_threshold 4 = .ok (.iload_n 2, 1) := by decide +kernel
theorem dL_threshold_5 : decode cL_threshold 5 = .ok (.invokevirtual 79, 3) := by decide +kernel
theorem dL_threshold_8 : decode cL_threshold 8 = .ok (.i2l, 1) := by decide +kernel
theorem dL_threshold_9 : decode cL_threshold 9 = .ok (.lastore, 1) := by decide +kernel
theorem dL_threshold_10 : decode cL_threshold 10 = .ok (.goto 7, 3) := by decide +kernel
theorem dL_threshold_13 : decode cL_threshold 13 = .ok (.astore 4, 2) := by decide +kernel
theorem dL_threshold_15 : decode cL_threshold 15 = .ok (.iconst 1, 1) := by decide +kernel
theorem dL_threshold_16 : decode cL_threshold 16 = .ok (.ireturn, 1) := by decide +kernel
theorem dL_threshold_17 : decode cL_threshold 17 = .ok (.iconst 0, 1) := by decide +kernel
theorem dL_threshold_18 : decode cL_threshold 18 = .ok (.ireturn, 1) := by decide +kernel
theorem dL_truncate_0 : decode cL_truncate 0 = .ok (.aload_n 2, 1) := by decide +kernel
theorem dL_truncate_1 : decode cL_truncate 1 = .ok (.iconst 0, 1) := by decide +kernel
theorem dL_truncate_2 : decode cL_truncate 2 = .ok (.aload_n 0, 1) := by decide +kernel
theorem dL_truncate_3 : decode cL_truncate 3 = .ok (.iload_n 1, 1) := by decide +kernel
theorem dL_truncate_4 : decode cL_truncate 4 = .ok (.invokevirtual 7, 3) := by decide +kernel
theorem dL_truncate_7 : decode cL_truncate 7 = .ok (.i2l, 1) := by decide +kernel
theorem dL_truncate_8 : decode cL_truncate 8 = .ok (.lastore, 1) := by decide +kernel
theorem dL_truncate_9 : decode cL_truncate 9 = .ok (.goto 6, 3) := by decide +kernel
theorem dL_truncate_12 : decode cL_truncate 12 = .ok (.astore_n 3, 1) := by decide +kernel
theorem dL_truncate_13 : decode cL_truncate 13 = .ok (.iconst 1, 1) := by decide +kernel
theorem dL_truncate_14 : decode cL_truncate 14 = .ok (.ireturn, 1) := by decide +kernel
theorem dL_truncate_15 : decode cL_truncate 15 = .ok (.iconst 0, 1) := by decide +kernel
theorem dL_truncate_16 : decode cL_truncate 16 = .ok (.ireturn, 1) := by decide +kernel
theorem dL_valueAt_0 : decode cL_valueAt 0 = .ok (.aload_n 2, 1) := by decide +kernel
theorem dL_valueAt_1 : decode cL_valueAt 1 = .ok (.iconst 0, 1) := by decide +kernel
theorem dL_valueAt_2 : decode cL_valueAt 2 = .ok (.aload_n 0, 1) := by decide +kernel
theorem dL_valueAt_3 : decode cL_valueAt 3 = .ok (.iload_n 1, 1) := by decide +kernel
theorem dL_valueAt_4 : decode cL_valueAt 4 = .ok (.invokevirtual 38, 3) := by decide +kernel
theorem dL_valueAt_7 : decode cL_valueAt 7 = .ok (.lastore, 1) := by decide +kernel
theorem dL_valueAt_8 : decode cL_valueAt 8 = .ok (.goto 6, 3) := by decide +kernel
theorem dL_valueAt_11 : decode cL_valueAt 11 = .ok (.astore_n 3, 1) := by decide +kernel
theorem dL_valueAt_12 : decode cL_valueAt 12 = .ok (.iconst 1, 1) := by decide +kernel
theorem dL_valueAt_13 : decode cL_valueAt 13 = .ok (.ireturn, 1) := by decide +kernel
theorem dL_valueAt_14 : decode cL_valueAt 14 = .ok (.iconst 0, 1) := by decide +kernel
theorem dL_valueAt_15 : decode cL_valueAt 15 = .ok (.ireturn, 1) := by decide +kernel
theorem dX0_addSample_0 : decode cX0_addSample 0 = .ok (.aload_n 0, 1) := by decide +kernel
theorem dX0_addSample_1 : decode cX0_addSample 1 = .ok (.getfield 18, 3) := by decide +kernel
theorem dX0_addSample_4 : decode cX0_addSample 4 = .ok (.bipush 48, 2) := by decide +kernel
theorem dX0_addSample_6 : decode cX0_addSample 6 = .ok (.if_icmp .ge 33, 3) := by decide +kernel
theorem dX0_addSample_9 : decode cX0_addSample 9 = .ok (.aload_n 0, 1) := by decide +kernel
theorem dX0_addSample_10 : decode cX0_addSample 10 = .ok (.getfield 9, 3) := by decide +kernel
theorem dX0_addSample_13 : decode cX0_addSample 13 = .ok (.aload_n 0, 1) := by decide +kernel
theorem dX0_addSample_14 : decode cX0_addSample 14 = .ok (.getfield 18, 3) := by decide +kernel
theorem dX0_addSample_17 : decode cX0_addSample 17 = .ok (.iload_n 1, 1) := by decide +kernel
theorem dX0_addSample_18 : decode cX0_addSample 18 = .ok (.iastore, 1) := by decide +kernel
theorem dX0_addSample_19 : decode cX0_addSample 19 = .ok (.aload_n 0, 1) := by decide +kernel
theorem dX0_addSample_20 : decode cX0_addSample 20 = .ok (.getfield 15, 3) := by decide +kernel
theorem dX0_addSample_23 : decode cX0_addSample 23 = .ok (.aload_n 0, 1) := by decide +kernel
theorem dX0_addSample_24 : decode cX0_addSample 24 = .ok (.getfield 18, 3) := by decide +kernel
theorem dX0_addSample_27 : decode cX0_addSample 27 = .ok (.iload_n 2, 1) := by decide +kernel
theorem dX0_addSample_28 : decode cX0_addSample 28 = .ok (.iastore, 1) := by decide +kernel
theorem dX0_addSample_29 : decode cX0_addSample 29 = .ok (.aload_n 0, 1) := by decide +kernel
theorem dX0_addSample_30 : decode cX0_addSample 30 = .ok (.dup, 1) := by decide +kernel
theorem dX0_addSample_31 : decode cX0_addSample 31 = .ok (.getfield 18, 3) := by decide +kernel
theorem dX0_addSample_34 : decode cX0_addSample 34 = .ok (.iconst 1, 1) := by decide +kernel
theorem dX0_addSample_35 : decode cX0_addSample 35 = .ok (.iadd, 1) := by decide +kernel
theorem dX0_addSample_36 : decode cX0_addSample 36 = .ok (.putfield 18, 3) := by decide +kernel
theorem dX0_addSample_39 : decode cX0_addSample 39 = .ok (.return_, 1) := by decide +kernel
theorem dX0_clear_0 : decode cX0_clear 0 = .ok (.aload_n 0, 1) := by decide +kernel
theorem dX0_clear_1 : decode cX0_clear 1 = .ok (.iconst 0, 1) := by decide +kernel
theorem dX0_clear_2 : decode cX0_clear 2 = .ok (.putfield 18, 3) := by decide +kernel
theorem dX0_clear_5 : decode cX0_clear 5 = .ok (.aload_n 0, 1) := by decide +kernel
theorem dX0_clear_6 : decode cX0_clear 6 = .ok (.iconst 0, 1) := by decide +kernel
theorem dX0_clear_7 : decode cX0_clear 7 = .ok (.putfield 22, 3) := by decide +kernel
theorem dX0_clear_10 : decode cX0_clear 10 = .ok (.aload_n 0, 1) := by decide +kernel
theorem dX0_clear_11 : decode cX0_clear 11 = .ok (.iconst 2, 1) := by decide +kernel
theorem dX0_clear_12 : decode cX0_clear 12 = .ok (.putfield 25, 3) := by decide +kernel
theorem dX0_clear_15 : decode cX0_clear 15 = .ok (.aload_n 0, 1) := by decide +kernel
theorem dX0_clear_16 : decode cX0_clear 16 = .ok (.iconst 1, 1) := by decide +kernel
theorem dX0_clear_17 : decode cX0_clear 17 = .ok (.putfield 28, 3) := by decide +kernel
theorem dX0_clear_20 : decode cX0_clear 20 = .ok (.aload_n 0, 1) := by decide +kernel
theorem dX0_clear_21 : decode cX0_clear 21 = .ok (.iconst 2, 1) := by decide +kernel
theorem dX0_clear_22 : decode cX0_clear 22 = .ok (.putfield 32, 3) := by decide +kernel
theorem dX0_clear_25 : decode cX0_clear 25 = .ok (.return_, 1) := by decide +kernel
theorem dX0_firstWeight_0 : decode cX0_firstWeight 0 = .ok (.iload_n 1, 1) := by decide +kernel
theorem dX0_firstWeight_1 : decode cX0_firstWeight 1 = .ok (.ifCond .le 9, 3) := by decide +kernel
theorem dX0_firstWeight_4 : decode cX0_firstWeight 4 = .ok (.iload_n 1, 1) := by decide +kernel
theorem dX0_firstWeight_5 : decode cX0_firstWeight 5 = .ok (.iconst 1, 1) := by decide +kernel
theorem dX0_firstWeight_6 : decode cX0_firstWeight 6 = .ok (.isub, 1) := by decide +kernel
theorem dX0_firstWeight_7 : decode cX0_firstWeight 7 = .ok (.goto 4, 3) := by decide +kernel
theorem dX0_firstWeight_10 : decode cX0_firstWeight 10 = .ok (.iconst 0, 1) := by decide +kernel
theorem dX0_firstWeight_11 : decode cX0_firstWeight 11 = .ok (.istore_n 2, 1) := by decide +kernel
theorem dX0_firstWeight_12 : decode cX0_firstWeight 12 = .ok (.iload_n 1, 1) := by decide +kernel
theorem dX0_firstWeight_13 : decode cX0_firstWeight 13 = .ok (.aload_n 0, 1) := by decide +kernel
theorem dX0_firstWeight_14 : decode cX0_firstWeight 14 = .ok (.getfield 18, 3) := by decide +kernel
theorem dX0_firstWeight_17 : decode cX0_firstWeight 17 = .ok (.iconst 1, 1) := by decide +kernel
theorem dX0_firstWeight_18 : decode cX0_firstWeight 18 = .ok (.isub, 1) := by decide +kernel
theorem dX0_firstWeight_19 : decode cX0_firstWeight 19 = .ok (.if_icmp .ge 9, 3) := by decide +kernel
theorem dX0_firstWeight_22 : decode cX0_firstWeight 22 = .ok (.iload_n 1, 1) := by decide +kernel
theorem dX0_firstWeight_23 : decode cX0_firstWeight 23 = .ok (.iconst 1, 1) := by decide +kernel
theorem dX0_firstWeight_24 : decode cX0_firstWeight 24 = .ok (.iadd, 1) := by decide +kernel
theorem dX0_firstWeight_25 : decode cX0_firstWeight 25 = .ok (.goto 9, 3) := by decide +kernel
theorem dX0_firstWeight_28 : decode cX0_firstWeight 28 = .ok (.aload_n 0, 1) := by decide +kernel
theorem dX0_firstWeight_29 : decode cX0_firstWeight 29 = .ok (.getfield 18, 3) := by decide +kernel
theorem dX0_firstWeight_32 : decode cX0_firstWeight 32 = .ok (.iconst 1, 1) := by decide +kernel
theorem dX0_firstWeight_33 : decode cX0_firstWeight 33 = .ok (.isub, 1) := by decide +kernel
theorem dX0_firstWeight_34 : decode cX0_firstWeight 34 = .ok (.istore_n 3, 1) := by decide +kernel
theorem dX0_firstWeight_35 : decode cX0_firstWeight 35 = .ok (.aload_n 0, 1) := by decide +kernel
theorem dX0_firstWeight_36 : decode cX0_firstWeight 36 = .ok (.getfield 9, 3) := by decide +kernel
theorem dX0_firstWeight_39 : decode cX0_firstWeight 39 = .ok (.iload_n 3, 1) := by decide +kernel
theorem dX0_firstWeight_40 : decode cX0_firstWeight 40 = .ok (.iaload, 1) := by decide +kernel
theorem dX0_firstWeight_41 : decode cX0_firstWeight 41 = .ok (.aload_n 0, 1) := by decide +kernel
theorem dX0_firstWeight_42 : decode cX0_firstWeight 42 = .ok (.getfield 9, 3) := by decide +kernel
theorem dX0_firstWeight_45 : decode cX0_firstWeight 45 = .ok (.iload_n 2, 1) := by decide +kernel
theorem dX0_firstWeight_46 : decode cX0_firstWeight 46 = .ok (.iaload, 1) := by decide +kernel
theorem dX0_firstWeight_47 : decode cX0_firstWeight 47 = .ok (.isub, 1) := by decide +kernel
theorem dX0_firstWeight_48 : decode cX0_firstWeight 48 = .ok (.ireturn, 1) := by decide +kernel
theorem dX0_init_0 : decode cX0_init 0 = .ok (.aload_n 0, 1) := by decide +kernel
theorem dX0_init_1 : decode cX0_init 1 = .ok (.invokespecial 3, 3) := by decide +kernel
theorem dX0_init_4 : decode cX0_init 4 = .ok (.aload_n 0, 1) := by decide +kernel
theorem dX0_init_5 : decode cX0_init 5 = .ok (.bipush 48, 2) := by decide +kernel
theorem dX0_init_7 : decode cX0_init 7 = .ok (.newarray .int, 2) := by decide +kernel
theorem dX0_init_9 : decode cX0_init 9 = .ok (.putfield 9, 3) := by decide +kernel
theorem dX0_init_12 : decode cX0_init 12 = .ok (.aload_n 0, 1) := by decide +kernel
theorem dX0_init_13 : decode cX0_init 13 = .ok (.bipush 48, 2) := by decide +kernel
theorem dX0_init_15 : decode cX0_init 15 = .ok (.newarray .int, 2) := by decide +kernel
theorem dX0_init_17 : decode cX0_init 17 = .ok (.putfield 15, 3) := by decide +kernel
theorem dX0_init_20 : decode cX0_init 20 = .ok (.aload_n 0, 1) := by decide +kernel
theorem dX0_init_21 : decode cX0_init 21 = .ok (.iconst 0, 1) := by decide +kernel
theorem dX0_init_22 : decode cX0_init 22 = .ok (.putfield 18, 3) := by decide +kernel
theorem dX0_init_25 : decode cX0_init 25 = .ok (.aload_n 0, 1) := by decide +kernel
theorem dX0_init_26 : decode cX0_init 26 = .ok (.iconst 0, 1) := by decide +kernel
theorem dX0_init_27 : decode cX0_init 27 = .ok (.putfield 22, 3) := by decide +kernel
theorem dX0_init_30 : decode cX0_init 30 = .ok (.aload_n 0, 1) := by decide +kernel
theorem dX0_init_31 : decode cX0_init 31 = .ok (.iconst 2, 1) := by decide +kernel
theorem dX0_init_32 : decode cX0_init 32 = .ok (.putfield 25, 3) := by decide +kernel
theorem dX0_init_35 : decode cX0_init 35 = .ok (.aload_n 0, 1) := by decide +kernel
theorem dX0_init_36 : decode cX0_init 36 = .ok (.iconst 1, 1) := by decide +kernel
theorem dX0_init_37 : decode cX0_init 37 = .ok (.putfield 28, 3) := by decide +kernel
theorem dX0_init_40 : decode cX0_init 40 = .ok (.aload_n 0, 1) := by decide +kernel
theorem dX0_init_41 : decode cX0_init 41 = .ok (.iconst 2, 1) := by decide +kernel
theorem dX0_init_42 : decode cX0_init 42 = .ok (.putfield 32, 3) := by decide +kernel
theorem dX0_init_45 : decode cX0_init 45 = .ok (.return_, 1) := by decide +kernel
theorem dX1_begin_0 : decode cX1_begin 0 = .ok (.aload_n 0, 1) := by decide +kernel
theorem dX1_begin_1 : decode cX1_begin 1 = .ok (.getfield 36, 3) := by decide +kernel
theorem dX1_begin_4 : decode cX1_begin 4 = .ok (.lconst 0, 1) := by decide +kernel
theorem dX1_begin_5 : decode cX1_begin 5 = .ok (.invokevirtual 54, 3) := by decide +kernel
theorem dX1_begin_8 : decode cX1_begin 8 = .ok (.iconst 0, 1) := by decide +kernel
theorem dX1_begin_9 : decode cX1_begin 9 = .ok (.istore_n 1, 1) := by decide +kernel
theorem dX1_begin_10 : decode cX1_begin 10 = .ok (.iload_n 1, 1) := by decide +kernel
theorem dX1_begin_11 : decode cX1_begin 11 = .ok (.aload_n 0, 1) := by decide +kernel
theorem dX1_begin_12 : decode cX1_begin 12 = .ok (.getfield 49, 3) := by decide +kernel
theorem dX1_begin_15 : decode cX1_begin 15 = .ok (.getfield 58, 3) := by decide +kernel
theorem dX1_begin_18 : decode cX1_begin 18 = .ok (.if_icmp .ge 69, 3) := by decide +kernel
theorem dX1_begin_21 : decode cX1_begin 21 = .ok (.aload_n 0, 1) := by decide +kernel
theorem dX1_begin_22 : decode cX1_begin 22 = .ok (.getfield 11, 3) := by decide +kernel
theorem dX1_begin_25 : decode cX1_begin 25 = .ok (.iload_n 1, 1) := by decide +kernel
theorem dX1_begin_26 : decode cX1_begin 26 = .ok (.aaload, 1) := by decide +kernel
theorem dX1_begin_27 : decode cX1_begin 27 = .ok (.aload_n 0, 1) := by decide +kernel
theorem dX1_begin_28 : decode cX1_begin 28 = .ok (.getfield 49, 3) := by decide +kernel
theorem dX1_begin_31 : decode cX1_begin 31 = .ok (.getfield 63, 3) := by decide +kernel
theorem dX1_begin_34 : decode cX1_begin 34 = .ok (.iload_n 1, 1) := by decide +kernel
theorem dX1_begin_35 : decode cX1_begin 35 = .ok (.iaload, 1) := by decide +kernel
theorem dX1_begin_36 : decode cX1_begin 36 = .ok (.i2l, 1) := by decide +kernel
theorem dX1_begin_37 : decode cX1_begin 37 = .ok (.invokevirtual 54, 3) := by decide +kernel
theorem dX1_begin_40 : decode cX1_begin 40 = .ok (.aload_n 0, 1) := by decide +kernel
theorem dX1_begin_41 : decode cX1_begin 41 = .ok (.getfield 17, 3) := by decide +kernel
theorem dX1_begin_44 : decode cX1_begin 44 = .ok (.iload_n 1, 1) := by decide +kernel
theorem dX1_begin_45 : decode cX1_begin 45 = .ok (.aload_n 0, 1) := by decide +kernel
theorem dX1_begin_46 : decode cX1_begin 46 = .ok (.getfield 49, 3) := by decide +kernel
theorem dX1_begin_49 : decode cX1_begin 49 = .ok (.iload_n 1, 1) := by decide +kernel
theorem dX1_begin_50 : decode cX1_begin 50 = .ok (.invokevirtual 66, 3) := by decide +kernel
theorem dX1_begin_53 : decode cX1_begin 53 = .ok (.i2l, 1) := by decide +kernel
theorem dX1_begin_54 : decode cX1_begin 54 = .ok (.lastore, 1) := by decide +kernel
theorem dX1_begin_55 : decode cX1_begin 55 = .ok (.aload_n 0, 1) := by decide +kernel
theorem dX1_begin_56 : decode cX1_begin 56 = .ok (.getfield 21, 3) := by decide +kernel
theorem dX1_begin_59 : decode cX1_begin 59 = .ok (.iload_n 1, 1) := by decide +kernel
theorem dX1_begin_60 : decode cX1_begin 60 = .ok (.iconst (-1), 1) := by decide +kernel
theorem dX1_begin_61 : decode cX1_begin 61 = .ok (.iastore, 1) := by decide +kernel
theorem dX1_begin_62 : decode cX1_begin 62 = .ok (.aload_n 0, 1) := by decide +kernel
theorem dX1_begin_63 : decode cX1_begin 63 = .ok (.getfield 36, 3) := by decide +kernel
theorem dX1_begin_66 : decode cX1_begin 66 = .ok (.aload_n 0, 1) := by decide +kernel
theorem dX1_begin_67 : decode cX1_begin 67 = .ok (.getfield 11, 3) := by decide +kernel
theorem dX1_begin_70 : decode cX1_begin 70 = .ok (.iload_n 1, 1) := by decide +kernel
theorem dX1_begin_71 : decode cX1_begin 71 = .ok (.aaload, 1) := by decide +kernel
theorem dX1_begin_72 : decode cX1_begin 72 = .ok (.aload_n 0, 1) := by decide +kernel
theorem dX1_begin_73 : decode cX1_begin 73 = .ok (.getfield 17, 3) := by decide +kernel
theorem dX1_begin_76 : decode cX1_begin 76 = .ok (.iload_n 1, 1) := by decide +kernel
theorem dX1_begin_77 : decode cX1_begin 77 = .ok (.laload, 1) := by decide +kernel
theorem dX1_begin_78 : decode cX1_begin 78 = .ok (.invokevirtual 70, 3) := by decide +kernel
theorem dX1_begin_81 : decode cX1_begin 81 = .ok (.iinc 1 1, 3) := by decide +kernel
theorem dX1_begin_84 : decode cX1_begin 84 = .ok (.goto (-74), 3) := by decide +kernel
theorem dX1_begin_87 : decode cX1_begin 87 = .ok (.aload_n 0, 1) := by decide +kernel
theorem dX1_begin_88 : decode cX1_begin 88 = .ok (.iconst 0, 1) := by decide +kernel
theorem dX1_begin_89 : decode cX1_begin 89 = .ok (.putfield 31, 3) := by decide +kernel
theorem dX1_begin_92 : decode cX1_begin 92 = .ok (.return_, 1) := by decide +kernel
theorem dX1_bitsOfDetails_0 : decode cX1_bitsOfDetails 0 = .ok (.iconst 0, 1) := by decide +kernel
theorem dX1_bitsOfDetails_1 : decode cX1_bitsOfDetails 1 = .ok (.istore_n 1, 1) := by decide +kernel
theorem dX1_bitsOfDetails_2 : decode cX1_bitsOfDetails 2 = .ok (.iconst 0, 1) := by decide +kernel
theorem dX1_bitsOfDetails_3 : decode cX1_bitsOfDetails 3 = .ok (.istore_n 2, 1) := by decide +kernel
theorem dX1_bitsOfDetails_4 : decode cX1_bitsOfDetails 4 = .ok (.iload_n 2, 1) := by decide +kernel
theorem dX1_bitsOfDetails_5 : decode cX1_bitsOfDetails 5 = .ok (.aload_n 0, 1) := by decide +kernel
theorem dX1_bitsOfDetails_6 : decode cX1_bitsOfDetails 6 = .ok (.getfield 31, 3) := by decide +kernel
theorem dX1_bitsOfDetails_9 : decode cX1_bitsOfDetails 9 = .ok (.if_icmp .ge 26, 3) := by decide +kernel
theorem dX1_bitsOfDetails_35 : decode cX1_bitsOfDetails 35 = .ok (.iload_n 1, 1) := by decide +kernel
theorem dX1_bitsOfDetails_36 : decode cX1_bitsOfDetails 36 = .ok (.ireturn, 1) := by decide +kernel
theorem dX1_changeValue_0 : decode cX1_changeValue 0 = .ok (.aload_n 0, 1) := by decide +kernel
theorem dX1_changeValue_1 : decode cX1_changeValue 1 = .ok (.getfield 36, 3) := by decide +kernel
theorem dX1_changeValue_4 : decode cX1_changeValue 4 = .ok (.aload_n 0, 1) := by decide +kernel
theorem dX1_changeValue_5 : decode cX1_changeValue 5 = .ok (.getfield 11, 3) := by decide +kernel
theorem dX1_changeValue_8 : decode cX1_changeValue 8 = .ok (.iload_n 1, 1) := by decide +kernel
theorem dX1_changeValue_9 : decode cX1_changeValue 9 = .ok (.aaload, 1) := by decide +kernel
theorem dX1_changeValue_10 : decode cX1_changeValue 10 = .ok (.aload_n 0, 1) := by decide +kernel
theorem dX1_changeValue_11 : decode cX1_changeValue 11 = .ok (.getfield 17, 3) := by decide +kernel
theorem dX1_changeValue_14 : decode cX1_changeValue 14 = .ok (.iload_n 1, 1) := by decide +kernel
theorem dX1_changeValue_15 : decode cX1_changeValue 15 = .ok (.laload, 1) := by decide +kernel
theorem dX1_changeValue_16 : decode cX1_changeValue 16 = .ok (.lneg, 1) := by decide +kernel
theorem dX1_changeValue_17 : decode cX1_changeValue 17 = .ok (.invokevirtual 70, 3) := by decide +kernel
theorem dX1_changeValue_20 : decode cX1_changeValue 20 = .ok (.aload_n 0, 1) := by decide +kernel
theorem dX1_changeValue_21 : decode cX1_changeValue 21 = .ok (.getfield 11, 3) := by decide +kernel
theorem dX1_changeValue_24 : decode cX1_changeValue 24 = .ok (.iload_n 1, 1) := by decide +kernel
theorem dX1_changeValue_25 : decode cX1_changeValue 25 = .ok (.aaload, 1) := by decide +kernel
theorem dX1_changeValue_26 : decode cX1_changeValue 26 = .ok (.iload_n 2, 1) := by decide +kernel
theorem dX1_changeValue_27 : decode cX1_changeValue 27 = .ok (.i2l, 1) := by decide +kernel
theorem dX1_changeValue_28 : decode cX1_changeValue 28 = .ok (.invokevirtual 54, 3) := by decide +kernel
theorem dX1_changeValue_31 : decode cX1_changeValue 31 = .ok (.aload_n 0, 1) := by decide +kernel
theorem dX1_changeValue_32 : decode cX1_changeValue 32 = .ok (.getfield 36, 3) := by decide +kernel
theorem dX1_changeValue_35 : decode cX1_changeValue 35 = .ok (.aload_n 0, 1) := by decide +kernel
theorem dX1_changeValue_36 : decode cX1_changeValue 36 = .ok (.getfield 11, 3) := by decide +kernel
theorem dX1_changeValue_39 : decode cX1_changeValue 39 = .ok (.iload_n 1, 1) := by decide +kernel
theorem dX1_changeValue_40 : decode cX1_changeValue 40 = .ok (.aaload, 1) := by decide +kernel
theorem dX1_changeValue_41 : decode cX1_changeValue 41 = .ok (.aload_n 0, 1) := by decide +kernel
theorem dX1_changeValue_42 : decode cX1_changeValue 42 = .ok (.getfield 17, 3) := by decide +kernel
theorem dX1_changeValue_45 : decode cX1_changeValue 45 = .ok (.iload_n 1, 1) := by decide +kernel
theorem dX1_changeValue_46 : decode cX1_changeValue 46 = .ok (.laload, 1) := by decide +kernel
theorem dX1_changeValue_47 : decode cX1_changeValue 47 = .ok (.invokevirtual 70, 3) := by decide +kernel
theorem dX1_changeValue_50 : decode cX1_changeValue 50 = .ok (.return_, 1) := by decide +kernel
theorem dX1_chosenSample_0 : decode cX1_chosenSample 0 = .ok (.aload_n 0, 1) := by decide +kernel
theorem dX1_chosenSample_1 : decode cX1_chosenSample 1 = .ok (.invokevirtual 116, 3) := by decide +kernel
theorem dX1_chosenSample_4 : decode cX1_chosenSample 4 = .ok (.aload_n 0, 1) := by decide +kernel
theorem dX1_chosenSample_5 : decode cX1_chosenSample 5 = .ok (.getfield 49, 3) := by decide +kernel
theorem dX1_chosenSample_8 : decode cX1_chosenSample 8 = .ok (.getfield 120, 3) := by decide +kernel
theorem dX1_chosenSample_11 : decode cX1_chosenSample 11 = .ok (.if_icmp .gt 5, 3) := by decide +kernel
theorem dX1_chosenSample_14 : decode cX1_chosenSample 14 = .ok (.iconst (-1), 1) := by decide +kernel
theorem dX1_chosenSample_15 : decode cX1_chosenSample 15 = .ok (.ireturn, 1) := by decide +kernel
theorem dX1_copyFrom_0 : decode cX1_copyFrom 0 = .ok (.iconst 0, 1) := by decide +kernel
theorem dX1_copyFrom_1 : decode cX1_copyFrom 1 = .ok (.istore_n 2, 1) := by decide +kernel
theorem dX1_copyFrom_2 : decode cX1_copyFrom 2 = .ok (.iload_n 2, 1) := by decide +kernel
theorem dX1_copyFrom_3 : decode cX1_copyFrom 3 = .ok (.aload_n 0, 1) := by decide +kernel
theorem dX1_copyFrom_4 : decode cX1_copyFrom 4 = .ok (.getfield 49, 3) := by decide +kernel
theorem dX1_copyFrom_7 : decode cX1_copyFrom 7 = .ok (.getfield 58, 3) := by decide +kernel
theorem dX1_copyFrom_10 : decode cX1_copyFrom 10 = .ok (.if_icmp .ge 24, 3) := by decide +kernel
theorem dX1_copyFrom_13 : decode cX1_copyFrom 13 = .ok (.aload_n 0, 1) := by decide +kernel
theorem dX1_copyFrom_14 : decode cX1_copyFrom 14 = .ok (.getfield 11, 3) := by decide +kernel
theorem dX1_copyFrom_17 : decode cX1_copyFrom 17 = .ok (.iload_n 2, 1) := by decide +kernel
theorem dX1_copyFrom_18 : decode cX1_copyFrom 18 = .ok (.aaload, 1) := by decide +kernel
theorem dX1_copyFrom_19 : decode cX1_copyFrom 19 = .ok (.aload_n 1, 1) := by decide +kernel
theorem dX1_copyFrom_20 : decode cX1_copyFrom 20 = .ok (.getfield 11, 3) := by decide +kernel
theorem dX1_copyFrom_23 : decode cX1_copyFrom 23 = .ok (.iload_n 2, 1) := by decide +kernel
theorem dX1_copyFrom_24 : decode cX1_copyFrom 24 = .ok (.aaload, 1) := by decide +kernel
theorem dX1_copyFrom_25 : decode cX1_copyFrom 25 = .ok (.invokevirtual 87, 3) := by decide +kernel
theorem dX1_copyFrom_28 : decode cX1_copyFrom 28 = .ok (.iinc 2 1, 3) := by decide +kernel
theorem dX1_copyFrom_31 : decode cX1_copyFrom 31 = .ok (.goto (-29), 3) := by decide +kernel
theorem dX1_copyFrom_34 : decode cX1_copyFrom 34 = .ok (.aload_n 1, 1) := by decide +kernel
theorem dX1_copyFrom_35 : decode cX1_copyFrom 35 = .ok (.getfield 17, 3) := by decide +kernel
theorem dX1_copyFrom_38 : decode cX1_copyFrom 38 = .ok (.iconst 0, 1) := by decide +kernel
theorem dX1_copyFrom_39 : decode cX1_copyFrom 39 = .ok (.aload_n 0, 1) := by decide +kernel
theorem dX1_copyFrom_40 : decode cX1_copyFrom 40 = .ok (.getfield 17, 3) := by decide +kernel
theorem dX1_copyFrom_43 : decode cX1_copyFrom 43 = .ok (.iconst 0, 1) := by decide +kernel
theorem dX1_copyFrom_44 : decode cX1_copyFrom 44 = .ok (.bipush 48, 2) := by decide +kernel
theorem dX1_copyFrom_46 : decode cX1_copyFrom 46 = .ok (.invokestatic 91, 3) := by decide +kernel
theorem dX1_copyFrom_49 : decode cX1_copyFrom 49 = .ok (.aload_n 1, 1) := by decide +kernel
theorem dX1_copyFrom_50 : decode cX1_copyFrom 50 = .ok (.getfield 21, 3) := by decide +kernel
theorem dX1_copyFrom_53 : decode cX1_copyFrom 53 = .ok (.iconst 0, 1) := by decide +kernel
theorem dX1_copyFrom_54 : decode cX1_copyFrom 54 = .ok (.aload_n 0, 1) := by decide +kernel
theorem dX1_copyFrom_55 : decode cX1_copyFrom 55 = .ok (.getfield 21, 3) := by decide +kernel
theorem dX1_copyFrom_58 : decode cX1_copyFrom 58 = .ok (.iconst 0, 1) := by decide +kernel
theorem dX1_copyFrom_59 : decode cX1_copyFrom 59 = .ok (.bipush 48, 2) := by decide +kernel
theorem dX1_copyFrom_61 : decode cX1_copyFrom 61 = .ok (.invokestatic 91, 3) := by decide +kernel
theorem dX1_copyFrom_64 : decode cX1_copyFrom 64 = .ok (.iconst 0, 1) := by decide +kernel
theorem dX1_copyFrom_65 : decode cX1_copyFrom 65 = .ok (.istore_n 2, 1) := by decide +kernel
theorem dX1_copyFrom_66 : decode cX1_copyFrom 66 = .ok (.iload_n 2, 1) := by decide +kernel
theorem dX1_copyFrom_67 : decode cX1_copyFrom 67 = .ok (.aload_n 1, 1) := by decide +kernel
theorem dX1_copyFrom_68 : decode cX1_copyFrom 68 = .ok (.getfield 31, 3) := by decide +kernel
theorem dX1_copyFrom_71 : decode cX1_copyFrom 71 = .ok (.if_icmp .ge 24, 3) := by decide +kernel
theorem dX1_copyFrom_95 : decode cX1_copyFrom 95 = .ok (.aload_n 0, 1) := by decide +kernel
theorem dX1_copyFrom_96 : decode cX1_copyFrom 96 = .ok (.aload_n 1, 1) := by decide +kernel
theorem dX1_copyFrom_97 : decode cX1_copyFrom 97 = .ok (.getfield 31, 3) := by decide +kernel
theorem dX1_copyFrom_100 : decode cX1_copyFrom 100 = .ok (.putfield 31, 3) := by decide +kernel
theorem dX1_copyFrom_103 : decode cX1_copyFrom 103 = .ok (.aload_n 0, 1) := by decide +kernel
theorem dX1_copyFrom_104 : decode cX1_copyFrom 104 = .ok (.getfield 36, 3) := by decide +kernel
theorem dX1_copyFrom_107 : decode cX1_copyFrom 107 = .ok (.aload_n 1, 1) := by decide +kernel
theorem dX1_copyFrom_108 : decode cX1_copyFrom 108 = .ok (.getfield 36, 3) := by decide +kernel
theorem dX1_copyFrom_111 : decode cX1_copyFrom 111 = .ok (.invokevirtual 87, 3) := by decide +kernel
theorem dX1_copyFrom_114 : decode cX1_copyFrom 114 = .ok (.aload_n 0, 1) := by decide +kernel
theorem dX1_copyFrom_115 : decode cX1_copyFrom 115 = .ok (.aload_n 1, 1) := by decide +kernel
theorem dX1_copyFrom_116 : decode cX1_copyFrom 116 = .ok (.getfield 77, 3) := by decide +kernel
theorem dX1_copyFrom_119 : decode cX1_copyFrom 119 = .ok (.putfield 77, 3) := by decide +kernel
theorem dX1_copyFrom_122 : decode cX1_copyFrom 122 = .ok (.aload_n 0, 1) := by decide +kernel
theorem dX1_copyFrom_123 : decode cX1_copyFrom 123 = .ok (.aload_n 1, 1) := by decide +kernel
theorem dX1_copyFrom_124 : decode cX1_copyFrom 124 = .ok (.getfield 81, 3) := by decide +kernel
theorem dX1_copyFrom_127 : decode cX1_copyFrom 127 = .ok (.putfield 81, 3) := by decide +kernel
theorem dX1_copyFrom_130 : decode cX1_copyFrom 130 = .ok (.aload_n 0, 1) := by decide +kernel
theorem dX1_copyFrom_131 : decode cX1_copyFrom 131 = .ok (.aload_n 1, 1) := by decide +kernel
theorem dX1_copyFrom_132 : decode cX1_copyFrom 132 = .ok (.getfield 86, 3) := by decide +kernel
theorem dX1_copyFrom_135 : decode cX1_copyFrom 135 = .ok (.putfield 86, 3) := by decide +kernel
theorem dX1_copyFrom_138 : decode cX1_copyFrom 138 = .ok (.return_, 1) := by decide +kernel
theorem dX1_cutDetails_0 : decode cX1_cutDetails 0 = .ok (.iconst 0, 1) := by decide +kernel
theorem dX1_cutDetails_1 : decode cX1_cutDetails 1 = .ok (.istore_n 3, 1) := by decide +kernel
theorem dX1_cutDetails_2 : decode cX1_cutDetails 2 = .ok (.iload_n 3, 1) := by decide +kernel
theorem dX1_cutDetails_3 : decode cX1_cutDetails 3 = .ok (.aload_n 0, 1) := by decide +kernel
theorem dX1_cutDetails_4 : decode cX1_cutDetails 4 = .ok (.getfield 31, 3) := by decide +kernel
theorem dX1_cutDetails_7 : decode cX1_cutDetails 7 = .ok (.if_icmp .ge 68, 3) := by decide +kernel
theorem dX1_cutDetails_75 : decode cX1_cutDetails 75 = .ok (.return_, 1) := by decide +kernel
theorem dX1_differenceCount_0 : decode cX1_differenceCount 0 = .ok (.iconst 0, 1) := by decide +kernel
theorem dX1_differenceCount_1 : decode cX1_differenceCount 1 = .ok (.istore_n 1, 1) := by decide +kernel
theorem dX1_differenceCount_2 : decode cX1_differenceCount 2 = .ok (.iconst 0, 1) := by decide +kernel
theorem dX1_differenceCount_3 : decode cX1_differenceCount 3 = .ok (.istore_n 2, 1) := by decide +kernel
theorem dX1_differenceCount_4 : decode cX1_differenceCount 4 = .ok (.iload_n 2, 1) := by decide +kernel
theorem dX1_differenceCount_5 : decode cX1_differenceCount 5 = .ok (.aload_n 0, 1) := by decide +kernel
theorem dX1_differenceCount_6 : decode cX1_differenceCount 6 = .ok (.getfield 49, 3) := by decide +kernel
theorem dX1_differenceCount_9 : decode cX1_differenceCount 9 = .ok (.getfield 58, 3) := by decide +kernel
theorem dX1_differenceCount_12 : decode cX1_differenceCount 12 = .ok (.if_icmp .ge 31, 3) := by decide +kernel
theorem dX1_differenceCount_15 : decode cX1_differenceCount 15 = .ok (.aload_n 0, 1) := by decide +kernel
theorem dX1_differenceCount_16 : decode cX1_differenceCount 16 = .ok (.aload_n 0, 1) := by decide +kernel
theorem dX1_differenceCount_17 : decode cX1_differenceCount 17 = .ok (.getfield 43, 3) := by decide +kernel
theorem dX1_differenceCount_20 : decode cX1_differenceCount 20 = .ok (.iload_n 2, 1) := by decide +kernel
theorem dX1_differenceCount_21 : decode cX1_differenceCount 21 = .ok (.invokevirtual 240, 3) := by decide +kernel
theorem dX1_differenceCount_24 : decode cX1_differenceCount 24 = .ok (.aload_n 0, 1) := by decide +kernel
theorem dX1_differenceCount_25 : decode cX1_differenceCount 25 = .ok (.getfield 43, 3) := by decide +kernel
theorem dX1_differenceCount_28 : decode cX1_differenceCount 28 = .ok (.invokevirtual 202, 3) := by decide +kernel
theorem dX1_differenceCount_31 : decode cX1_differenceCount 31 = .ok (.ifCond .ne 6, 3) := by decide +kernel
theorem dX1_differenceCount_37 : decode cX1_differenceCount 37 = .ok (.iinc 2 1, 3) := by decide +kernel
theorem dX1_differenceCount_40 : decode cX1_differenceCount 40 = .ok (.goto (-36), 3) := by decide +kernel
theorem dX1_differenceCount_43 : decode cX1_differenceCount 43 = .ok (.iload_n 1, 1) := by decide +kernel
theorem dX1_differenceCount_44 : decode cX1_differenceCount 44 = .ok (.ireturn, 1) := by decide +kernel
theorem dX1_differenceInto_0 : decode cX1_differenceInto 0 = .ok (.aload_n 1, 1) := by decide +kernel
theorem dX1_differenceInto_1 : decode cX1_differenceInto 1 = .ok (.aload_n 0, 1) := by decide +kernel
theorem dX1_differenceInto_2 : decode cX1_differenceInto 2 = .ok (.getfield 11, 3) := by decide +kernel
theorem dX1_differenceInto_5 : decode cX1_differenceInto 5 = .ok (.iload_n 2, 1) := by decide +kernel
theorem dX1_differenceInto_6 : decode cX1_differenceInto 6 = .ok (.aaload, 1) := by decide +kernel
theorem dX1_differenceInto_7 : decode cX1_differenceInto 7 = .ok (.invokevirtual 87, 3) := by decide +kernel
theorem dX1_differenceInto_10 : decode cX1_differenceInto 10 = .ok (.aload_n 1, 1) := by decide +kernel
theorem dX1_differenceInto_11 : decode cX1_differenceInto 11 = .ok (.aload_n 0, 1) := by decide +kernel
theorem dX1_differenceInto_12 : decode cX1_differenceInto 12 = .ok (.getfield 40, 3) := by decide +kernel
theorem dX1_differenceInto_15 : decode cX1_differenceInto 15 = .ok (.aload_n 0, 1) := by decide +kernel
theorem dX1_differenceInto_16 : decode cX1_differenceInto 16 = .ok (.getfield 49, 3) := by decide +kernel
theorem dX1_differenceInto_19 : decode cX1_differenceInto 19 = .ok (.getfield 63, 3) := by decide +kernel
theorem dX1_differenceInto_22 : decode cX1_differenceInto 22 = .ok (.iload_n 2, 1) := by decide +kernel
theorem dX1_differenceInto_23 : decode cX1_differenceInto 23 = .ok (.iaload, 1) := by decide +kernel
theorem dX1_differenceInto_24 : decode cX1_differenceInto 24 = .ok (.ineg, 1) := by decide +kernel
theorem dX1_differenceInto_25 : decode cX1_differenceInto 25 = .ok (.i2l, 1) := by decide +kernel
theorem dX1_differenceInto_26 : decode cX1_differenceInto 26 = .ok (.invokevirtual 70, 3) := by decide +kernel
theorem dX1_differenceInto_29 : decode cX1_differenceInto 29 = .ok (.aload_n 1, 1) := by decide +kernel
theorem dX1_differenceInto_30 : decode cX1_differenceInto 30 = .ok (.invokevirtual 233, 3) := by decide +kernel
theorem dX1_differenceInto_33 : decode cX1_differenceInto 33 = .ok (.return_, 1) := by decide +kernel
theorem dX1_differenceSum_0 : decode cX1_differenceSum 0 = .ok (.aload_n 0, 1) := by decide +kernel
theorem dX1_differenceSum_1 : decode cX1_differenceSum 1 = .ok (.getfield 46, 3) := by decide +kernel
theorem dX1_differenceSum_4 : decode cX1_differenceSum 4 = .ok (.lconst 0, 1) := by decide +kernel
theorem dX1_differenceSum_5 : decode cX1_differenceSum 5 = .ok (.invokevirtual 54, 3) := by decide +kernel
theorem dX1_differenceSum_8 : decode cX1_differenceSum 8 = .ok (.iconst 0, 1) := by decide +kernel
theorem dX1_differenceSum_9 : decode cX1_differenceSum 9 = .ok (.istore_n 1, 1) := by decide +kernel
theorem dX1_differenceSum_10 : decode cX1_differenceSum 10 = .ok (.iload_n 1, 1) := by decide +kernel
theorem dX1_differenceSum_11 : decode cX1_differenceSum 11 = .ok (.aload_n 0, 1) := by decide +kernel
theorem dX1_differenceSum_12 : decode cX1_differenceSum 12 = .ok (.getfield 49, 3) := by decide +kernel
theorem dX1_differenceSum_15 : decode cX1_differenceSum 15 = .ok (.getfield 58, 3) := by decide +kernel
theorem dX1_differenceSum_18 : decode cX1_differenceSum 18 = .ok (.if_icmp .ge 30, 3) := by decide +kernel
theorem dX1_differenceSum_21 : decode cX1_differenceSum 21 = .ok (.aload_n 0, 1) := by decide +kernel
theorem dX1_differenceSum_22 : decode cX1_differenceSum 22 = .ok (.aload_n 0, 1) := by decide +kernel
theorem dX1_differenceSum_23 : decode cX1_differenceSum 23 = .ok (.getfield 43, 3) := by decide +kernel
theorem dX1_differenceSum_26 : decode cX1_differenceSum 26 = .ok (.iload_n 1, 1) := by decide +kernel
theorem dX1_differenceSum_27 : decode cX1_differenceSum 27 = .ok (.invokevirtual 240, 3) := by decide +kernel
theorem dX1_differenceSum_30 : decode cX1_differenceSum 30 = .ok (.aload_n 0, 1) := by decide +kernel
theorem dX1_differenceSum_31 : decode cX1_differenceSum 31 = .ok (.getfield 46, 3) := by decide +kernel
theorem dX1_differenceSum_34 : decode cX1_differenceSum 34 = .ok (.aload_n 0, 1) := by decide +kernel
theorem dX1_differenceSum_35 : decode cX1_differenceSum 35 = .ok (.getfield 43, 3) := by decide +kernel
theorem dX1_differenceSum_38 : decode cX1_differenceSum 38 = .ok (.lconst 1, 1) := by decide +kernel
theorem dX1_differenceSum_39 : decode cX1_differenceSum 39 = .ok (.invokevirtual 70, 3) := by decide +kernel
theorem dX1_differenceSum_42 : decode cX1_differenceSum 42 = .ok (.iinc 1 1, 3) := by decide +kernel
theorem dX1_differenceSum_45 : decode cX1_differenceSum 45 = .ok (.goto (-35), 3) := by decide +kernel
theorem dX1_differenceSum_48 : decode cX1_differenceSum 48 = .ok (.aload_n 0, 1) := by decide +kernel
theorem dX1_differenceSum_49 : decode cX1_differenceSum 49 = .ok (.getfield 46, 3) := by decide +kernel
theorem dX1_differenceSum_52 : decode cX1_differenceSum 52 = .ok (.areturn, 1) := by decide +kernel
theorem dX1_driftNow_0 : decode cX1_driftNow 0 = .ok (.aload_n 0, 1) := by decide +kernel
theorem dX1_driftNow_1 : decode cX1_driftNow 1 = .ok (.getfield 46, 3) := by decide +kernel
theorem dX1_driftNow_4 : decode cX1_driftNow 4 = .ok (.aload_n 0, 1) := by decide +kernel
theorem dX1_driftNow_5 : decode cX1_driftNow 5 = .ok (.getfield 36, 3) := by decide +kernel
theorem dX1_driftNow_8 : decode cX1_driftNow 8 = .ok (.invokevirtual 87, 3) := by decide +kernel
theorem dX1_driftNow_11 : decode cX1_driftNow 11 = .ok (.iconst 0, 1) := by decide +kernel
theorem dX1_driftNow_12 : decode cX1_driftNow 12 = .ok (.istore_n 1, 1) := by decide +kernel
theorem dX1_driftNow_13 : decode cX1_driftNow 13 = .ok (.iload_n 1, 1) := by decide +kernel
theorem dX1_driftNow_14 : decode cX1_driftNow 14 = .ok (.aload_n 0, 1) := by decide +kernel
theorem dX1_driftNow_15 : decode cX1_driftNow 15 = .ok (.getfield 49, 3) := by decide +kernel
theorem dX1_driftNow_18 : decode cX1_driftNow 18 = .ok (.getfield 58, 3) := by decide +kernel
theorem dX1_driftNow_21 : decode cX1_driftNow 21 = .ok (.if_icmp .ge 37, 3) := by decide +kernel
theorem dX1_driftNow_24 : decode cX1_driftNow 24 = .ok (.aload_n 0, 1) := by decide +kernel
theorem dX1_driftNow_25 : decode cX1_driftNow 25 = .ok (.iload_n 1, 1) := by decide +kernel
theorem dX1_driftNow_26 : decode cX1_driftNow 26 = .ok (.invokevirtual 100, 3) := by decide +kernel
theorem dX1_driftNow_29 : decode cX1_driftNow 29 = .ok (.ifCond .eq 23, 3) := by decide +kernel
theorem dX1_driftNow_32 : decode cX1_driftNow 32 = .ok (.aload_n 0, 1) := by decide +kernel
theorem dX1_driftNow_33 : decode cX1_driftNow 33 = .ok (.getfield 46, 3) := by decide +kernel
theorem dX1_driftNow_36 : decode cX1_driftNow 36 = .ok (.aload_n 0, 1) := by decide +kernel
theorem dX1_driftNow_37 : decode cX1_driftNow 37 = .ok (.getfield 11, 3) := by decide +kernel
theorem dX1_driftNow_40 : decode cX1_driftNow 40 = .ok (.iload_n 1, 1) := by decide +kernel
theorem dX1_driftNow_41 : decode cX1_driftNow 41 = .ok (.aaload, 1) := by decide +kernel
theorem dX1_driftNow_42 : decode cX1_driftNow 42 = .ok (.aload_n 0, 1) := by decide +kernel
theorem dX1_driftNow_43 : decode cX1_driftNow 43 = .ok (.getfield 17, 3) := by decide +kernel
theorem dX1_driftNow_46 : decode cX1_driftNow 46 = .ok (.iload_n 1, 1) := by decide +kernel
theorem dX1_driftNow_47 : decode cX1_driftNow 47 = .ok (.laload, 1) := by decide +kernel
theorem dX1_driftNow_48 : decode cX1_driftNow 48 = .ok (.lneg, 1) := by decide +kernel
theorem dX1_driftNow_49 : decode cX1_driftNow 49 = .ok (.invokevirtual 70, 3) := by decide +kernel
theorem dX1_driftNow_52 : decode cX1_driftNow 52 = .ok (.iinc 1 1, 3) := by decide +kernel
theorem dX1_driftNow_55 : decode cX1_driftNow 55 = .ok (.goto (-42), 3) := by decide +kernel
theorem dX1_driftNow_58 : decode cX1_driftNow 58 = .ok (.aload_n 0, 1) := by decide +kernel
theorem dX1_driftNow_59 : decode cX1_driftNow 59 = .ok (.getfield 46, 3) := by decide +kernel
theorem dX1_driftNow_62 : decode cX1_driftNow 62 = .ok (.areturn, 1) := by decide +kernel
theorem dX1_dropFromRank_0 : decode cX1_dropFromRank 0 = .ok (.aload_n 0, 1) := by decide +kernel
theorem dX1_dropFromRank_1 : decode cX1_dropFromRank 1 = .ok (.getfield 46, 3) := by decide +kernel
theorem dX1_dropFromRank_4 : decode cX1_dropFromRank 4 = .ok (.astore_n 2, 1) := by decide +kernel
theorem dX1_dropFromRank_5 : decode cX1_dropFromRank 5 = .ok (.aload_n 2, 1) := by decide +kernel
theorem dX1_dropFromRank_6 : decode cX1_dropFromRank 6 = .ok (.lconst 0, 1) := by decide +kernel
theorem dX1_dropFromRank_7 : decode cX1_dropFromRank 7 = .ok (.invokevirtual 54, 3) := by decide +kernel
theorem dX1_dropFromRank_10 : decode cX1_dropFromRank 10 = .ok (.aload_n 0, 1) := by decide +kernel
theorem dX1_dropFromRank_11 : decode cX1_dropFromRank 11 = .ok (.iload_n 1, 1) := by decide +kernel
theorem dX1_dropFromRank_12 : decode cX1_dropFromRank 12 = .ok (.invokevirtual 230, 3) := by decide +kernel
theorem dX1_dropFromRank_15 : decode cX1_dropFromRank 15 = .ok (.istore_n 3, 1) := by decide +kernel
theorem dX1_dropFromRank_16 : decode cX1_dropFromRank 16 = .ok (.iload_n 3, 1) := by decide +kernel
theorem dX1_dropFromRank_17 : decode cX1_dropFromRank 17 = .ok (.iconst (-1), 1) := by decide +kernel
theorem dX1_dropFromRank_18 : decode cX1_dropFromRank 18 = .ok (.if_icmp .eq 20, 3) := by decide +kernel
theorem dX1_dropFromRank_38 : decode cX1_dropFromRank 38 = .ok (.iconst 0, 1) := by decide +kernel
theorem dX1_dropFromRank_39 : decode cX1_dropFromRank 39 = .ok (.istore 4, 2) := by decide +kernel
theorem dX1_dropFromRank_41 : decode cX1_dropFromRank 41 = .ok (.iload 4, 2) := by decide +kernel
theorem dX1_dropFromRank_43 : decode cX1_dropFromRank 43 = .ok (.aload_n 0, 1) := by decide +kernel
theorem dX1_dropFromRank_44 : decode cX1_dropFromRank 44 = .ok (.getfield 31, 3) := by decide +kernel
theorem dX1_dropFromRank_47 : decode cX1_dropFromRank 47 = .ok (.if_icmp .ge 60, 3) := by decide +kernel
theorem dX1_dropFromRank_107 : decode cX1_dropFromRank 107 = .ok (.aload_n 2, 1) := by decide +kernel
theorem dX1_dropFromRank_108 : decode cX1_dropFromRank 108 = .ok (.areturn, 1) := by decide +kernel
theorem dX1_energyOfDetails_0 : decode cX1_energyOfDetails 0 = .ok (.lconst 0, 1) := by decide +kernel
theorem dX1_energyOfDetails_1 : decode cX1_energyOfDetails 1 = .ok (.lstore_n 1, 1) := by decide +kernel
theorem dX1_energyOfDetails_2 : decode cX1_energyOfDetails 2 = .ok (.iconst 0, 1) := by decide +kernel
theorem dX1_energyOfDetails_3 : decode cX1_energyOfDetails 3 = .ok (.istore_n 3, 1) := by decide +kernel
theorem dX1_energyOfDetails_4 : decode cX1_energyOfDetails 4 = .ok (.iload_n 3, 1) := by decide +kernel
theorem dX1_energyOfDetails_5 : decode cX1_energyOfDetails 5 = .ok (.aload_n 0, 1) := by decide +kernel
theorem dX1_energyOfDetails_6 : decode cX1_energyOfDetails 6 = .ok (.getfield 31, 3) := by decide +kernel
theorem dX1_energyOfDetails_9 : decode cX1_energyOfDetails 9 = .ok (.if_icmp .ge 41, 3) := by decide +kernel
theorem dX1_energyOfDetails_50 : decode cX1_energyOfDetails 50 = .ok (.lload_n 1, 1) := by decide +kernel
theorem dX1_energyOfDetails_51 : decode cX1_energyOfDetails 51 = .ok (.lreturn, 1) := by decide +kernel
theorem dX1_greatestDifference_0 : decode cX1_greatestDifference 0 = .ok (.aload_n 0, 1) := by decide +kernel
theorem dX1_greatestDifference_1 : decode cX1_greatestDifference 1 = .ok (.getfield 46, 3) := by decide +kernel
theorem dX1_greatestDifference_4 : decode cX1_greatestDifference 4 = .ok (.lconst 0, 1) := by decide +kernel
theorem dX1_greatestDifference_5 : decode cX1_greatestDifference 5 = .ok (.invokevirtual 54, 3) := by decide +kernel
theorem dX1_greatestDifference_8 : decode cX1_greatestDifference 8 = .ok (.iconst 0, 1) := by decide +kernel
theorem dX1_greatestDifference_9 : decode cX1_greatestDifference 9 = .ok (.istore_n 1, 1) := by decide +kernel
theorem dX1_greatestDifference_10 : decode cX1_greatestDifference 10 = .ok (.iload_n 1, 1) := by decide +kernel
theorem dX1_greatestDifference_11 : decode cX1_greatestDifference 11 = .ok (.aload_n 0, 1) := by decide +kernel
theorem dX1_greatestDifference_12 : decode cX1_greatestDifference 12 = .ok (.getfield 49, 3) := by decide +kernel
theorem dX1_greatestDifference_15 : decode cX1_greatestDifference 15 = .ok (.getfield 58, 3) := by decide +kernel
theorem dX1_greatestDifference_18 : decode cX1_greatestDifference 18 = .ok (.if_icmp .ge 43, 3) := by decide +kernel
theorem dX1_greatestDifference_21 : decode cX1_greatestDifference 21 = .ok (.aload_n 0, 1) := by decide +kernel
theorem dX1_greatestDifference_22 : decode cX1_greatestDifference 22 = .ok (.aload_n 0, 1) := by decide +kernel
theorem dX1_greatestDifference_23 : decode cX1_greatestDifference 23 = .ok (.getfield 43, 3) := by decide +kernel
theorem dX1_greatestDifference_26 : decode cX1_greatestDifference 26 = .ok (.iload_n 1, 1) := by decide +kernel
theorem dX1_greatestDifference_27 : decode cX1_greatestDifference 27 = .ok (.invokevirtual 240, 3) := by decide +kernel
theorem dX1_greatestDifference_30 : decode cX1_greatestDifference 30 = .ok (.aload_n 0, 1) := by decide +kernel
theorem dX1_greatestDifference_31 : decode cX1_greatestDifference 31 = .ok (.getfield 43, 3) := by decide +kernel
theorem dX1_greatestDifference_34 : decode cX1_greatestDifference 34 = .ok (.aload_n 0, 1) := by decide +kernel
theorem dX1_greatestDifference_35 : decode cX1_greatestDifference 35 = .ok (.getfield 46, 3) := by decide +kernel
theorem dX1_greatestDifference_38 : decode cX1_greatestDifference 38 = .ok (.invokevirtual 127, 3) := by decide +kernel
theorem dX1_greatestDifference_41 : decode cX1_greatestDifference 41 = .ok (.ifCond .le 14, 3) := by decide +kernel
theorem dX1_greatestDifference_55 : decode cX1_greatestDifference 55 = .ok (.iinc 1 1, 3) := by decide +kernel
theorem dX1_greatestDifference_58 : decode cX1_greatestDifference 58 = .ok (.goto (-48), 3) := by decide +kernel
theorem dX1_greatestDifference_61 : decode cX1_greatestDifference 61 = .ok (.aload_n 0, 1) := by decide +kernel
theorem dX1_greatestDifference_62 : decode cX1_greatestDifference 62 = .ok (.getfield 46, 3) := by decide +kernel
theorem dX1_greatestDifference_65 : decode cX1_greatestDifference 65 = .ok (.areturn, 1) := by decide +kernel
theorem dX1_init_0 : decode cX1_init 0 = .ok (.aload_n 0, 1) := by decide +kernel
theorem dX1_init_1 : decode cX1_init 1 = .ok (.invokespecial 3, 3) := by decide +kernel
theorem dX1_init_4 : decode cX1_init 4 = .ok (.aload_n 0, 1) := by decide +kernel
theorem dX1_init_5 : decode cX1_init 5 = .ok (.bipush 48, 2) := by decide +kernel
theorem dX1_init_7 : decode cX1_init 7 = .ok (.anewarray 9, 3) := by decide +kernel
theorem dX1_init_10 : decode cX1_init 10 = .ok (.putfield 11, 3) := by decide +kernel
theorem dX1_init_13 : decode cX1_init 13 = .ok (.aload_n 0, 1) := by decide +kernel
theorem dX1_init_14 : decode cX1_init 14 = .ok (.bipush 48, 2) := by decide +kernel
theorem dX1_init_16 : decode cX1_init 16 = .ok (.newarray .long, 2) := by decide +kernel
theorem dX1_init_18 : decode cX1_init 18 = .ok (.putfield 17, 3) := by decide +kernel
theorem dX1_init_21 : decode cX1_init 21 = .ok (.aload_n 0, 1) := by decide +kernel
theorem dX1_init_22 : decode cX1_init 22 = .ok (.bipush 48, 2) := by decide +kernel
theorem dX1_init_24 : decode cX1_init 24 = .ok (.newarray .int, 2) := by decide +kernel
theorem dX1_init_26 : decode cX1_init 26 = .ok (.putfield 21, 3) := by decide +kernel
theorem dX1_init_29 : decode cX1_init 29 = .ok (.aload_n 0, 1) := by decide +kernel
theorem dX1_init_30 : decode cX1_init 30 = .ok (.bipush 46, 2) := by decide +kernel
theorem dX1_init_32 : decode cX1_init 32 = .ok (.anewarray 25, 3) := by decide +kernel
theorem dX1_init_35 : decode cX1_init 35 = .ok (.putfield 27, 3) := by decide +kernel
theorem dX1_init_38 : decode cX1_init 38 = .ok (.aload_n 0, 1) := by decide +kernel
theorem dX1_init_39 : decode cX1_init 39 = .ok (.iconst 0, 1) := by decide +kernel
theorem dX1_init_40 : decode cX1_init 40 = .ok (.putfield 31, 3) := by decide +kernel
theorem dX1_init_43 : decode cX1_init 43 = .ok (.aload_n 0, 1) := by decide +kernel
theorem dX1_init_44 : decode cX1_init 44 = .ok (.new 9, 3) := by decide +kernel
theorem dX1_init_47 : decode cX1_init 47 = .ok (.dup, 1) := by decide +kernel
theorem dX1_init_48 : decode cX1_init 48 = .ok (.invokespecial 35, 3) := by decide +kernel
theorem dX1_init_51 : decode cX1_init 51 = .ok (.putfield 36, 3) := by decide +kernel
theorem dX1_init_54 : decode cX1_init 54 = .ok (.aload_n 0, 1) := by decide +kernel
theorem dX1_init_55 : decode cX1_init 55 = .ok (.new 9, 3) := by decide +kernel
theorem dX1_init_58 : decode cX1_init 58 = .ok (.dup, 1) := by decide +kernel
theorem dX1_init_59 : decode cX1_init 59 = .ok (.invokespecial 35, 3) := by decide +kernel
theorem dX1_init_62 : decode cX1_init 62 = .ok (.putfield 40, 3) := by decide +kernel
theorem dX1_init_65 : decode cX1_init 65 = .ok (.aload_n 0, 1) := by decide +kernel
theorem dX1_init_66 : decode cX1_init 66 = .ok (.new 9, 3) := by decide +kernel
theorem dX1_init_69 : decode cX1_init 69 = .ok (.dup, 1) := by decide +kernel
theorem dX1_init_70 : decode cX1_init 70 = .ok (.invokespecial 35, 3) := by decide +kernel
theorem dX1_init_73 : decode cX1_init 73 = .ok (.putfield 43, 3) := by decide +kernel
theorem dX1_init_76 : decode cX1_init 76 = .ok (.aload_n 0, 1) := by decide +kernel
theorem dX1_init_77 : decode cX1_init 77 = .ok (.new 9, 3) := by decide +kernel
theorem dX1_init_80 : decode cX1_init 80 = .ok (.dup, 1) := by decide +kernel
theorem dX1_init_81 : decode cX1_init 81 = .ok (.invokespecial 35, 3) := by decide +kernel
theorem dX1_init_84 : decode cX1_init 84 = .ok (.putfield 46, 3) := by decide +kernel
theorem dX1_init_87 : decode cX1_init 87 = .ok (.aload_n 0, 1) := by decide +kernel
theorem dX1_init_88 : decode cX1_init 88 = .ok (.aload_n 1, 1) := by decide +kernel
theorem dX1_init_89 : decode cX1_init 89 = .ok (.putfield 49, 3) := by decide +kernel
theorem dX1_init_92 : decode cX1_init 92 = .ok (.iconst 0, 1) := by decide +kernel
theorem dX1_init_93 : decode cX1_init 93 = .ok (.istore_n 2, 1) := by decide +kernel
theorem dX1_init_94 : decode cX1_init 94 = .ok (.iload_n 2, 1) := by decide +kernel
theorem dX1_init_95 : decode cX1_init 95 = .ok (.bipush 46, 2) := by decide +kernel
theorem dX1_init_97 : decode cX1_init 97 = .ok (.if_icmp .ge 22, 3) := by decide +kernel
theorem dX1_init_100 : decode cX1_init 100 = .ok (.aload_n 0, 1) := by decide +kernel
theorem dX1_init_101 : decode cX1_init 101 = .ok (.getfield 27, 3) := by decide +kernel
theorem dX1_init_104 : decode cX1_init 104 = .ok (.iload_n 2, 1) := by decide +kernel
theorem dX1_init_105 : decode cX1_init 105 = .ok (.new 25, 3) := by decide +kernel
theorem dX1_init_108 : decode cX1_init 108 = .ok (.dup, 1) := by decide +kernel
theorem dX1_init_109 : decode cX1_init 109 = .ok (.invokespecial 53, 3) := by decide +kernel
theorem dX1_init_112 : decode cX1_init 112 = .ok (.aastore, 1) := by decide +kernel
theorem dX1_init_113 : decode cX1_init 113 = .ok (.iinc 2 1, 3) := by decide +kernel
theorem dX1_init_116 : decode cX1_init 116 = .ok (.goto (-22), 3) := by decide +kernel
theorem dX1_init_119 : decode cX1_init 119 = .ok (.iconst 0, 1) := by decide +kernel
theorem dX1_init_120 : decode cX1_init 120 = .ok (.istore_n 2, 1) := by decide +kernel
theorem dX1_init_121 : decode cX1_init 121 = .ok (.iload_n 2, 1) := by decide +kernel
theorem dX1_init_122 : decode cX1_init 122 = .ok (.bipush 48, 2) := by decide +kernel
theorem dX1_init_124 : decode cX1_init 124 = .ok (.if_icmp .ge 22, 3) := by decide +kernel
theorem dX1_init_127 : decode cX1_init 127 = .ok (.aload_n 0, 1) := by decide +kernel
theorem dX1_init_128 : decode cX1_init 128 = .ok (.getfield 11, 3) := by decide +kernel
theorem dX1_init_131 : decode cX1_init 131 = .ok (.iload_n 2, 1) := by decide +kernel
theorem dX1_init_132 : decode cX1_init 132 = .ok (.new 9, 3) := by decide +kernel
theorem dX1_init_135 : decode cX1_init 135 = .ok (.dup, 1) := by decide +kernel
theorem dX1_init_136 : decode cX1_init 136 = .ok (.invokespecial 35, 3) := by decide +kernel
theorem dX1_init_139 : decode cX1_init 139 = .ok (.aastore, 1) := by decide +kernel
theorem dX1_init_140 : decode cX1_init 140 = .ok (.iinc 2 1, 3) := by decide +kernel
theorem dX1_init_143 : decode cX1_init 143 = .ok (.goto (-22), 3) := by decide +kernel
theorem dX1_init_146 : decode cX1_init 146 = .ok (.aload_n 0, 1) := by decide +kernel
theorem dX1_init_147 : decode cX1_init 147 = .ok (.getfield 40, 3) := by decide +kernel
theorem dX1_init_150 : decode cX1_init 150 = .ok (.lconst 1, 1) := by decide +kernel
theorem dX1_init_151 : decode cX1_init 151 = .ok (.invokevirtual 54, 3) := by decide +kernel
theorem dX1_init_154 : decode cX1_init 154 = .ok (.return_, 1) := by decide +kernel
theorem dX1_integralBy_0 : decode cX1_integralBy 0 = .ok (.aload_n 0, 1) := by decide +kernel
theorem dX1_integralBy_1 : decode cX1_integralBy 1 = .ok (.getfield 46, 3) := by decide +kernel
theorem dX1_integralBy_4 : decode cX1_integralBy 4 = .ok (.aload_n 0, 1) := by decide +kernel
theorem dX1_integralBy_5 : decode cX1_integralBy 5 = .ok (.getfield 36, 3) := by decide +kernel
theorem dX1_integralBy_8 : decode cX1_integralBy 8 = .ok (.invokevirtual 87, 3) := by decide +kernel
theorem dX1_integralBy_11 : decode cX1_integralBy 11 = .ok (.aload_n 0, 1) := by decide +kernel
theorem dX1_integralBy_12 : decode cX1_integralBy 12 = .ok (.getfield 46, 3) := by decide +kernel
theorem dX1_integralBy_15 : decode cX1_integralBy 15 = .ok (.lconst 1, 1) := by decide +kernel
theorem dX1_integralBy_16 : decode cX1_integralBy 16 = .ok (.lload_n 1, 1) := by decide +kernel
theorem dX1_integralBy_17 : decode cX1_integralBy 17 = .ok (.invokevirtual 104, 3) := by decide +kernel
theorem dX1_integralBy_20 : decode cX1_integralBy 20 = .ok (.aload_n 0, 1) := by decide +kernel
theorem dX1_integralBy_21 : decode cX1_integralBy 21 = .ok (.getfield 46, 3) := by decide +kernel
theorem dX1_integralBy_24 : decode cX1_integralBy 24 = .ok (.areturn, 1) := by decide +kernel
theorem dX1_invertLatest_0 : decode cX1_invertLatest 0 = .ok (.iconst 0, 1) := by decide +kernel
theorem dX1_invertLatest_1 : decode cX1_invertLatest 1 = .ok (.istore_n 2, 1) := by decide +kernel
theorem dX1_invertLatest_2 : decode cX1_invertLatest 2 = .ok (.iload_n 2, 1) := by decide +kernel
theorem dX1_invertLatest_3 : decode cX1_invertLatest 3 = .ok (.iload_n 1, 1) := by decide +kernel
theorem dX1_invertLatest_4 : decode cX1_invertLatest 4 = .ok (.if_icmp .ge 41, 3) := by decide +kernel
theorem dX1_invertLatest_7 : decode cX1_invertLatest 7 = .ok (.aload_n 0, 1) := by decide +kernel
theorem dX1_invertLatest_8 : decode cX1_invertLatest 8 = .ok (.getfield 31, 3) := by decide +kernel
theorem dX1_invertLatest_11 : decode cX1_invertLatest 11 = .ok (.ifCond .le 34, 3) := by decide +kernel
theorem dX1_invertLatest_45 : decode cX1_invertLatest 45 = .ok (.iload_n 2, 1) := by decide +kernel
theorem dX1_invertLatest_46 : decode cX1_invertLatest 46 = .ok (.ireturn, 1) := by decide +kernel
theorem dX1_isPresent_0 : decode cX1_isPresent 0 = .ok (.aload_n 0, 1) := by decide +kernel
theorem dX1_isPresent_1 : decode cX1_isPresent 1 = .ok (.getfield 21, 3) := by decide +kernel
theorem dX1_isPresent_4 : decode cX1_isPresent 4 = .ok (.iload_n 1, 1) := by decide +kernel
theorem dX1_isPresent_5 : decode cX1_isPresent 5 = .ok (.iaload, 1) := by decide +kernel
theorem dX1_isPresent_6 : decode cX1_isPresent 6 = .ok (.iconst (-1), 1) := by decide +kernel
theorem dX1_isPresent_7 : decode cX1_isPresent 7 = .ok (.if_icmp .ne 7, 3) := by decide +kernel
theorem dX1_isPresent_10 : decode cX1_isPresent 10 = .ok (.iconst 1, 1) := by decide +kernel
theorem dX1_isPresent_11 : decode cX1_isPresent 11 = .ok (.goto 4, 3) := by decide +kernel
theorem dX1_isPresent_15 : decode cX1_isPresent 15 = .ok (.ireturn, 1) := by decide +kernel
theorem dX1_leftOf_0 : decode cX1_leftOf 0 = .ok (.iload_n 1, 1) := by decide +kernel
theorem dX1_leftOf_1 : decode cX1_leftOf 1 = .ok (.iconst 1, 1) := by decide +kernel
theorem dX1_leftOf_2 : decode cX1_leftOf 2 = .ok (.isub, 1) := by decide +kernel
theorem dX1_leftOf_3 : decode cX1_leftOf 3 = .ok (.istore_n 2, 1) := by decide +kernel
theorem dX1_leftOf_4 : decode cX1_leftOf 4 = .ok (.iload_n 2, 1) := by decide +kernel
theorem dX1_leftOf_5 : decode cX1_leftOf 5 = .ok (.ifCond .lt 19, 3) := by decide +kernel
theorem dX1_leftOf_8 : decode cX1_leftOf 8 = .ok (.aload_n 0, 1) := by decide +kernel
theorem dX1_leftOf_9 : decode cX1_leftOf 9 = .ok (.iload_n 2, 1) := by decide +kernel
theorem dX1_leftOf_10 : decode cX1_leftOf 10 = .ok (.invokevirtual 100, 3) := by decide +kernel
theorem dX1_leftOf_13 : decode cX1_leftOf 13 = .ok (.ifCond .eq 5, 3) := by decide +kernel
theorem dX1_leftOf_16 : decode cX1_leftOf 16 = .ok (.iload_n 2, 1) := by decide +kernel
theorem dX1_leftOf_17 : decode cX1_leftOf 17 = .ok (.ireturn, 1) := by decide +kernel
theorem dX1_leftOf_24 : decode cX1_leftOf 24 = .ok (.iconst (-1), 1) := by decide +kernel
theorem dX1_leftOf_25 : decode cX1_leftOf 25 = .ok (.ireturn, 1) := by decide +kernel
theorem dX1_liftChosen_0 : decode cX1_liftChosen 0 = .ok (.iconst 0, 1) := by decide +kernel
theorem dX1_liftChosen_1 : decode cX1_liftChosen 1 = .ok (.istore_n 2, 1) := by decide +kernel
theorem dX1_liftChosen_2 : decode cX1_liftChosen 2 = .ok (.iload_n 2, 1) := by decide +kernel
theorem dX1_liftChosen_3 : decode cX1_liftChosen 3 = .ok (.iload_n 1, 1) := by decide +kernel
theorem dX1_liftChosen_4 : decode cX1_liftChosen 4 = .ok (.if_icmp .ge 28, 3) := by decide +kernel
theorem dX1_liftChosen_7 : decode cX1_liftChosen 7 = .ok (.aload_n 0, 1) := by decide +kernel
theorem dX1_liftChosen_8 : decode cX1_liftChosen 8 = .ok (.invokevirtual 142, 3) := by decide +kernel
theorem dX1_liftChosen_11 : decode cX1_liftChosen 11 = .ok (.istore_n 3, 1) := by decide +kernel
theorem dX1_liftChosen_12 : decode cX1_liftChosen 12 = .ok (.iload_n 3, 1) := by decide +kernel
theorem dX1_liftChosen_13 : decode cX1_liftChosen 13 = .ok (.iconst (-1), 1) := by decide +kernel
theorem dX1_liftChosen_14 : decode cX1_liftChosen 14 = .ok (.if_icmp .ne 6, 3) := by decide +kernel
theorem dX1_liftChosen_17 : decode cX1_liftChosen 17 = .ok (.goto 15, 3) := by decide +kernel
theorem dX1_liftChosen_32 : decode cX1_liftChosen 32 = .ok (.iload_n 2, 1) := by decide +kernel
theorem dX1_liftChosen_33 : decode cX1_liftChosen 33 = .ok (.ireturn, 1) := by decide +kernel
theorem dX1_lineAt_0 : decode cX1_lineAt 0 = .ok (.iconst 0, 1) := by decide +kernel
theorem dX1_lineAt_1 : decode cX1_lineAt 1 = .ok (.istore_n 2, 1) := by decide +kernel
theorem dX1_lineAt_2 : decode cX1_lineAt 2 = .ok (.iconst 1, 1) := by decide +kernel
theorem dX1_lineAt_3 : decode cX1_lineAt 3 = .ok (.istore_n 3, 1) := by decide +kernel
theorem dX1_lineAt_4 : decode cX1_lineAt 4 = .ok (.iload_n 3, 1) := by decide +kernel
theorem dX1_lineAt_5 : decode cX1_lineAt 5 = .ok (.aload_n 0, 1) := by decide +kernel
theorem dX1_lineAt_6 : decode cX1_lineAt 6 = .ok (.getfield 49, 3) := by decide +kernel
theorem dX1_lineAt_9 : decode cX1_lineAt 9 = .ok (.getfield 58, 3) := by decide +kernel
theorem dX1_lineAt_12 : decode cX1_lineAt 12 = .ok (.if_icmp .ge 49, 3) := by decide +kernel
theorem dX1_lineAt_15 : decode cX1_lineAt 15 = .ok (.aload_n 0, 1) := by decide +kernel
theorem dX1_lineAt_16 : decode cX1_lineAt 16 = .ok (.iload_n 3, 1) := by decide +kernel
theorem dX1_lineAt_17 : decode cX1_lineAt 17 = .ok (.invokevirtual 100, 3) := by decide +kernel
theorem dX1_lineAt_20 : decode cX1_lineAt 20 = .ok (.ifCond .eq 35, 3) := by decide +kernel
theorem dX1_lineAt_23 : decode cX1_lineAt 23 = .ok (.iload_n 1, 1) := by decide +kernel
theorem dX1_lineAt_24 : decode cX1_lineAt 24 = .ok (.aload_n 0, 1) := by decide +kernel
theorem dX1_lineAt_25 : decode cX1_lineAt 25 = .ok (.getfield 49, 3) := by decide +kernel
theorem dX1_lineAt_28 : decode cX1_lineAt 28 = .ok (.getfield 108, 3) := by decide +kernel
theorem dX1_lineAt_31 : decode cX1_lineAt 31 = .ok (.iload_n 3, 1) := by decide +kernel
theorem dX1_lineAt_32 : decode cX1_lineAt 32 = .ok (.iaload, 1) := by decide +kernel
theorem dX1_lineAt_33 : decode cX1_lineAt 33 = .ok (.if_icmp .gt 20, 3) := by decide +kernel
theorem dX1_lineAt_36 : decode cX1_lineAt 36 = .ok (.aload_n 0, 1) := by decide +kernel
theorem dX1_lineAt_37 : decode cX1_lineAt 37 = .ok (.aload_n 0, 1) := by decide +kernel
theorem dX1_lineAt_38 : decode cX1_lineAt 38 = .ok (.getfield 46, 3) := by decide +kernel
theorem dX1_lineAt_41 : decode cX1_lineAt 41 = .ok (.iconst 2, 1) := by decide +kernel
theorem dX1_lineAt_42 : decode cX1_lineAt 42 = .ok (.iload_n 2, 1) := by decide +kernel
theorem dX1_lineAt_43 : decode cX1_lineAt 43 = .ok (.iload_n 1, 1) := by decide +kernel
theorem dX1_lineAt_44 : decode cX1_lineAt 44 = .ok (.iload_n 3, 1) := by decide +kernel
theorem dX1_lineAt_45 : decode cX1_lineAt 45 = .ok (.invokevirtual 111, 3) := by decide +kernel
theorem dX1_lineAt_48 : decode cX1_lineAt 48 = .ok (.aload_n 0, 1) := by decide +kernel
theorem dX1_lineAt_49 : decode cX1_lineAt 49 = .ok (.getfield 46, 3) := by decide +kernel
theorem dX1_lineAt_52 : decode cX1_lineAt 52 = .ok (.areturn, 1) := by decide +kernel
theorem dX1_predictInto_0 : decode cX1_predictInto 0 = .ok (.iload_n 2, 1) := by decide +kernel
theorem dX1_predictInto_1 : decode cX1_predictInto 1 = .ok (.ifCond .eq 20, 3) := by decide +kernel
theorem dX1_predictInto_4 : decode cX1_predictInto 4 = .ok (.iload_n 2, 1) := by decide +kernel
theorem dX1_predictInto_5 : decode cX1_predictInto 5 = .ok (.iconst 1, 1) := by decide +kernel
theorem dX1_predictInto_6 : decode cX1_predictInto 6 = .ok (.if_icmp .ne 26, 3) := by decide +kernel
theorem dX1_predictInto_32 : decode cX1_predictInto 32 = .ok (.aload_n 1, 1) := by decide +kernel
theorem dX1_predictInto_33 : decode cX1_predictInto 33 = .ok (.aload_n 0, 1) := by decide +kernel
theorem dX1_predictInto_34 : decode cX1_predictInto 34 = .ok (.getfield 11, 3) := by decide +kernel
theorem dX1_predictInto_37 : decode cX1_predictInto 37 = .ok (.iload 5, 2) := by decide +kernel
theorem dX1_predictInto_39 : decode cX1_predictInto 39 = .ok (.aaload, 1) := by decide +kernel
theorem dX1_predictInto_40 : decode cX1_predictInto 40 = .ok (.invokevirtual 87, 3) := by decide +kernel
theorem dX1_predictInto_43 : decode cX1_predictInto 43 = .ok (.iload_n 2, 1) := by decide +kernel
theorem dX1_predictInto_44 : decode cX1_predictInto 44 = .ok (.iconst 2, 1) := by decide +kernel
theorem dX1_predictInto_45 : decode cX1_predictInto 45 = .ok (.if_icmp .ne 65, 3) := by decide +kernel
theorem dX1_predictInto_48 : decode cX1_predictInto 48 = .ok (.aload_n 1, 1) := by decide +kernel
theorem dX1_predictInto_49 : decode cX1_predictInto 49 = .ok (.aload_n 0, 1) := by decide +kernel
theorem dX1_predictInto_50 : decode cX1_predictInto 50 = .ok (.getfield 11, 3) := by decide +kernel
theorem dX1_predictInto_53 : decode cX1_predictInto 53 = .ok (.iload_n 3, 1) := by decide +kernel
theorem dX1_predictInto_54 : decode cX1_predictInto 54 = .ok (.aaload, 1) := by decide +kernel
theorem dX1_predictInto_55 : decode cX1_predictInto 55 = .ok (.ldc2_w 136, 3) := by decide +kernel
theorem dX1_predictInto_58 : decode cX1_predictInto 58 = .ok (.invokevirtual 70, 3) := by decide +kernel
theorem dX1_predictInto_61 : decode cX1_predictInto 61 = .ok (.aload_n 1, 1) := by decide +kernel
theorem dX1_predictInto_62 : decode cX1_predictInto 62 = .ok (.iload 4, 2) := by decide +kernel
theorem dX1_predictInto_64 : decode cX1_predictInto 64 = .ok (.aload_n 0, 1) := by decide +kernel
theorem dX1_predictInto_65 : decode cX1_predictInto 65 = .ok (.getfield 49, 3) := by decide +kernel
theorem dX1_predictInto_68 : decode cX1_predictInto 68 = .ok (.getfield 108, 3) := by decide +kernel
theorem dX1_predictInto_71 : decode cX1_predictInto 71 = .ok (.iload_n 3, 1) := by decide +kernel
theorem dX1_predictInto_72 : decode cX1_predictInto 72 = .ok (.iaload, 1) := by decide +kernel
theorem dX1_predictInto_73 : decode cX1_predictInto 73 = .ok (.isub, 1) := by decide +kernel
theorem dX1_predictInto_74 : decode cX1_predictInto 74 = .ok (.i2l, 1) := by decide +kernel
theorem dX1_predictInto_75 : decode cX1_predictInto 75 = .ok (.aload_n 0, 1) := by decide +kernel
theorem dX1_predictInto_76 : decode cX1_predictInto 76 = .ok (.getfield 49, 3) := by decide +kernel
theorem dX1_predictInto_79 : decode cX1_predictInto 79 = .ok (.getfield 108, 3) := by decide +kernel
theorem dX1_predictInto_82 : decode cX1_predictInto 82 = .ok (.iload 5, 2) := by decide +kernel
theorem dX1_predictInto_84 : decode cX1_predictInto 84 = .ok (.iaload, 1) := by decide +kernel
theorem dX1_predictInto_85 : decode cX1_predictInto 85 = .ok (.aload_n 0, 1) := by decide +kernel
theorem dX1_predictInto_86 : decode cX1_predictInto 86 = .ok (.getfield 49, 3) := by decide +kernel
theorem dX1_predictInto_89 : decode cX1_predictInto 89 = .ok (.getfield 108, 3) := by decide +kernel
theorem dX1_predictInto_92 : decode cX1_predictInto 92 = .ok (.iload_n 3, 1) := by decide +kernel
theorem dX1_predictInto_93 : decode cX1_predictInto 93 = .ok (.iaload, 1) := by decide +kernel
theorem dX1_predictInto_94 : decode cX1_predictInto 94 = .ok (.isub, 1) := by decide +kernel
theorem dX1_predictInto_95 : decode cX1_predictInto 95 = .ok (.i2l, 1) := by decide +kernel
theorem dX1_predictInto_96 : decode cX1_predictInto 96 = .ok (.invokevirtual 104, 3) := by decide +kernel
theorem dX1_predictInto_99 : decode cX1_predictInto 99 = .ok (.aload_n 1, 1) := by decide +kernel
theorem dX1_predictInto_100 : decode cX1_predictInto 100 = .ok (.aload_n 0, 1) := by decide +kernel
theorem dX1_predictInto_101 : decode cX1_predictInto 101 = .ok (.getfield 11, 3) := by decide +kernel
theorem dX1_predictInto_104 : decode cX1_predictInto 104 = .ok (.iload_n 3, 1) := by decide +kernel
theorem dX1_predictInto_105 : decode cX1_predictInto 105 = .ok (.aaload, 1) := by decide +kernel
theorem dX1_predictInto_106 : decode cX1_predictInto 106 = .ok (.lconst 1, 1) := by decide +kernel
theorem dX1_predictInto_107 : decode cX1_predictInto 107 = .ok (.invokevirtual 70, 3) := by decide +kernel
theorem dX1_predictInto_110 : decode cX1_predictInto 110 = .ok (.return_, 1) := by decide +kernel
theorem dX1_presentAt_0 : decode cX1_presentAt 0 = .ok (.iconst 0, 1) := by decide +kernel
theorem dX1_presentAt_1 : decode cX1_presentAt 1 = .ok (.istore_n 2, 1) := by decide +kernel
theorem dX1_presentAt_2 : decode cX1_presentAt 2 = .ok (.iconst 0, 1) := by decide +kernel
theorem dX1_presentAt_3 : decode cX1_presentAt 3 = .ok (.istore_n 3, 1) := by decide +kernel
theorem dX1_presentAt_4 : decode cX1_presentAt 4 = .ok (.iload_n 3, 1) := by decide +kernel
theorem dX1_presentAt_5 : decode cX1_presentAt 5 = .ok (.aload_n 0, 1) := by decide +kernel
theorem dX1_presentAt_6 : decode cX1_presentAt 6 = .ok (.getfield 49, 3) := by decide +kernel
theorem dX1_presentAt_9 : decode cX1_presentAt 9 = .ok (.getfield 58, 3) := by decide +kernel
theorem dX1_presentAt_12 : decode cX1_presentAt 12 = .ok (.if_icmp .ge 27, 3) := by decide +kernel
theorem dX1_presentAt_15 : decode cX1_presentAt 15 = .ok (.aload_n 0, 1) := by decide +kernel
theorem dX1_presentAt_16 : decode cX1_presentAt 16 = .ok (.iload_n 3, 1) := by decide +kernel
theorem dX1_presentAt_17 : decode cX1_presentAt 17 = .ok (.invokevirtual 100, 3) := by decide +kernel
theorem dX1_presentAt_20 : decode cX1_presentAt 20 = .ok (.ifCond .eq 13, 3) := by decide +kernel
theorem dX1_presentAt_23 : decode cX1_presentAt 23 = .ok (.iload_n 2, 1) := by decide +kernel
theorem dX1_presentAt_24 : decode cX1_presentAt 24 = .ok (.iload_n 1, 1) := by decide +kernel
theorem dX1_presentAt_25 : decode cX1_presentAt 25 = .ok (.if_icmp .ne 5, 3) := by decide +kernel
theorem dX1_presentAt_28 : decode cX1_presentAt 28 = .ok (.iload_n 3, 1) := by decide +kernel
theorem dX1_presentAt_29 : decode cX1_presentAt 29 = .ok (.ireturn, 1) := by decide +kernel
theorem dX1_presentAt_30 : decode cX1_presentAt 30 = .ok (.iinc 2 1, 3) := by decide +kernel
theorem dX1_presentAt_33 : decode cX1_presentAt 33 = .ok (.iinc 3 1, 3) := by decide +kernel
theorem dX1_presentAt_36 : decode cX1_presentAt 36 = .ok (.goto (-32), 3) := by decide +kernel
theorem dX1_presentCount_0 : decode cX1_presentCount 0 = .ok (.aload_n 0, 1) := by decide +kernel
theorem dX1_presentCount_1 : decode cX1_presentCount 1 = .ok (.getfield 49, 3) := by decide +kernel
theorem dX1_presentCount_4 : decode cX1_presentCount 4 = .ok (.getfield 58, 3) := by decide +kernel
theorem dX1_presentCount_7 : decode cX1_presentCount 7 = .ok (.aload_n 0, 1) := by decide +kernel
theorem dX1_presentCount_8 : decode cX1_presentCount 8 = .ok (.getfield 31, 3) := by decide +kernel
theorem dX1_presentCount_11 : decode cX1_presentCount 11 = .ok (.isub, 1) := by decide +kernel
theorem dX1_presentCount_12 : decode cX1_presentCount 12 = .ok (.ireturn, 1) := by decide +kernel
theorem dX1_quantizeDetails_0 : decode cX1_quantizeDetails 0 = .ok (.lconst 0, 1) := by decide +kernel
theorem dX1_quantizeDetails_1 : decode cX1_quantizeDetails 1 = .ok (.lstore_n 2, 1) := by decide +kernel
theorem dX1_quantizeDetails_2 : decode cX1_quantizeDetails 2 = .ok (.iconst 0, 1) := by decide +kernel
theorem dX1_quantizeDetails_3 : decode cX1_quantizeDetails 3 = .ok (.istore 4, 2) := by decide +kernel
theorem dX1_quantizeDetails_5 : decode cX1_quantizeDetails 5 = .ok (.iload 4, 2) := by decide +kernel
theorem dX1_quantizeDetails_7 : decode cX1_quantizeDetails 7 = .ok (.aload_n 0, 1) := by decide +kernel
theorem dX1_quantizeDetails_8 : decode cX1_quantizeDetails 8 = .ok (.getfield 31, 3) := by decide +kernel
theorem dX1_quantizeDetails_11 : decode cX1_quantizeDetails 11 = .ok (.if_icmp .ge 88, 3) := by decide +kernel
theorem dX1_quantizeDetails_99 : decode cX1_quantizeDetails 99 = .ok (.lload_n 2, 1) := by decide +kernel
theorem dX1_quantizeDetails_100 : decode cX1_quantizeDetails 100 = .ok (.lreturn, 1) := by decide +kernel
theorem dX1_rightOf_0 : decode cX1_rightOf 0 = .ok (.iload_n 1, 1) := by decide +kernel
theorem dX1_rightOf_1 : decode cX1_rightOf 1 = .ok (.iconst 1, 1) := by decide +kernel
theorem dX1_rightOf_2 : decode cX1_rightOf 2 = .ok (.iadd, 1) := by decide +kernel
theorem dX1_rightOf_3 : decode cX1_rightOf 3 = .ok (.istore_n 2, 1) := by decide +kernel
theorem dX1_rightOf_4 : decode cX1_rightOf 4 = .ok (.iload_n 2, 1) := by decide +kernel
theorem dX1_rightOf_5 : decode cX1_rightOf 5 = .ok (.aload_n 0, 1) := by decide +kernel
theorem dX1_rightOf_6 : decode cX1_rightOf 6 = .ok (.getfield 49, 3) := by decide +kernel
theorem dX1_rightOf_9 : decode cX1_rightOf 9 = .ok (.getfield 58, 3) := by decide +kernel
theorem dX1_rightOf_12 : decode cX1_rightOf 12 = .ok (.if_icmp .ge 19, 3) := by decide +kernel
theorem dX1_rightOf_15 : decode cX1_rightOf 15 = .ok (.aload_n 0, 1) := by decide +kernel
theorem dX1_rightOf_16 : decode cX1_rightOf 16 = .ok (.iload_n 2, 1) := by decide +kernel
theorem dX1_rightOf_17 : decode cX1_rightOf 17 = .ok (.invokevirtual 100, 3) := by decide +kernel
theorem dX1_rightOf_20 : decode cX1_rightOf 20 = .ok (.ifCond .eq 5, 3) := by decide +kernel
theorem dX1_rightOf_23 : decode cX1_rightOf 23 = .ok (.iload_n 2, 1) := by decide +kernel
theorem dX1_rightOf_24 : decode cX1_rightOf 24 = .ok (.ireturn, 1) := by decide +kernel
theorem dX1_rightOf_31 : decode cX1_rightOf 31 = .ok (.iconst (-1), 1) := by decide +kernel
theorem dX1_rightOf_32 : decode cX1_rightOf 32 = .ok (.ireturn, 1) := by decide +kernel
theorem dX1_stepOfRank_0 : decode cX1_stepOfRank 0 = .ok (.iconst 0, 1) := by decide +kernel
theorem dX1_stepOfRank_1 : decode cX1_stepOfRank 1 = .ok (.istore_n 2, 1) := by decide +kernel
theorem dX1_stepOfRank_2 : decode cX1_stepOfRank 2 = .ok (.iload_n 2, 1) := by decide +kernel
theorem dX1_stepOfRank_3 : decode cX1_stepOfRank 3 = .ok (.aload_n 0, 1) := by decide +kernel
theorem dX1_stepOfRank_4 : decode cX1_stepOfRank 4 = .ok (.getfield 31, 3) := by decide +kernel
theorem dX1_stepOfRank_7 : decode cX1_stepOfRank 7 = .ok (.if_icmp .ge 20, 3) := by decide +kernel
theorem dX1_stepOfRank_27 : decode cX1_stepOfRank 27 = .ok (.iconst (-1), 1) := by decide +kernel
theorem dX1_stepOfRank_28 : decode cX1_stepOfRank 28 = .ok (.ireturn, 1) := by decide +kernel
theorem dX1_takeSettings_0 : decode cX1_takeSettings 0 = .ok (.aload_n 0, 1) := by decide +kernel
theorem dX1_takeSettings_1 : decode cX1_takeSettings 1 = .ok (.aload_n 0, 1) := by decide +kernel
theorem dX1_takeSettings_2 : decode cX1_takeSettings 2 = .ok (.getfield 49, 3) := by decide +kernel
theorem dX1_takeSettings_5 : decode cX1_takeSettings 5 = .ok (.getfield 74, 3) := by decide +kernel
theorem dX1_takeSettings_8 : decode cX1_takeSettings 8 = .ok (.putfield 77, 3) := by decide +kernel
theorem dX1_takeSettings_11 : decode cX1_takeSettings 11 = .ok (.aload_n 0, 1) := by decide +kernel
theorem dX1_takeSettings_12 : decode cX1_takeSettings 12 = .ok (.aload_n 0, 1) := by decide +kernel
theorem dX1_takeSettings_13 : decode cX1_takeSettings 13 = .ok (.getfield 49, 3) := by decide +kernel
theorem dX1_takeSettings_16 : decode cX1_takeSettings 16 = .ok (.getfield 78, 3) := by decide +kernel
theorem dX1_takeSettings_19 : decode cX1_takeSettings 19 = .ok (.putfield 81, 3) := by decide +kernel
theorem dX1_takeSettings_22 : decode cX1_takeSettings 22 = .ok (.aload_n 0, 1) := by decide +kernel
theorem dX1_takeSettings_23 : decode cX1_takeSettings 23 = .ok (.aload_n 0, 1) := by decide +kernel
theorem dX1_takeSettings_24 : decode cX1_takeSettings 24 = .ok (.getfield 49, 3) := by decide +kernel
theorem dX1_takeSettings_27 : decode cX1_takeSettings 27 = .ok (.getfield 82, 3) := by decide +kernel
theorem dX1_takeSettings_30 : decode cX1_takeSettings 30 = .ok (.putfield 86, 3) := by decide +kernel
theorem dX1_takeSettings_33 : decode cX1_takeSettings 33 = .ok (.return_, 1) := by decide +kernel
theorem dX1_valueSum_0 : decode cX1_valueSum 0 = .ok (.aload_n 0, 1) := by decide +kernel
theorem dX1_valueSum_1 : decode cX1_valueSum 1 = .ok (.getfield 46, 3) := by decide +kernel
theorem dX1_valueSum_4 : decode cX1_valueSum 4 = .ok (.lconst 0, 1) := by decide +kernel
theorem dX1_valueSum_5 : decode cX1_valueSum 5 = .ok (.invokevirtual 54, 3) := by decide +kernel
theorem dX1_valueSum_8 : decode cX1_valueSum 8 = .ok (.iconst 0, 1) := by decide +kernel
theorem dX1_valueSum_9 : decode cX1_valueSum 9 = .ok (.istore_n 1, 1) := by decide +kernel
theorem dX1_valueSum_10 : decode cX1_valueSum 10 = .ok (.iload_n 1, 1) := by decide +kernel
theorem dX1_valueSum_11 : decode cX1_valueSum 11 = .ok (.aload_n 0, 1) := by decide +kernel
theorem dX1_valueSum_12 : decode cX1_valueSum 12 = .ok (.getfield 49, 3) := by decide +kernel
theorem dX1_valueSum_15 : decode cX1_valueSum 15 = .ok (.getfield 58, 3) := by decide +kernel
theorem dX1_valueSum_18 : decode cX1_valueSum 18 = .ok (.if_icmp .ge 31, 3) := by decide +kernel
theorem dX1_valueSum_21 : decode cX1_valueSum 21 = .ok (.aload_n 0, 1) := by decide +kernel
theorem dX1_valueSum_22 : decode cX1_valueSum 22 = .ok (.iload_n 1, 1) := by decide +kernel
theorem dX1_valueSum_23 : decode cX1_valueSum 23 = .ok (.invokevirtual 100, 3) := by decide +kernel
theorem dX1_valueSum_26 : decode cX1_valueSum 26 = .ok (.ifCond .eq 17, 3) := by decide +kernel
theorem dX1_valueSum_29 : decode cX1_valueSum 29 = .ok (.aload_n 0, 1) := by decide +kernel
theorem dX1_valueSum_30 : decode cX1_valueSum 30 = .ok (.getfield 46, 3) := by decide +kernel
theorem dX1_valueSum_33 : decode cX1_valueSum 33 = .ok (.aload_n 0, 1) := by decide +kernel
theorem dX1_valueSum_34 : decode cX1_valueSum 34 = .ok (.getfield 11, 3) := by decide +kernel
theorem dX1_valueSum_37 : decode cX1_valueSum 37 = .ok (.iload_n 1, 1) := by decide +kernel
theorem dX1_valueSum_38 : decode cX1_valueSum 38 = .ok (.aaload, 1) := by decide +kernel
theorem dX1_valueSum_39 : decode cX1_valueSum 39 = .ok (.lconst 1, 1) := by decide +kernel
theorem dX1_valueSum_40 : decode cX1_valueSum 40 = .ok (.invokevirtual 70, 3) := by decide +kernel
theorem dX1_valueSum_43 : decode cX1_valueSum 43 = .ok (.iinc 1 1, 3) := by decide +kernel
theorem dX1_valueSum_46 : decode cX1_valueSum 46 = .ok (.goto (-36), 3) := by decide +kernel
theorem dX1_valueSum_49 : decode cX1_valueSum 49 = .ok (.aload_n 0, 1) := by decide +kernel
theorem dX1_valueSum_50 : decode cX1_valueSum 50 = .ok (.getfield 46, 3) := by decide +kernel
theorem dX1_valueSum_53 : decode cX1_valueSum 53 = .ok (.areturn, 1) := by decide +kernel
theorem dX1_weightSum_0 : decode cX1_weightSum 0 = .ok (.lconst 0, 1) := by decide +kernel
theorem dX1_weightSum_1 : decode cX1_weightSum 1 = .ok (.lstore_n 1, 1) := by decide +kernel
theorem dX1_weightSum_2 : decode cX1_weightSum 2 = .ok (.iconst 0, 1) := by decide +kernel
theorem dX1_weightSum_3 : decode cX1_weightSum 3 = .ok (.istore_n 3, 1) := by decide +kernel
theorem dX1_weightSum_4 : decode cX1_weightSum 4 = .ok (.iload_n 3, 1) := by decide +kernel
theorem dX1_weightSum_5 : decode cX1_weightSum 5 = .ok (.aload_n 0, 1) := by decide +kernel
theorem dX1_weightSum_6 : decode cX1_weightSum 6 = .ok (.getfield 49, 3) := by decide +kernel
theorem dX1_weightSum_9 : decode cX1_weightSum 9 = .ok (.getfield 58, 3) := by decide +kernel
theorem dX1_weightSum_12 : decode cX1_weightSum 12 = .ok (.if_icmp .ge 26, 3) := by decide +kernel
theorem dX1_weightSum_15 : decode cX1_weightSum 15 = .ok (.aload_n 0, 1) := by decide +kernel
theorem dX1_weightSum_16 : decode cX1_weightSum 16 = .ok (.iload_n 3, 1) := by decide +kernel
theorem dX1_weightSum_17 : decode cX1_weightSum 17 = .ok (.invokevirtual 100, 3) := by decide +kernel
theorem dX1_weightSum_20 : decode cX1_weightSum 20 = .ok (.ifCond .eq 12, 3) := by decide +kernel
theorem dX1_weightSum_23 : decode cX1_weightSum 23 = .ok (.lload_n 1, 1) := by decide +kernel
theorem dX1_weightSum_24 : decode cX1_weightSum 24 = .ok (.aload_n 0, 1) := by decide +kernel
theorem dX1_weightSum_25 : decode cX1_weightSum 25 = .ok (.getfield 17, 3) := by decide +kernel
theorem dX1_weightSum_28 : decode cX1_weightSum 28 = .ok (.iload_n 3, 1) := by decide +kernel
theorem dX1_weightSum_29 : decode cX1_weightSum 29 = .ok (.laload, 1) := by decide +kernel
theorem dX1_weightSum_30 : decode cX1_weightSum 30 = .ok (.ladd, 1) := by decide +kernel
theorem dX1_weightSum_31 : decode cX1_weightSum 31 = .ok (.lstore_n 1, 1) := by decide +kernel
theorem dX1_weightSum_32 : decode cX1_weightSum 32 = .ok (.iinc 3 1, 3) := by decide +kernel
theorem dX1_weightSum_35 : decode cX1_weightSum 35 = .ok (.goto (-31), 3) := by decide +kernel
theorem dX1_weightSum_38 : decode cX1_weightSum 38 = .ok (.lload_n 1, 1) := by decide +kernel
theorem dX1_weightSum_39 : decode cX1_weightSum 39 = .ok (.lreturn, 1) := by decide +kernel
theorem dX1_zeroDetails_0 : decode cX1_zeroDetails 0 = .ok (.iconst 0, 1) := by decide +kernel
theorem dX1_zeroDetails_1 : decode cX1_zeroDetails 1 = .ok (.istore_n 1, 1) := by decide +kernel
theorem dX1_zeroDetails_2 : decode cX1_zeroDetails 2 = .ok (.iconst 0, 1) := by decide +kernel
theorem dX1_zeroDetails_3 : decode cX1_zeroDetails 3 = .ok (.istore_n 2, 1) := by decide +kernel
theorem dX1_zeroDetails_4 : decode cX1_zeroDetails 4 = .ok (.iload_n 2, 1) := by decide +kernel
theorem dX1_zeroDetails_5 : decode cX1_zeroDetails 5 = .ok (.aload_n 0, 1) := by decide +kernel
theorem dX1_zeroDetails_6 : decode cX1_zeroDetails 6 = .ok (.getfield 31, 3) := by decide +kernel
theorem dX1_zeroDetails_9 : decode cX1_zeroDetails 9 = .ok (.if_icmp .ge 27, 3) := by decide +kernel
theorem dX1_zeroDetails_36 : decode cX1_zeroDetails 36 = .ok (.iload_n 1, 1) := by decide +kernel
theorem dX1_zeroDetails_37 : decode cX1_zeroDetails 37 = .ok (.ireturn, 1) := by decide +kernel
theorem dX2_init_0 : decode cX2_init 0 = .ok (.aload_n 0, 1) := by decide +kernel
theorem dX2_init_1 : decode cX2_init 1 = .ok (.invokespecial 1, 3) := by decide +kernel
theorem dX2_init_4 : decode cX2_init 4 = .ok (.aload_n 0, 1) := by decide +kernel
theorem dX2_init_5 : decode cX2_init 5 = .ok (.new 7, 3) := by decide +kernel
theorem dX2_init_8 : decode cX2_init 8 = .ok (.dup, 1) := by decide +kernel
theorem dX2_init_9 : decode cX2_init 9 = .ok (.invokespecial 9, 3) := by decide +kernel
theorem dX2_init_12 : decode cX2_init 12 = .ok (.putfield 10, 3) := by decide +kernel
theorem dX2_init_15 : decode cX2_init 15 = .ok (.return_, 1) := by decide +kernel
theorem dX3_addInt_0 : decode cX3_addInt 0 = .ok (.bipush 24, 2) := by decide +kernel
theorem dX3_addInt_2 : decode cX3_addInt 2 = .ok (.istore_n 2, 1) := by decide +kernel
theorem dX3_addInt_3 : decode cX3_addInt 3 = .ok (.iload_n 2, 1) := by decide +kernel
theorem dX3_addInt_4 : decode cX3_addInt 4 = .ok (.ifCond .lt 42, 3) := by decide +kernel
theorem dX3_addInt_7 : decode cX3_addInt 7 = .ok (.aload_n 0, 1) := by decide +kernel
theorem dX3_addInt_8 : decode cX3_addInt 8 = .ok (.getfield 15, 3) := by decide +kernel
theorem dX3_addInt_11 : decode cX3_addInt 11 = .ok (.sipush 700, 3) := by decide +kernel
theorem dX3_addInt_14 : decode cX3_addInt 14 = .ok (.if_icmp .ge 32, 3) := by decide +kernel
theorem dX3_addInt_17 : decode cX3_addInt 17 = .ok (.aload_n 0, 1) := by decide +kernel
theorem dX3_addInt_18 : decode cX3_addInt 18 = .ok (.getfield 11, 3) := by decide +kernel
theorem dX3_addInt_21 : decode cX3_addInt 21 = .ok (.aload_n 0, 1) := by decide +kernel
theorem dX3_addInt_22 : decode cX3_addInt 22 = .ok (.getfield 15, 3) := by decide +kernel
theorem dX3_addInt_25 : decode cX3_addInt 25 = .ok (.iload_n 1, 1) := by decide +kernel
theorem dX3_addInt_26 : decode cX3_addInt 26 = .ok (.iload_n 2, 1) := by decide +kernel
theorem dX3_addInt_27 : decode cX3_addInt 27 = .ok (.ishr, 1) := by decide +kernel
theorem dX3_addInt_28 : decode cX3_addInt 28 = .ok (.i2b, 1) := by decide +kernel
theorem dX3_addInt_29 : decode cX3_addInt 29 = .ok (.bastore, 1) := by decide +kernel
theorem dX3_addInt_30 : decode cX3_addInt 30 = .ok (.aload_n 0, 1) := by decide +kernel
theorem dX3_addInt_31 : decode cX3_addInt 31 = .ok (.dup, 1) := by decide +kernel
theorem dX3_addInt_32 : decode cX3_addInt 32 = .ok (.getfield 15, 3) := by decide +kernel
theorem dX3_addInt_35 : decode cX3_addInt 35 = .ok (.iconst 1, 1) := by decide +kernel
theorem dX3_addInt_36 : decode cX3_addInt 36 = .ok (.iadd, 1) := by decide +kernel
theorem dX3_addInt_37 : decode cX3_addInt 37 = .ok (.putfield 15, 3) := by decide +kernel
theorem dX3_addInt_40 : decode cX3_addInt 40 = .ok (.iinc 2 (-8), 3) := by decide +kernel
theorem dX3_addInt_43 : decode cX3_addInt 43 = .ok (.goto (-40), 3) := by decide +kernel
theorem dX3_addInt_46 : decode cX3_addInt 46 = .ok (.return_, 1) := by decide +kernel
theorem dX3_hasRoom_0 : decode cX3_hasRoom 0 = .ok (.aload_n 0, 1) := by decide +kernel
theorem dX3_hasRoom_1 : decode cX3_hasRoom 1 = .ok (.getfield 15, 3) := by decide +kernel
theorem dX3_hasRoom_4 : decode cX3_hasRoom 4 = .ok (.bipush 20, 2) := by decide +kernel
theorem dX3_hasRoom_6 : decode cX3_hasRoom 6 = .ok (.iadd, 1) := by decide +kernel
theorem dX3_hasRoom_7 : decode cX3_hasRoom 7 = .ok (.sipush 700, 3) := by decide +kernel
theorem dX3_hasRoom_10 : decode cX3_hasRoom 10 = .ok (.if_icmp .gt 7, 3) := by decide +kernel
theorem dX3_hasRoom_13 : decode cX3_hasRoom 13 = .ok (.iconst 1, 1) := by decide +kernel
theorem dX3_hasRoom_14 : decode cX3_hasRoom 14 = .ok (.goto 4, 3) := by decide +kernel
theorem dX3_hasRoom_18 : decode cX3_hasRoom 18 = .ok (.ireturn, 1) := by decide +kernel
theorem dX3_init_0 : decode cX3_init 0 = .ok (.aload_n 0, 1) := by decide +kernel
theorem dX3_init_1 : decode cX3_init 1 = .ok (.invokespecial 3, 3) := by decide +kernel
theorem dX3_init_4 : decode cX3_init 4 = .ok (.aload_n 0, 1) := by decide +kernel
theorem dX3_init_5 : decode cX3_init 5 = .ok (.sipush 700, 3) := by decide +kernel
theorem dX3_init_8 : decode cX3_init 8 = .ok (.newarray .byte, 2) := by decide +kernel
theorem dX3_init_10 : decode cX3_init 10 = .ok (.putfield 11, 3) := by decide +kernel
theorem dX3_init_13 : decode cX3_init 13 = .ok (.aload_n 0, 1) := by decide +kernel
theorem dX3_init_14 : decode cX3_init 14 = .ok (.iconst 0, 1) := by decide +kernel
theorem dX3_init_15 : decode cX3_init 15 = .ok (.putfield 15, 3) := by decide +kernel
theorem dX3_init_18 : decode cX3_init 18 = .ok (.aload_n 0, 1) := by decide +kernel
theorem dX3_init_19 : decode cX3_init 19 = .ok (.iconst 0, 1) := by decide +kernel
theorem dX3_init_20 : decode cX3_init 20 = .ok (.putfield 19, 3) := by decide +kernel
theorem dX3_init_23 : decode cX3_init 23 = .ok (.aload_n 0, 1) := by decide +kernel
theorem dX3_init_24 : decode cX3_init 24 = .ok (.iconst (-1), 1) := by decide +kernel
theorem dX3_init_25 : decode cX3_init 25 = .ok (.putfield 22, 3) := by decide +kernel
theorem dX3_init_28 : decode cX3_init 28 = .ok (.aload_n 0, 1) := by decide +kernel
theorem dX3_init_29 : decode cX3_init 29 = .ok (.iconst 0, 1) := by decide +kernel
theorem dX3_init_30 : decode cX3_init 30 = .ok (.putfield 25, 3) := by decide +kernel
theorem dX3_init_33 : decode cX3_init 33 = .ok (.aload_n 0, 1) := by decide +kernel
theorem dX3_init_34 : decode cX3_init 34 = .ok (.iconst 0, 1) := by decide +kernel
theorem dX3_init_35 : decode cX3_init 35 = .ok (.putfield 28, 3) := by decide +kernel
theorem dX3_init_38 : decode cX3_init 38 = .ok (.aload_n 0, 1) := by decide +kernel
theorem dX3_init_39 : decode cX3_init 39 = .ok (.iconst 0, 1) := by decide +kernel
theorem dX3_init_40 : decode cX3_init 40 = .ok (.putfield 31, 3) := by decide +kernel
theorem dX3_init_43 : decode cX3_init 43 = .ok (.aload_n 0, 1) := by decide +kernel
theorem dX3_init_44 : decode cX3_init 44 = .ok (.iconst 0, 1) := by decide +kernel
theorem dX3_init_45 : decode cX3_init 45 = .ok (.putfield 34, 3) := by decide +kernel
theorem dX3_init_48 : decode cX3_init 48 = .ok (.return_, 1) := by decide +kernel
theorem dX3_isWord_0 : decode cX3_isWord 0 = .ok (.aload_n 0, 1) := by decide +kernel
theorem dX3_isWord_1 : decode cX3_isWord 1 = .ok (.getfield 25, 3) := by decide +kernel
theorem dX3_isWord_4 : decode cX3_isWord 4 = .ok (.iconst 1, 1) := by decide +kernel
theorem dX3_isWord_5 : decode cX3_isWord 5 = .ok (.if_icmp .ne 19, 3) := by decide +kernel
theorem dX3_isWord_24 : decode cX3_isWord 24 = .ok (.iconst 0, 1) := by decide +kernel
theorem dX3_isWord_25 : decode cX3_isWord 25 = .ok (.ireturn, 1) := by decide +kernel
theorem dX3_isWrong_0 : decode cX3_isWrong 0 = .ok (.aload_n 0, 1) := by decide +kernel
theorem dX3_isWrong_1 : decode cX3_isWrong 1 = .ok (.iload_n 1, 1) := by decide +kernel
theorem dX3_isWrong_2 : decode cX3_isWrong 2 = .ok (.putfield 19, 3) := by decide +kernel
theorem dX3_isWrong_5 : decode cX3_isWrong 5 = .ok (.aload_n 0, 1) := by decide +kernel
theorem dX3_isWrong_6 : decode cX3_isWrong 6 = .ok (.aload_n 0, 1) := by decide +kernel
theorem dX3_isWrong_7 : decode cX3_isWrong 7 = .ok (.getfield 28, 3) := by decide +kernel
theorem dX3_isWrong_10 : decode cX3_isWrong 10 = .ok (.putfield 22, 3) := by decide +kernel
theorem dX3_isWrong_13 : decode cX3_isWrong 13 = .ok (.iconst 0, 1) := by decide +kernel
theorem dX3_isWrong_14 : decode cX3_isWrong 14 = .ok (.ireturn, 1) := by decide +kernel
theorem dX3_pass_0 : decode cX3_pass 0 = .ok (.aload_n 0, 1) := by decide +kernel
theorem dX3_pass_1 : decode cX3_pass 1 = .ok (.aload_n 0, 1) := by decide +kernel
theorem dX3_pass_2 : decode cX3_pass 2 = .ok (.getfield 31, 3) := by decide +kernel
theorem dX3_pass_5 : decode cX3_pass 5 = .ok (.putfield 28, 3) := by decide +kernel
theorem dX3_pass_8 : decode cX3_pass 8 = .ok (.aload_n 0, 1) := by decide +kernel
theorem dX3_pass_9 : decode cX3_pass 9 = .ok (.getfield 28, 3) := by decide +kernel
theorem dX3_pass_12 : decode cX3_pass 12 = .ok (.aload_n 0, 1) := by decide +kernel
theorem dX3_pass_13 : decode cX3_pass 13 = .ok (.getfield 15, 3) := by decide +kernel
theorem dX3_pass_16 : decode cX3_pass 16 = .ok (.if_icmp .ge 44, 3) := by decide +kernel
theorem dX3_pass_60 : decode cX3_pass 60 = .ok (.aload_n 0, 1) := by decide +kernel
theorem dX3_pass_61 : decode cX3_pass 61 = .ok (.aload_n 0, 1) := by decide +kernel
theorem dX3_pass_62 : decode cX3_pass 62 = .ok (.getfield 28, 3) := by decide +kernel
theorem dX3_pass_65 : decode cX3_pass 65 = .ok (.putfield 31, 3) := by decide +kernel
theorem dX3_pass_68 : decode cX3_pass 68 = .ok (.aload_n 0, 1) := by decide +kernel
theorem dX3_pass_69 : decode cX3_pass 69 = .ok (.getfield 28, 3) := by decide +kernel
theorem dX3_pass_72 : decode cX3_pass 72 = .ok (.aload_n 0, 1) := by decide +kernel
theorem dX3_pass_73 : decode cX3_pass 73 = .ok (.getfield 15, 3) := by decide +kernel
theorem dX3_pass_76 : decode cX3_pass 76 = .ok (.if_icmp .lt 11, 3) := by decide +kernel
theorem dX3_pass_79 : decode cX3_pass 79 = .ok (.aload_n 0, 1) := by decide +kernel
theorem dX3_pass_80 : decode cX3_pass 80 = .ok (.iconst 0, 1) := by decide +kernel
theorem dX3_pass_81 : decode cX3_pass 81 = .ok (.putfield 25, 3) := by decide +kernel
theorem dX3_pass_84 : decode cX3_pass 84 = .ok (.goto 125, 3) := by decide +kernel
theorem dX3_pass_209 : decode cX3_pass 209 = .ok (.iconst 1, 1) := by decide +kernel
theorem dX3_pass_210 : decode cX3_pass 210 = .ok (.ireturn, 1) := by decide +kernel
theorem dX3_readInto_0 : decode cX3_readInto 0 = .ok (.aload_n 0, 1) := by decide +kernel
theorem dX3_readInto_1 : decode cX3_readInto 1 = .ok (.iconst 0, 1) := by decide +kernel
theorem dX3_readInto_2 : decode cX3_readInto 2 = .ok (.putfield 19, 3) := by decide +kernel
theorem dX3_readInto_5 : decode cX3_readInto 5 = .ok (.aload_n 0, 1) := by decide +kernel
theorem dX3_readInto_6 : decode cX3_readInto 6 = .ok (.iconst (-1), 1) := by decide +kernel
theorem dX3_readInto_7 : decode cX3_readInto 7 = .ok (.putfield 22, 3) := by decide +kernel
theorem dX3_readInto_10 : decode cX3_readInto 10 = .ok (.aload_n 0, 1) := by decide +kernel
theorem dX3_readInto_11 : decode cX3_readInto 11 = .ok (.iconst 0, 1) := by decide +kernel
theorem dX3_readInto_12 : decode cX3_readInto 12 = .ok (.putfield 31, 3) := by decide +kernel
theorem dX3_readInto_15 : decode cX3_readInto 15 = .ok (.aload_n 1, 1) := by decide +kernel
theorem dX3_readInto_16 : decode cX3_readInto 16 = .ok (.invokevirtual 37, 3) := by decide +kernel
theorem dX3_readInto_19 : decode cX3_readInto 19 = .ok (.aload_n 0, 1) := by decide +kernel
theorem dX3_readInto_20 : decode cX3_readInto 20 = .ok (.invokevirtual 42, 3) := by decide +kernel
theorem dX3_readInto_23 : decode cX3_readInto 23 = .ok (.pop, 1) := by decide +kernel
theorem dX3_readInto_24 : decode cX3_readInto 24 = .ok (.aload_n 0, 1) := by decide +kernel
theorem dX3_readInto_25 : decode cX3_readInto 25 = .ok (.aload_n 1, 1) := by decide +kernel
theorem dX3_readInto_26 : decode cX3_readInto 26 = .ok (.invokevirtual 46, 3) := by decide +kernel
theorem dX3_readInto_29 : decode cX3_readInto 29 = .ok (.ifCond .eq 15, 3) := by decide +kernel
theorem dX3_readInto_32 : decode cX3_readInto 32 = .ok (.aload_n 0, 1) := by decide +kernel
theorem dX3_readInto_33 : decode cX3_readInto 33 = .ok (.aload_n 1, 1) := by decide +kernel
theorem dX3_readInto_34 : decode cX3_readInto 34 = .ok (.invokevirtual 50, 3) := by decide +kernel
theorem dX3_readInto_37 : decode cX3_readInto 37 = .ok (.ifCond .eq 7, 3) := by decide +kernel
theorem dX3_readInto_44 : decode cX3_readInto 44 = .ok (.iconst 0, 1) := by decide +kernel
theorem dX3_readInto_45 : decode cX3_readInto 45 = .ok (.ireturn, 1) := by decide +kernel
theorem dX3_readSamples_0 : decode cX3_readSamples 0 = .ok (.iconst 0, 1) := by decide +kernel
theorem dX3_readSamples_1 : decode cX3_readSamples 1 = .ok (.istore_n 2, 1) := by decide +kernel
theorem dX3_readSamples_2 : decode cX3_readSamples 2 = .ok (.iload_n 2, 1) := by decide +kernel
theorem dX3_readSamples_3 : decode cX3_readSamples 3 = .ok (.bipush 48, 2) := by decide +kernel
theorem dX3_readSamples_5 : decode cX3_readSamples 5 = .ok (.if_icmp .gt 72, 3) := by decide +kernel
theorem dX3_readSamples_8 : decode cX3_readSamples 8 = .ok (.aload_n 0, 1) := by decide +kernel
theorem dX3_readSamples_9 : decode cX3_readSamples 9 = .ok (.getfield 25, 3) := by decide +kernel
theorem dX3_readSamples_12 : decode cX3_readSamples 12 = .ok (.ifCond .ne 10, 3) := by decide +kernel
theorem dX3_readSamples_15 : decode cX3_readSamples 15 = .ok (.iload_n 2, 1) := by decide +kernel
theorem dX3_readSamples_16 : decode cX3_readSamples 16 = .ok (.iconst 2, 1) := by decide +kernel
theorem dX3_readSamples_17 : decode cX3_readSamples 17 = .ok (.if_icmp .lt 5, 3) := by decide +kernel
theorem dX3_readSamples_22 : decode cX3_readSamples 22 = .ok (.aload_n 0, 1) := by decide +kernel
theorem dX3_readSamples_23 : decode cX3_readSamples 23 = .ok (.ldc 109, 2) := by decide +kernel
theorem dX3_readSamples_25 : decode cX3_readSamples 25 = .ok (.invokevirtual 70, 3) := by decide +kernel
theorem dX3_readSamples_28 : decode cX3_readSamples 28 = .ok (.ifCond .ne 9, 3) := by decide +kernel
theorem dX3_readSamples_31 : decode cX3_readSamples 31 = .ok (.aload_n 0, 1) := by decide +kernel
theorem dX3_readSamples_32 : decode cX3_readSamples 32 = .ok (.iconst 1, 1) := by decide +kernel
theorem dX3_readSamples_33 : decode cX3_readSamples 33 = .ok (.invokevirtual 57, 3) := by decide +kernel
theorem dX3_readSamples_36 : decode cX3_readSamples 36 = .ok (.ireturn, 1) := by decide +kernel
theorem dX3_readSettings_0 : decode cX3_readSettings 0 = .ok (.iconst 0, 1) := by decide +kernel
theorem dX3_readSettings_1 : decode cX3_readSettings 1 = .ok (.istore_n 2, 1) := by decide +kernel
theorem dX3_readSettings_2 : decode cX3_readSettings 2 = .ok (.iconst 0, 1) := by decide +kernel
theorem dX3_readSettings_3 : decode cX3_readSettings 3 = .ok (.istore_n 3, 1) := by decide +kernel
theorem dX3_readSettings_4 : decode cX3_readSettings 4 = .ok (.iload_n 3, 1) := by decide +kernel
theorem dX3_readSettings_5 : decode cX3_readSettings 5 = .ok (.iconst 4, 1) := by decide +kernel
theorem dX3_readSettings_6 : decode cX3_readSettings 6 = .ok (.if_icmp .gt 69, 3) := by decide +kernel
theorem dX3_readSettings_9 : decode cX3_readSettings 9 = .ok (.aload_n 0, 1) := by decide +kernel
theorem dX3_readSettings_10 : decode cX3_readSettings 10 = .ok (.invokevirtual 53, 3) := by decide +kernel
theorem dX3_readSettings_13 : decode cX3_readSettings 13 = .ok (.istore 4, 2) := by decide +kernel
theorem dX3_readSettings_15 : decode cX3_readSettings 15 = .ok (.iload 4, 2) := by decide +kernel
theorem dX3_readSettings_17 : decode cX3_readSettings 17 = .ok (.iconst (-1), 1) := by decide +kernel
theorem dX3_readSettings_18 : decode cX3_readSettings 18 = .ok (.if_icmp .ne 5, 3) := by decide +kernel
theorem dX3_readSettings_21 : decode cX3_readSettings 21 = .ok (.iconst 1, 1) := by decide +kernel
theorem dX3_readSettings_22 : decode cX3_readSettings 22 = .ok (.ireturn, 1) := by decide +kernel
theorem dX3_settingHere_0 : decode cX3_settingHere 0 = .ok (.aload_n 0, 1) := by decide +kernel
theorem dX3_settingHere_1 : decode cX3_settingHere 1 = .ok (.ldc 68, 2) := by decide +kernel
theorem dX3_settingHere_3 : decode cX3_settingHere 3 = .ok (.invokevirtual 70, 3) := by decide +kernel
theorem dX3_settingHere_6 : decode cX3_settingHere 6 = .ok (.ifCond .eq 5, 3) := by decide +kernel
theorem dX3_settingHere_11 : decode cX3_settingHere 11 = .ok (.aload_n 0, 1) := by decide +kernel
theorem dX3_settingHere_12 : decode cX3_settingHere 12 = .ok (.ldc 74, 2) := by decide +kernel
theorem dX3_settingHere_14 : decode cX3_settingHere 14 = .ok (.invokevirtual 70, 3) := by decide +kernel
theorem dX3_settingHere_17 : decode cX3_settingHere 17 = .ok (.ifCond .eq 5, 3) := by decide +kernel
theorem dX3_settingHere_22 : decode cX3_settingHere 22 = .ok (.aload_n 0, 1) := by decide +kernel
theorem dX3_settingHere_23 : decode cX3_settingHere 23 = .ok (.ldc 76, 2) := by decide +kernel
theorem dX3_settingHere_25 : decode cX3_settingHere 25 = .ok (.invokevirtual 70, 3) := by decide +kernel
theorem dX3_settingHere_28 : decode cX3_settingHere 28 = .ok (.ifCond .eq 5, 3) := by decide +kernel
theorem dX3_settingHere_33 : decode cX3_settingHere 33 = .ok (.aload_n 0, 1) := by decide +kernel
theorem dX3_settingHere_34 : decode cX3_settingHere 34 = .ok (.ldc 78, 2) := by decide +kernel
theorem dX3_settingHere_36 : decode cX3_settingHere 36 = .ok (.invokevirtual 70, 3) := by decide +kernel
theorem dX3_settingHere_39 : decode cX3_settingHere 39 = .ok (.ifCond .eq 7, 3) := by decide +kernel
theorem dX3_settingHere_46 : decode cX3_settingHere 46 = .ok (.iconst (-1), 1) := by decide +kernel
theorem dX3_settingHere_47 : decode cX3_settingHere 47 = .ok (.ireturn, 1) := by decide +kernel
theorem dX4_add_0 : decode cX4_add 0 = .ok (.aload_n 0, 1) := by decide +kernel
theorem dX4_add_1 : decode cX4_add 1 = .ok (.getfield 13, 3) := by decide +kernel
theorem dX4_add_4 : decode cX4_add 4 = .ok (.iconst 1, 1) := by decide +kernel
theorem dX4_add_5 : decode cX4_add 5 = .ok (.if_icmp .gt 27, 3) := by decide +kernel
theorem dX4_add_8 : decode cX4_add 8 = .ok (.aload_n 1, 1) := by decide +kernel
theorem dX4_add_9 : decode cX4_add 9 = .ok (.getfield 13, 3) := by decide +kernel
theorem dX4_add_12 : decode cX4_add 12 = .ok (.iconst 1, 1) := by decide +kernel
theorem dX4_add_13 : decode cX4_add 13 = .ok (.if_icmp .gt 19, 3) := by decide +kernel
theorem dX4_add_16 : decode cX4_add 16 = .ok (.aload_n 0, 1) := by decide +kernel
theorem dX4_add_17 : decode cX4_add 17 = .ok (.aload_n 0, 1) := by decide +kernel
theorem dX4_add_18 : decode cX4_add 18 = .ok (.invokevirtual 31, 3) := by decide +kernel
theorem dX4_add_21 : decode cX4_add 21 = .ok (.aload_n 1, 1) := by decide +kernel
theorem dX4_add_22 : decode cX4_add 22 = .ok (.invokevirtual 31, 3) := by decide +kernel
theorem dX4_add_25 : decode cX4_add 25 = .ok (.lload_n 2, 1) := by decide +kernel
theorem dX4_add_26 : decode cX4_add 26 = .ok (.lmul, 1) := by decide +kernel
theorem dX4_add_27 : decode cX4_add 27 = .ok (.ladd, 1) := by decide +kernel
theorem dX4_add_28 : decode cX4_add 28 = .ok (.invokevirtual 35, 3) := by decide +kernel
theorem dX4_add_31 : decode cX4_add 31 = .ok (.return_, 1) := by decide +kernel
theorem dX4_amountFrom_0 : decode cX4_amountFrom 0 = .ok (.iload_n 1, 1) := by decide +kernel
theorem dX4_amountFrom_1 : decode cX4_amountFrom 1 = .ok (.bipush 32, 2) := by decide +kernel
theorem dX4_amountFrom_3 : decode cX4_amountFrom 3 = .ok (.idiv, 1) := by decide +kernel
theorem dX4_amountFrom_4 : decode cX4_amountFrom 4 = .ok (.istore_n 2, 1) := by decide +kernel
theorem dX4_amountFrom_5 : decode cX4_amountFrom 5 = .ok (.iload_n 1, 1) := by decide +kernel
theorem dX4_amountFrom_6 : decode cX4_amountFrom 6 = .ok (.bipush 32, 2) := by decide +kernel
theorem dX4_amountFrom_8 : decode cX4_amountFrom 8 = .ok (.irem, 1) := by decide +kernel
theorem dX4_amountFrom_9 : decode cX4_amountFrom 9 = .ok (.istore_n 3, 1) := by decide +kernel
theorem dX4_amountFrom_10 : decode cX4_amountFrom 10 = .ok (.aload_n 0, 1) := by decide +kernel
theorem dX4_amountFrom_11 : decode cX4_amountFrom 11 = .ok (.iload_n 2, 1) := by decide +kernel
theorem dX4_amountFrom_12 : decode cX4_amountFrom 12 = .ok (.iconst 1, 1) := by decide +kernel
theorem dX4_amountFrom_13 : decode cX4_amountFrom 13 = .ok (.iadd, 1) := by decide +kernel
theorem dX4_amountFrom_14 : decode cX4_amountFrom 14 = .ok (.invokevirtual 87, 3) := by decide +kernel
theorem dX4_amountFrom_17 : decode cX4_amountFrom 17 = .ok (.bipush 32, 2) := by decide +kernel
theorem dX4_amountFrom_19 : decode cX4_amountFrom 19 = .ok (.lshl, 1) := by decide +kernel
theorem dX4_amountFrom_20 : decode cX4_amountFrom 20 = .ok (.aload_n 0, 1) := by decide +kernel
theorem dX4_amountFrom_21 : decode cX4_amountFrom 21 = .ok (.iload_n 2, 1) := by decide +kernel
theorem dX4_amountFrom_22 : decode cX4_amountFrom 22 = .ok (.invokevirtual 87, 3) := by decide +kernel
theorem dX4_amountFrom_25 : decode cX4_amountFrom 25 = .ok (.lor, 1) := by decide +kernel
theorem dX4_amountFrom_26 : decode cX4_amountFrom 26 = .ok (.lstore 4, 2) := by decide +kernel
theorem dX4_amountFrom_28 : decode cX4_amountFrom 28 = .ok (.iload_n 3, 1) := by decide +kernel
theorem dX4_amountFrom_29 : decode cX4_amountFrom 29 = .ok (.ifCond .ne 8, 3) := by decide +kernel
theorem dX4_amountFrom_32 : decode cX4_amountFrom 32 = .ok (.lload 4, 2) := by decide +kernel
theorem dX4_amountFrom_34 : decode cX4_amountFrom 34 = .ok (.goto 20, 3) := by decide +kernel
theorem dX4_amountFrom_54 : decode cX4_amountFrom 54 = .ok (.lreturn, 1) := by decide +kernel
theorem dX4_become_0 : decode cX4_become 0 = .ok (.aload_n 0, 1) := by decide +kernel
theorem dX4_become_1 : decode cX4_become 1 = .ok (.lload_n 1, 1) := by decide +kernel
theorem dX4_become_2 : decode cX4_become 2 = .ok (.lconst 0, 1) := by decide +kernel
theorem dX4_become_3 : decode cX4_become 3 = .ok (.lcmp, 1) := by decide +kernel
theorem dX4_become_4 : decode cX4_become 4 = .ok (.ifCond .ge 7, 3) := by decide +kernel
theorem dX4_become_11 : decode cX4_become 11 = .ok (.iconst 0, 1) := by decide +kernel
theorem dX4_become_12 : decode cX4_become 12 = .ok (.putfield 17, 3) := by decide +kernel
theorem dX4_become_15 : decode cX4_become 15 = .ok (.aload_n 0, 1) := by decide +kernel
theorem dX4_become_16 : decode cX4_become 16 = .ok (.getfield 17, 3) := by decide +kernel
theorem dX4_become_19 : decode cX4_become 19 = .ok (.ifCond .eq 8, 3) := by decide +kernel
theorem dX4_become_27 : decode cX4_become 27 = .ok (.lload_n 1, 1) := by decide +kernel
theorem dX4_become_28 : decode cX4_become 28 = .ok (.lstore_n 3, 1) := by decide +kernel
theorem dX4_become_29 : decode cX4_become 29 = .ok (.aload_n 0, 1) := by decide +kernel
theorem dX4_become_30 : decode cX4_become 30 = .ok (.getfield 7, 3) := by decide +kernel
theorem dX4_become_33 : decode cX4_become 33 = .ok (.iconst 0, 1) := by decide +kernel
theorem dX4_become_34 : decode cX4_become 34 = .ok (.lload_n 3, 1) := by decide +kernel
theorem dX4_become_35 : decode cX4_become 35 = .ok (.l2i, 1) := by decide +kernel
theorem dX4_become_36 : decode cX4_become 36 = .ok (.iastore, 1) := by decide +kernel
theorem dX4_become_37 : decode cX4_become 37 = .ok (.aload_n 0, 1) := by decide +kernel
theorem dX4_become_38 : decode cX4_become 38 = .ok (.getfield 7, 3) := by decide +kernel
theorem dX4_become_41 : decode cX4_become 41 = .ok (.iconst 1, 1) := by decide +kernel
theorem dX4_become_42 : decode cX4_become 42 = .ok (.lload_n 3, 1) := by decide +kernel
theorem dX4_become_43 : decode cX4_become 43 = .ok (.bipush 32, 2) := by decide +kernel
theorem dX4_become_45 : decode cX4_become 45 = .ok (.lushr, 1) := by decide +kernel
theorem dX4_become_46 : decode cX4_become 46 = .ok (.l2i, 1) := by decide +kernel
theorem dX4_become_47 : decode cX4_become 47 = .ok (.iastore, 1) := by decide +kernel
theorem dX4_become_48 : decode cX4_become 48 = .ok (.aload_n 0, 1) := by decide +kernel
theorem dX4_become_49 : decode cX4_become 49 = .ok (.aload_n 0, 1) := by decide +kernel
theorem dX4_become_50 : decode cX4_become 50 = .ok (.getfield 7, 3) := by decide +kernel
theorem dX4_become_53 : decode cX4_become 53 = .ok (.iconst 1, 1) := by decide +kernel
theorem dX4_become_54 : decode cX4_become 54 = .ok (.iaload, 1) := by decide +kernel
theorem dX4_become_55 : decode cX4_become 55 = .ok (.ifCond .eq 7, 3) := by decide +kernel
theorem dX4_become_62 : decode cX4_become 62 = .ok (.aload_n 0, 1) := by decide +kernel
theorem dX4_become_63 : decode cX4_become 63 = .ok (.getfield 7, 3) := by decide +kernel
theorem dX4_become_66 : decode cX4_become 66 = .ok (.iconst 0, 1) := by decide +kernel
theorem dX4_become_67 : decode cX4_become 67 = .ok (.iaload, 1) := by decide +kernel
theorem dX4_become_68 : decode cX4_become 68 = .ok (.ifCond .eq 7, 3) := by decide +kernel
theorem dX4_become_71 : decode cX4_become 71 = .ok (.iconst 1, 1) := by decide +kernel
theorem dX4_become_72 : decode cX4_become 72 = .ok (.goto 4, 3) := by decide +kernel
theorem dX4_become_75 : decode cX4_become 75 = .ok (.iconst 0, 1) := by decide +kernel
theorem dX4_become_76 : decode cX4_become 76 = .ok (.putfield 13, 3) := by decide +kernel
theorem dX4_become_79 : decode cX4_become 79 = .ok (.return_, 1) := by decide +kernel
theorem dX4_bitsOfAmount_0 : decode cX4_bitsOfAmount 0 = .ok (.aload_n 0, 1) := by decide +kernel
theorem dX4_bitsOfAmount_1 : decode cX4_bitsOfAmount 1 = .ok (.getfield 13, 3) := by decide +kernel
theorem dX4_bitsOfAmount_4 : decode cX4_bitsOfAmount 4 = .ok (.ifCond .ne 7, 3) := by decide +kernel
theorem dX4_bitsOfAmount_7 : decode cX4_bitsOfAmount 7 = .ok (.iconst 0, 1) := by decide +kernel
theorem dX4_bitsOfAmount_8 : decode cX4_bitsOfAmount 8 = .ok (.goto 25, 3) := by decide +kernel
theorem dX4_bitsOfAmount_33 : decode cX4_bitsOfAmount 33 = .ok (.ireturn, 1) := by decide +kernel
theorem dX4_compareAmount_0 : decode cX4_compareAmount 0 = .ok (.aload_n 0, 1) := by decide +kernel
theorem dX4_compareAmount_1 : decode cX4_compareAmount 1 = .ok (.getfield 13, 3) := by decide +kernel
theorem dX4_compareAmount_4 : decode cX4_compareAmount 4 = .ok (.aload_n 1, 1) := by decide +kernel
theorem dX4_compareAmount_5 : decode cX4_compareAmount 5 = .ok (.getfield 13, 3) := by decide +kernel
theorem dX4_compareAmount_8 : decode cX4_compareAmount 8 = .ok (.if_icmp .eq 20, 3) := by decide +kernel
theorem dX4_compareAmount_28 : decode cX4_compareAmount 28 = .ok (.aload_n 0, 1) := by decide +kernel
theorem dX4_compareAmount_29 : decode cX4_compareAmount 29 = .ok (.getfield 13, 3) := by decide +kernel
theorem dX4_compareAmount_32 : decode cX4_compareAmount 32 = .ok (.iconst 1, 1) := by decide +kernel
theorem dX4_compareAmount_33 : decode cX4_compareAmount 33 = .ok (.isub, 1) := by decide +kernel
theorem dX4_compareAmount_34 : decode cX4_compareAmount 34 = .ok (.istore_n 2, 1) := by decide +kernel
theorem dX4_compareAmount_35 : decode cX4_compareAmount 35 = .ok (.iload_n 2, 1) := by decide +kernel
theorem dX4_compareAmount_36 : decode cX4_compareAmount 36 = .ok (.ifCond .lt 56, 3) := by decide +kernel
theorem dX4_compareAmount_92 : decode cX4_compareAmount 92 = .ok (.iconst 0, 1) := by decide +kernel
theorem dX4_compareAmount_93 : decode cX4_compareAmount 93 = .ok (.ireturn, 1) := by decide +kernel
theorem dX4_copyFrom_0 : decode cX4_copyFrom 0 = .ok (.aload_n 0, 1) := by decide +kernel
theorem dX4_copyFrom_1 : decode cX4_copyFrom 1 = .ok (.getfield 7, 3) := by decide +kernel
theorem dX4_copyFrom_4 : decode cX4_copyFrom 4 = .ok (.iconst 0, 1) := by decide +kernel
theorem dX4_copyFrom_5 : decode cX4_copyFrom 5 = .ok (.aload_n 1, 1) := by decide +kernel
theorem dX4_copyFrom_6 : decode cX4_copyFrom 6 = .ok (.getfield 7, 3) := by decide +kernel
theorem dX4_copyFrom_9 : decode cX4_copyFrom 9 = .ok (.iconst 0, 1) := by decide +kernel
theorem dX4_copyFrom_10 : decode cX4_copyFrom 10 = .ok (.iaload, 1) := by decide +kernel
theorem dX4_copyFrom_11 : decode cX4_copyFrom 11 = .ok (.iastore, 1) := by decide +kernel
theorem dX4_copyFrom_12 : decode cX4_copyFrom 12 = .ok (.aload_n 1, 1) := by decide +kernel
theorem dX4_copyFrom_13 : decode cX4_copyFrom 13 = .ok (.getfield 13, 3) := by decide +kernel
theorem dX4_copyFrom_16 : decode cX4_copyFrom 16 = .ok (.iconst 1, 1) := by decide +kernel
theorem dX4_copyFrom_17 : decode cX4_copyFrom 17 = .ok (.if_icmp .le 29, 3) := by decide +kernel
theorem dX4_copyFrom_46 : decode cX4_copyFrom 46 = .ok (.aload_n 0, 1) := by decide +kernel
theorem dX4_copyFrom_47 : decode cX4_copyFrom 47 = .ok (.aload_n 1, 1) := by decide +kernel
theorem dX4_copyFrom_48 : decode cX4_copyFrom 48 = .ok (.getfield 13, 3) := by decide +kernel
theorem dX4_copyFrom_51 : decode cX4_copyFrom 51 = .ok (.putfield 13, 3) := by decide +kernel
theorem dX4_copyFrom_54 : decode cX4_copyFrom 54 = .ok (.aload_n 0, 1) := by decide +kernel
theorem dX4_copyFrom_55 : decode cX4_copyFrom 55 = .ok (.aload_n 1, 1) := by decide +kernel
theorem dX4_copyFrom_56 : decode cX4_copyFrom 56 = .ok (.getfield 17, 3) := by decide +kernel
theorem dX4_copyFrom_59 : decode cX4_copyFrom 59 = .ok (.putfield 17, 3) := by decide +kernel
theorem dX4_copyFrom_62 : decode cX4_copyFrom 62 = .ok (.return_, 1) := by decide +kernel
theorem dX4_dropSign_0 : decode cX4_dropSign 0 = .ok (.aload_n 0, 1) := by decide +kernel
theorem dX4_dropSign_1 : decode cX4_dropSign 1 = .ok (.iconst 0, 1) := by decide +kernel
theorem dX4_dropSign_2 : decode cX4_dropSign 2 = .ok (.putfield 17, 3) := by decide +kernel
theorem dX4_dropSign_5 : decode cX4_dropSign 5 = .ok (.return_, 1) := by decide +kernel
theorem dX4_init_0 : decode cX4_init 0 = .ok (.aload_n 0, 1) := by decide +kernel
theorem dX4_init_1 : decode cX4_init 1 = .ok (.invokespecial 1, 3) := by decide +kernel
theorem dX4_init_4 : decode cX4_init 4 = .ok (.aload_n 0, 1) := by decide +kernel
theorem dX4_init_5 : decode cX4_init 5 = .ok (.iconst 2, 1) := by decide +kernel
theorem dX4_init_6 : decode cX4_init 6 = .ok (.newarray .int, 2) := by decide +kernel
theorem dX4_init_8 : decode cX4_init 8 = .ok (.putfield 7, 3) := by decide +kernel
theorem dX4_init_11 : decode cX4_init 11 = .ok (.aload_n 0, 1) := by decide +kernel
theorem dX4_init_12 : decode cX4_init 12 = .ok (.iconst 0, 1) := by decide +kernel
theorem dX4_init_13 : decode cX4_init 13 = .ok (.putfield 13, 3) := by decide +kernel
theorem dX4_init_16 : decode cX4_init 16 = .ok (.aload_n 0, 1) := by decide +kernel
theorem dX4_init_17 : decode cX4_init 17 = .ok (.iconst 0, 1) := by decide +kernel
theorem dX4_init_18 : decode cX4_init 18 = .ok (.putfield 17, 3) := by decide +kernel
theorem dX4_init_21 : decode cX4_init 21 = .ok (.return_, 1) := by decide +kernel
theorem dX4_isAmountBelow_0 : decode cX4_isAmountBelow 0 = .ok (.aload_n 0, 1) := by decide +kernel
theorem dX4_isAmountBelow_1 : decode cX4_isAmountBelow 1 = .ok (.getfield 13, 3) := by decide +kernel
theorem dX4_isAmountBelow_4 : decode cX4_isAmountBelow 4 = .ok (.iconst 1, 1) := by decide +kernel
theorem dX4_isAmountBelow_5 : decode cX4_isAmountBelow 5 = .ok (.if_icmp .gt 23, 3) := by decide +kernel
theorem dX4_isAmountBelow_8 : decode cX4_isAmountBelow 8 = .ok (.aload_n 0, 1) := by decide +kernel
theorem dX4_isAmountBelow_9 : decode cX4_isAmountBelow 9 = .ok (.getfield 7, 3) := by decide +kernel
theorem dX4_isAmountBelow_12 : decode cX4_isAmountBelow 12 = .ok (.iconst 0, 1) := by decide +kernel
theorem dX4_isAmountBelow_13 : decode cX4_isAmountBelow 13 = .ok (.iaload, 1) := by decide +kernel
theorem dX4_isAmountBelow_14 : decode cX4_isAmountBelow 14 = .ok (.i2l, 1) := by decide +kernel
theorem dX4_isAmountBelow_15 : decode cX4_isAmountBelow 15 = .ok (.ldc2_w 66, 3) := by decide +kernel
theorem dX4_isAmountBelow_18 : decode cX4_isAmountBelow 18 = .ok (.land, 1) := by decide +kernel
theorem dX4_isAmountBelow_19 : decode cX4_isAmountBelow 19 = .ok (.lload_n 1, 1) := by decide +kernel
theorem dX4_isAmountBelow_20 : decode cX4_isAmountBelow 20 = .ok (.lcmp, 1) := by decide +kernel
theorem dX4_isAmountBelow_21 : decode cX4_isAmountBelow 21 = .ok (.ifCond .ge 7, 3) := by decide +kernel
theorem dX4_isAmountBelow_24 : decode cX4_isAmountBelow 24 = .ok (.iconst 1, 1) := by decide +kernel
theorem dX4_isAmountBelow_25 : decode cX4_isAmountBelow 25 = .ok (.goto 4, 3) := by decide +kernel
theorem dX4_isAmountBelow_29 : decode cX4_isAmountBelow 29 = .ok (.ireturn, 1) := by decide +kernel
theorem dX4_isAnyBitBelow_0 : decode cX4_isAnyBitBelow 0 = .ok (.iload_n 1, 1) := by decide +kernel
theorem dX4_isAnyBitBelow_1 : decode cX4_isAnyBitBelow 1 = .ok (.bipush 32, 2) := by decide +kernel
theorem dX4_isAnyBitBelow_3 : decode cX4_isAnyBitBelow 3 = .ok (.idiv, 1) := by decide +kernel
theorem dX4_isAnyBitBelow_4 : decode cX4_isAnyBitBelow 4 = .ok (.istore_n 2, 1) := by decide +kernel
theorem dX4_isAnyBitBelow_5 : decode cX4_isAnyBitBelow 5 = .ok (.iconst 0, 1) := by decide +kernel
theorem dX4_isAnyBitBelow_6 : decode cX4_isAnyBitBelow 6 = .ok (.istore_n 3, 1) := by decide +kernel
theorem dX4_isAnyBitBelow_7 : decode cX4_isAnyBitBelow 7 = .ok (.iload_n 3, 1) := by decide +kernel
theorem dX4_isAnyBitBelow_8 : decode cX4_isAnyBitBelow 8 = .ok (.iload_n 2, 1) := by decide +kernel
theorem dX4_isAnyBitBelow_9 : decode cX4_isAnyBitBelow 9 = .ok (.if_icmp .ge 21, 3) := by decide +kernel
theorem dX4_isAnyBitBelow_30 : decode cX4_isAnyBitBelow 30 = .ok (.aload_n 0, 1) := by decide +kernel
theorem dX4_isAnyBitBelow_31 : decode cX4_isAnyBitBelow 31 = .ok (.iload_n 2, 1) := by decide +kernel
theorem dX4_isAnyBitBelow_32 : decode cX4_isAnyBitBelow 32 = .ok (.invokevirtual 87, 3) := by decide +kernel
theorem dX4_isAnyBitBelow_35 : decode cX4_isAnyBitBelow 35 = .ok (.lconst 1, 1) := by decide +kernel
theorem dX4_isAnyBitBelow_36 : decode cX4_isAnyBitBelow 36 = .ok (.iload_n 1, 1) := by decide +kernel
theorem dX4_isAnyBitBelow_37 : decode cX4_isAnyBitBelow 37 = .ok (.bipush 32, 2) := by decide +kernel
theorem dX4_isAnyBitBelow_39 : decode cX4_isAnyBitBelow 39 = .ok (.irem, 1) := by decide +kernel
theorem dX4_isAnyBitBelow_40 : decode cX4_isAnyBitBelow 40 = .ok (.lshl, 1) := by decide +kernel
theorem dX4_isAnyBitBelow_41 : decode cX4_isAnyBitBelow 41 = .ok (.lconst 1, 1) := by decide +kernel
theorem dX4_isAnyBitBelow_42 : decode cX4_isAnyBitBelow 42 = .ok (.lsub, 1) := by decide +kernel
theorem dX4_isAnyBitBelow_43 : decode cX4_isAnyBitBelow 43 = .ok (.land, 1) := by decide +kernel
theorem dX4_isAnyBitBelow_44 : decode cX4_isAnyBitBelow 44 = .ok (.lconst 0, 1) := by decide +kernel
theorem dX4_isAnyBitBelow_45 : decode cX4_isAnyBitBelow 45 = .ok (.lcmp, 1) := by decide +kernel
theorem dX4_isAnyBitBelow_46 : decode cX4_isAnyBitBelow 46 = .ok (.ifCond .eq 7, 3) := by decide +kernel
theorem dX4_isAnyBitBelow_53 : decode cX4_isAnyBitBelow 53 = .ok (.iconst 0, 1) := by decide +kernel
theorem dX4_isAnyBitBelow_54 : decode cX4_isAnyBitBelow 54 = .ok (.ireturn, 1) := by decide +kernel
theorem dX4_isZero_0 : decode cX4_isZero 0 = .ok (.aload_n 0, 1) := by decide +kernel
theorem dX4_isZero_1 : decode cX4_isZero 1 = .ok (.getfield 13, 3) := by decide +kernel
theorem dX4_isZero_4 : decode cX4_isZero 4 = .ok (.ifCond .ne 7, 3) := by decide +kernel
theorem dX4_isZero_7 : decode cX4_isZero 7 = .ok (.iconst 1, 1) := by decide +kernel
theorem dX4_isZero_8 : decode cX4_isZero 8 = .ok (.goto 4, 3) := by decide +kernel
theorem dX4_isZero_12 : decode cX4_isZero 12 = .ok (.ireturn, 1) := by decide +kernel
theorem dX4_limbAt_0 : decode cX4_limbAt 0 = .ok (.iload_n 1, 1) := by decide +kernel
theorem dX4_limbAt_1 : decode cX4_limbAt 1 = .ok (.aload_n 0, 1) := by decide +kernel
theorem dX4_limbAt_2 : decode cX4_limbAt 2 = .ok (.getfield 13, 3) := by decide +kernel
theorem dX4_limbAt_5 : decode cX4_limbAt 5 = .ok (.if_icmp .ge 17, 3) := by decide +kernel
theorem dX4_limbAt_22 : decode cX4_limbAt 22 = .ok (.lconst 0, 1) := by decide +kernel
theorem dX4_limbAt_23 : decode cX4_limbAt 23 = .ok (.lreturn, 1) := by decide +kernel
theorem dX4_lowest_0 : decode cX4_lowest 0 = .ok (.aload_n 0, 1) := by decide +kernel
theorem dX4_lowest_1 : decode cX4_lowest 1 = .ok (.getfield 17, 3) := by decide +kernel
theorem dX4_lowest_4 : decode cX4_lowest 4 = .ok (.ifCond .eq 18, 3) := by decide +kernel
theorem dX4_lowest_22 : decode cX4_lowest 22 = .ok (.aload_n 0, 1) := by decide +kernel
theorem dX4_lowest_23 : decode cX4_lowest 23 = .ok (.getfield 7, 3) := by decide +kernel
theorem dX4_lowest_26 : decode cX4_lowest 26 = .ok (.iconst 0, 1) := by decide +kernel
theorem dX4_lowest_27 : decode cX4_lowest 27 = .ok (.iaload, 1) := by decide +kernel
theorem dX4_lowest_28 : decode cX4_lowest 28 = .ok (.i2l, 1) := by decide +kernel
theorem dX4_lowest_29 : decode cX4_lowest 29 = .ok (.ldc2_w 66, 3) := by decide +kernel
theorem dX4_lowest_32 : decode cX4_lowest 32 = .ok (.land, 1) := by decide +kernel
theorem dX4_lowest_33 : decode cX4_lowest 33 = .ok (.lreturn, 1) := by decide +kernel
theorem dX4_restOfAmount_0 : decode cX4_restOfAmount 0 = .ok (.lconst 0, 1) := by decide +kernel
theorem dX4_restOfAmount_1 : decode cX4_restOfAmount 1 = .ok (.lstore_n 3, 1) := by decide +kernel
theorem dX4_restOfAmount_2 : decode cX4_restOfAmount 2 = .ok (.aload_n 0, 1) := by decide +kernel
theorem dX4_restOfAmount_3 : decode cX4_restOfAmount 3 = .ok (.getfield 13, 3) := by decide +kernel
theorem dX4_restOfAmount_6 : decode cX4_restOfAmount 6 = .ok (.iconst 1, 1) := by decide +kernel
theorem dX4_restOfAmount_7 : decode cX4_restOfAmount 7 = .ok (.isub, 1) := by decide +kernel
theorem dX4_restOfAmount_8 : decode cX4_restOfAmount 8 = .ok (.istore 5, 2) := by decide +kernel
theorem dX4_restOfAmount_10 : decode cX4_restOfAmount 10 = .ok (.iload 5, 2) := by decide +kernel
theorem dX4_restOfAmount_12 : decode cX4_restOfAmount 12 = .ok (.ifCond .lt 35, 3) := by decide +kernel
theorem dX4_restOfAmount_47 : decode cX4_restOfAmount 47 = .ok (.lload_n 3, 1) := by decide +kernel
theorem dX4_restOfAmount_48 : decode cX4_restOfAmount 48 = .ok (.lreturn, 1) := by decide +kernel
theorem dX4_scale_0 : decode cX4_scale 0 = .ok (.lload_n 3, 1) := by decide +kernel
theorem dX4_scale_1 : decode cX4_scale 1 = .ok (.lconst 0, 1) := by decide +kernel
theorem dX4_scale_2 : decode cX4_scale 2 = .ok (.lcmp, 1) := by decide +kernel
theorem dX4_scale_3 : decode cX4_scale 3 = .ok (.ifCond .gt 4, 3) := by decide +kernel
theorem dX4_scale_7 : decode cX4_scale 7 = .ok (.aload_n 0, 1) := by decide +kernel
theorem dX4_scale_8 : decode cX4_scale 8 = .ok (.getfield 13, 3) := by decide +kernel
theorem dX4_scale_11 : decode cX4_scale 11 = .ok (.iconst 1, 1) := by decide +kernel
theorem dX4_scale_12 : decode cX4_scale 12 = .ok (.if_icmp .gt 18, 3) := by decide +kernel
theorem dX4_scale_15 : decode cX4_scale 15 = .ok (.aload_n 0, 1) := by decide +kernel
theorem dX4_scale_16 : decode cX4_scale 16 = .ok (.aload_n 0, 1) := by decide +kernel
theorem dX4_scale_17 : decode cX4_scale 17 = .ok (.invokevirtual 31, 3) := by decide +kernel
theorem dX4_scale_20 : decode cX4_scale 20 = .ok (.lload_n 1, 1) := by decide +kernel
theorem dX4_scale_21 : decode cX4_scale 21 = .ok (.lmul, 1) := by decide +kernel
theorem dX4_scale_22 : decode cX4_scale 22 = .ok (.lload_n 3, 1) := by decide +kernel
theorem dX4_scale_23 : decode cX4_scale 23 = .ok (.invokestatic 55, 3) := by decide +kernel
theorem dX4_scale_26 : decode cX4_scale 26 = .ok (.invokevirtual 35, 3) := by decide +kernel
theorem dX4_scale_29 : decode cX4_scale 29 = .ok (.return_, 1) := by decide +kernel
theorem dX4_toDouble_0 : decode cX4_toDouble 0 = .ok (.iconst 0, 1) := by decide +kernel
theorem dX4_toDouble_1 : decode cX4_toDouble 1 = .ok (.aload_n 0, 1) := by decide +kernel
theorem dX4_toDouble_2 : decode cX4_toDouble 2 = .ok (.invokevirtual 77, 3) := by decide +kernel
theorem dX4_toDouble_5 : decode cX4_toDouble 5 = .ok (.bipush 62, 2) := by decide +kernel
theorem dX4_toDouble_7 : decode cX4_toDouble 7 = .ok (.isub, 1) := by decide +kernel
theorem dX4_toDouble_8 : decode cX4_toDouble 8 = .ok (.invokestatic 39, 3) := by decide +kernel
theorem dX4_toDouble_11 : decode cX4_toDouble 11 = .ok (.istore_n 1, 1) := by decide +kernel
theorem dX4_toDouble_12 : decode cX4_toDouble 12 = .ok (.aload_n 0, 1) := by decide +kernel
theorem dX4_toDouble_13 : decode cX4_toDouble 13 = .ok (.iload_n 1, 1) := by decide +kernel
theorem dX4_toDouble_14 : decode cX4_toDouble 14 = .ok (.invokevirtual 81, 3) := by decide +kernel
theorem dX4_toDouble_17 : decode cX4_toDouble 17 = .ok (.ifCond .eq 13, 3) := by decide +kernel
theorem dX4_toDouble_30 : decode cX4_toDouble 30 = .ok (.aload_n 0, 1) := by decide +kernel
theorem dX4_toDouble_31 : decode cX4_toDouble 31 = .ok (.iload_n 1, 1) := by decide +kernel
theorem dX4_toDouble_32 : decode cX4_toDouble 32 = .ok (.invokevirtual 73, 3) := by decide +kernel
theorem dX4_toDouble_35 : decode cX4_toDouble 35 = .ok (.lstore_n 2, 1) := by decide +kernel
theorem dX4_toDouble_36 : decode cX4_toDouble 36 = .ok (.aload_n 0, 1) := by decide +kernel
theorem dX4_toDouble_37 : decode cX4_toDouble 37 = .ok (.getfield 17, 3) := by decide +kernel
theorem dX4_toDouble_40 : decode cX4_toDouble 40 = .ok (.ifCond .eq 8, 3) := by decide +kernel
theorem dX4_toDouble_48 : decode cX4_toDouble 48 = .ok (.lload_n 2, 1) := by decide +kernel
theorem dX4_toDouble_49 : decode cX4_toDouble 49 = .ok (.l2d, 1) := by decide +kernel
theorem dX4_toDouble_50 : decode cX4_toDouble 50 = .ok (.dstore 4, 2) := by decide +kernel
theorem dX4_toDouble_52 : decode cX4_toDouble 52 = .ok (.iconst 0, 1) := by decide +kernel
theorem dX4_toDouble_53 : decode cX4_toDouble 53 = .ok (.istore 6, 2) := by decide +kernel
theorem dX4_toDouble_55 : decode cX4_toDouble 55 = .ok (.iload 6, 2) := by decide +kernel
theorem dX4_toDouble_57 : decode cX4_toDouble 57 = .ok (.iload_n 1, 1) := by decide +kernel
theorem dX4_toDouble_58 : decode cX4_toDouble 58 = .ok (.if_icmp .ge 17, 3) := by decide +kernel
theorem dX4_toDouble_75 : decode cX4_toDouble 75 = .ok (.dload 4, 2) := by decide +kernel
theorem dX4_toDouble_77 : decode cX4_toDouble 77 = .ok (.dreturn, 1) := by decide +kernel
theorem dX4_toLong_0 : decode cX4_toLong 0 = .ok (.aload_n 0, 1) := by decide +kernel
theorem dX4_toLong_1 : decode cX4_toLong 1 = .ok (.getfield 17, 3) := by decide +kernel
theorem dX4_toLong_4 : decode cX4_toLong 4 = .ok (.ifCond .eq 12, 3) := by decide +kernel
theorem dX4_toLong_16 : decode cX4_toLong 16 = .ok (.aload_n 0, 1) := by decide +kernel
theorem dX4_toLong_17 : decode cX4_toLong 17 = .ok (.iconst 0, 1) := by decide +kernel
theorem dX4_toLong_18 : decode cX4_toLong 18 = .ok (.invokevirtual 73, 3) := by decide +kernel
theorem dX4_toLong_21 : decode cX4_toLong 21 = .ok (.lreturn, 1) := by decide +kernel
theorem dX5_append_0 : decode cX5_append 0 = .ok (.aload_n 0, 1) := by decide +kernel
theorem dX5_append_1 : decode cX5_append 1 = .ok (.getfield 12, 3) := by decide +kernel
theorem dX5_append_4 : decode cX5_append 4 = .ok (.invokevirtual 66, 3) := by decide +kernel
theorem dX5_append_7 : decode cX5_append 7 = .ok (.ifCond .ne 5, 3) := by decide +kernel
theorem dX5_append_12 : decode cX5_append 12 = .ok (.aload_n 0, 1) := by decide +kernel
theorem dX5_append_13 : decode cX5_append 13 = .ok (.getfield 12, 3) := by decide +kernel
theorem dX5_append_16 : decode cX5_append 16 = .ok (.iload_n 1, 1) := by decide +kernel
theorem dX5_append_17 : decode cX5_append 17 = .ok (.invokevirtual 70, 3) := by decide +kernel
theorem dX5_append_20 : decode cX5_append 20 = .ok (.aload_n 0, 1) := by decide +kernel
theorem dX5_append_21 : decode cX5_append 21 = .ok (.getfield 12, 3) := by decide +kernel
theorem dX5_append_24 : decode cX5_append 24 = .ok (.iload_n 2, 1) := by decide +kernel
theorem dX5_append_25 : decode cX5_append 25 = .ok (.invokevirtual 70, 3) := by decide +kernel
theorem dX5_append_28 : decode cX5_append 28 = .ok (.aload_n 0, 1) := by decide +kernel
theorem dX5_append_29 : decode cX5_append 29 = .ok (.getfield 12, 3) := by decide +kernel
theorem dX5_append_32 : decode cX5_append 32 = .ok (.iload_n 3, 1) := by decide +kernel
theorem dX5_append_33 : decode cX5_append 33 = .ok (.invokevirtual 70, 3) := by decide +kernel
theorem dX5_append_36 : decode cX5_append 36 = .ok (.aload_n 0, 1) := by decide +kernel
theorem dX5_append_37 : decode cX5_append 37 = .ok (.getfield 12, 3) := by decide +kernel
theorem dX5_append_40 : decode cX5_append 40 = .ok (.iload 4, 2) := by decide +kernel
theorem dX5_append_42 : decode cX5_append 42 = .ok (.invokevirtual 70, 3) := by decide +kernel
theorem dX5_append_45 : decode cX5_append 45 = .ok (.aload_n 0, 1) := by decide +kernel
theorem dX5_append_46 : decode cX5_append 46 = .ok (.getfield 12, 3) := by decide +kernel
theorem dX5_append_49 : decode cX5_append 49 = .ok (.iload 5, 2) := by decide +kernel
theorem dX5_append_51 : decode cX5_append 51 = .ok (.invokevirtual 70, 3) := by decide +kernel
theorem dX5_append_54 : decode cX5_append 54 = .ok (.aload_n 0, 1) := by decide +kernel
theorem dX5_append_55 : decode cX5_append 55 = .ok (.getfield 12, 3) := by decide +kernel
theorem dX5_append_58 : decode cX5_append 58 = .ok (.getfield 74, 3) := by decide +kernel
theorem dX5_append_61 : decode cX5_append 61 = .ok (.ireturn, 1) := by decide +kernel
theorem dX5_beginTrial_0 : decode cX5_beginTrial 0 = .ok (.aload_n 0, 1) := by decide +kernel
theorem dX5_beginTrial_1 : decode cX5_beginTrial 1 = .ok (.getfield 35, 3) := by decide +kernel
theorem dX5_beginTrial_4 : decode cX5_beginTrial 4 = .ok (.invokevirtual 60, 3) := by decide +kernel
theorem dX5_beginTrial_7 : decode cX5_beginTrial 7 = .ok (.aload_n 0, 1) := by decide +kernel
theorem dX5_beginTrial_8 : decode cX5_beginTrial 8 = .ok (.getfield 35, 3) := by decide +kernel
theorem dX5_beginTrial_11 : decode cX5_beginTrial 11 = .ok (.iload_n 1, 1) := by decide +kernel
theorem dX5_beginTrial_12 : decode cX5_beginTrial 12 = .ok (.putfield 113, 3) := by decide +kernel
theorem dX5_beginTrial_15 : decode cX5_beginTrial 15 = .ok (.aload_n 0, 1) := by decide +kernel
theorem dX5_beginTrial_16 : decode cX5_beginTrial 16 = .ok (.getfield 35, 3) := by decide +kernel
theorem dX5_beginTrial_19 : decode cX5_beginTrial 19 = .ok (.iload_n 2, 1) := by decide +kernel
theorem dX5_beginTrial_20 : decode cX5_beginTrial 20 = .ok (.putfield 116, 3) := by decide +kernel
theorem dX5_beginTrial_23 : decode cX5_beginTrial 23 = .ok (.aload_n 0, 1) := by decide +kernel
theorem dX5_beginTrial_24 : decode cX5_beginTrial 24 = .ok (.getfield 35, 3) := by decide +kernel
theorem dX5_beginTrial_27 : decode cX5_beginTrial 27 = .ok (.aload_n 0, 1) := by decide +kernel
theorem dX5_beginTrial_28 : decode cX5_beginTrial 28 = .ok (.getfield 31, 3) := by decide +kernel
theorem dX5_beginTrial_31 : decode cX5_beginTrial 31 = .ok (.getfield 119, 3) := by decide +kernel
theorem dX5_beginTrial_34 : decode cX5_beginTrial 34 = .ok (.putfield 119, 3) := by decide +kernel
theorem dX5_beginTrial_37 : decode cX5_beginTrial 37 = .ok (.return_, 1) := by decide +kernel
theorem dX5_bestScheme_0 : decode cX5_bestScheme 0 = .ok (.iconst 0, 1) := by decide +kernel
theorem dX5_bestScheme_1 : decode cX5_bestScheme 1 = .ok (.istore_n 1, 1) := by decide +kernel
theorem dX5_bestScheme_2 : decode cX5_bestScheme 2 = .ok (.iconst 0, 1) := by decide +kernel
theorem dX5_bestScheme_3 : decode cX5_bestScheme 3 = .ok (.istore_n 2, 1) := by decide +kernel
theorem dX5_bestScheme_4 : decode cX5_bestScheme 4 = .ok (.iconst 0, 1) := by decide +kernel
theorem dX5_bestScheme_5 : decode cX5_bestScheme 5 = .ok (.istore_n 3, 1) := by decide +kernel
theorem dX5_bestScheme_6 : decode cX5_bestScheme 6 = .ok (.iload_n 3, 1) := by decide +kernel
theorem dX5_bestScheme_7 : decode cX5_bestScheme 7 = .ok (.bipush 9, 2) := by decide +kernel
theorem dX5_bestScheme_9 : decode cX5_bestScheme 9 = .ok (.if_icmp .ge 53, 3) := by decide +kernel
theorem dX5_bestScheme_12 : decode cX5_bestScheme 12 = .ok (.aload_n 0, 1) := by decide +kernel
theorem dX5_bestScheme_13 : decode cX5_bestScheme 13 = .ok (.iload_n 3, 1) := by decide +kernel
theorem dX5_bestScheme_14 : decode cX5_bestScheme 14 = .ok (.iconst 3, 1) := by decide +kernel
theorem dX5_bestScheme_15 : decode cX5_bestScheme 15 = .ok (.idiv, 1) := by decide +kernel
theorem dX5_bestScheme_16 : decode cX5_bestScheme 16 = .ok (.iload_n 3, 1) := by decide +kernel
theorem dX5_bestScheme_17 : decode cX5_bestScheme 17 = .ok (.iconst 3, 1) := by decide +kernel
theorem dX5_bestScheme_18 : decode cX5_bestScheme 18 = .ok (.irem, 1) := by decide +kernel
theorem dX5_bestScheme_19 : decode cX5_bestScheme 19 = .ok (.invokevirtual 314, 3) := by decide +kernel
theorem dX5_bestScheme_22 : decode cX5_bestScheme 22 = .ok (.aload_n 0, 1) := by decide +kernel
theorem dX5_bestScheme_23 : decode cX5_bestScheme 23 = .ok (.getfield 35, 3) := by decide +kernel
theorem dX5_bestScheme_26 : decode cX5_bestScheme 26 = .ok (.bipush 46, 2) := by decide +kernel
theorem dX5_bestScheme_28 : decode cX5_bestScheme 28 = .ok (.invokevirtual 261, 3) := by decide +kernel
theorem dX5_bestScheme_31 : decode cX5_bestScheme 31 = .ok (.pop, 1) := by decide +kernel
theorem dX5_bestScheme_32 : decode cX5_bestScheme 32 = .ok (.aload_n 0, 1) := by decide +kernel
theorem dX5_bestScheme_33 : decode cX5_bestScheme 33 = .ok (.getfield 35, 3) := by decide +kernel
theorem dX5_bestScheme_36 : decode cX5_bestScheme 36 = .ok (.invokevirtual 238, 3) := by decide +kernel
theorem dX5_bestScheme_39 : decode cX5_bestScheme 39 = .ok (.istore 4, 2) := by decide +kernel
theorem dX5_bestScheme_41 : decode cX5_bestScheme 41 = .ok (.iload_n 3, 1) := by decide +kernel
theorem dX5_bestScheme_42 : decode cX5_bestScheme 42 = .ok (.ifCond .eq 9, 3) := by decide +kernel
theorem dX5_bestScheme_45 : decode cX5_bestScheme 45 = .ok (.iload 4, 2) := by decide +kernel
theorem dX5_bestScheme_47 : decode cX5_bestScheme 47 = .ok (.iload_n 2, 1) := by decide +kernel
theorem dX5_bestScheme_48 : decode cX5_bestScheme 48 = .ok (.if_icmp .ge 8, 3) := by decide +kernel
theorem dX5_bestScheme_51 : decode cX5_bestScheme 51 = .ok (.iload_n 3, 1) := by decide +kernel
theorem dX5_bestScheme_52 : decode cX5_bestScheme 52 = .ok (.istore_n 1, 1) := by decide +kernel
theorem dX5_bestScheme_53 : decode cX5_bestScheme 53 = .ok (.iload 4, 2) := by decide +kernel
theorem dX5_bestScheme_55 : decode cX5_bestScheme 55 = .ok (.istore_n 2, 1) := by decide +kernel
theorem dX5_bestScheme_56 : decode cX5_bestScheme 56 = .ok (.iinc 3 1, 3) := by decide +kernel
theorem dX5_bestScheme_59 : decode cX5_bestScheme 59 = .ok (.goto (-53), 3) := by decide +kernel
theorem dX5_bestScheme_62 : decode cX5_bestScheme 62 = .ok (.iload_n 1, 1) := by decide +kernel
theorem dX5_bestScheme_63 : decode cX5_bestScheme 63 = .ok (.ireturn, 1) := by decide +kernel
theorem dX5_bestThreshold_0 : decode cX5_bestThreshold 0 = .ok (.iload_n 1, 1) := by decide +kernel
theorem dX5_bestThreshold_1 : decode cX5_bestThreshold 1 = .ok (.iconst 0, 1) := by decide +kernel
theorem dX5_bestThreshold_2 : decode cX5_bestThreshold 2 = .ok (.ldc_w 272, 3) := by decide +kernel
theorem dX5_bestThreshold_5 : decode cX5_bestThreshold 5 = .ok (.invokestatic 212, 3) := by decide +kernel
theorem dX5_bestThreshold_8 : decode cX5_bestThreshold 8 = .ok (.ldc2_w 303, 3) := by decide +kernel
theorem dX5_bestThreshold_11 : decode cX5_bestThreshold 11 = .ok (.lstore_n 2, 1) := by decide +kernel
theorem dX5_bestThreshold_12 : decode cX5_bestThreshold 12 = .ok (.iconst 0, 1) := by decide +kernel
theorem dX5_bestThreshold_13 : decode cX5_bestThreshold 13 = .ok (.istore 4, 2) := by decide +kernel
theorem dX5_bestThreshold_15 : decode cX5_bestThreshold 15 = .ok (.iload 4, 2) := by decide +kernel
theorem dX5_bestThreshold_17 : decode cX5_bestThreshold 17 = .ok (.bipush 46, 2) := by decide +kernel
theorem dX5_bestThreshold_19 : decode cX5_bestThreshold 19 = .ok (.if_icmp .gt 44, 3) := by decide +kernel
theorem dX5_bestThreshold_22 : decode cX5_bestThreshold 22 = .ok (.lload_n 2, 1) := by decide +kernel
theorem dX5_bestThreshold_23 : decode cX5_bestThreshold 23 = .ok (.lconst 0, 1) := by decide +kernel
theorem dX5_bestThreshold_24 : decode cX5_bestThreshold 24 = .ok (.lcmp, 1) := by decide +kernel
theorem dX5_bestThreshold_25 : decode cX5_bestThreshold 25 = .ok (.ifCond .lt 38, 3) := by decide +kernel
theorem dX5_bestThreshold_28 : decode cX5_bestThreshold 28 = .ok (.aload_n 0, 1) := by decide +kernel
theorem dX5_bestThreshold_29 : decode cX5_bestThreshold 29 = .ok (.lload_n 2, 1) := by decide +kernel
theorem dX5_bestThreshold_30 : decode cX5_bestThreshold 30 = .ok (.l2i, 1) := by decide +kernel
theorem dX5_bestThreshold_31 : decode cX5_bestThreshold 31 = .ok (.iconst 0, 1) := by decide +kernel
theorem dX5_bestThreshold_32 : decode cX5_bestThreshold 32 = .ok (.invokevirtual 299, 3) := by decide +kernel
theorem dX5_bestThreshold_35 : decode cX5_bestThreshold 35 = .ok (.iload_n 1, 1) := by decide +kernel
theorem dX5_bestThreshold_36 : decode cX5_bestThreshold 36 = .ok (.i2l, 1) := by decide +kernel
theorem dX5_bestThreshold_37 : decode cX5_bestThreshold 37 = .ok (.lconst 1, 1) := by decide +kernel
theorem dX5_bestThreshold_38 : decode cX5_bestThreshold 38 = .ok (.ladd, 1) := by decide +kernel
theorem dX5_bestThreshold_39 : decode cX5_bestThreshold 39 = .ok (.invokevirtual 305, 3) := by decide +kernel
theorem dX5_bestThreshold_42 : decode cX5_bestThreshold 42 = .ok (.ifCond .eq 6, 3) := by decide +kernel
theorem dX5_bestThreshold_45 : decode cX5_bestThreshold 45 = .ok (.lload_n 2, 1) := by decide +kernel
theorem dX5_bestThreshold_46 : decode cX5_bestThreshold 46 = .ok (.l2i, 1) := by decide +kernel
theorem dX5_bestThreshold_47 : decode cX5_bestThreshold 47 = .ok (.ireturn, 1) := by decide +kernel
theorem dX5_bits_0 : decode cX5_bits 0 = .ok (.aload_n 0, 1) := by decide +kernel
theorem dX5_bits_1 : decode cX5_bits 1 = .ok (.getfield 31, 3) := by decide +kernel
theorem dX5_bits_4 : decode cX5_bits 4 = .ok (.invokevirtual 238, 3) := by decide +kernel
theorem dX5_bits_7 : decode cX5_bits 7 = .ok (.ireturn, 1) := by decide +kernel
theorem dX5_bitsBy_0 : decode cX5_bitsBy 0 = .ok (.iload_n 1, 1) := by decide +kernel
theorem dX5_bitsBy_1 : decode cX5_bitsBy 1 = .ok (.iconst 0, 1) := by decide +kernel
theorem dX5_bitsBy_2 : decode cX5_bitsBy 2 = .ok (.iconst 2, 1) := by decide +kernel
theorem dX5_bitsBy_3 : decode cX5_bitsBy 3 = .ok (.invokestatic 212, 3) := by decide +kernel
theorem dX5_bitsBy_6 : decode cX5_bitsBy 6 = .ok (.iload_n 2, 1) := by decide +kernel
theorem dX5_bitsBy_7 : decode cX5_bitsBy 7 = .ok (.iconst 0, 1) := by decide +kernel
theorem dX5_bitsBy_8 : decode cX5_bitsBy 8 = .ok (.iconst 2, 1) := by decide +kernel
theorem dX5_bitsBy_9 : decode cX5_bitsBy 9 = .ok (.invokestatic 212, 3) := by decide +kernel
theorem dX5_bitsBy_12 : decode cX5_bitsBy 12 = .ok (.aload_n 0, 1) := by decide +kernel
theorem dX5_bitsBy_13 : decode cX5_bitsBy 13 = .ok (.iload_n 1, 1) := by decide +kernel
theorem dX5_bitsBy_14 : decode cX5_bitsBy 14 = .ok (.iload_n 2, 1) := by decide +kernel
theorem dX5_bitsBy_15 : decode cX5_bitsBy 15 = .ok (.invokevirtual 314, 3) := by decide +kernel
theorem dX5_bitsBy_18 : decode cX5_bitsBy 18 = .ok (.aload_n 0, 1) := by decide +kernel
theorem dX5_bitsBy_19 : decode cX5_bitsBy 19 = .ok (.getfield 35, 3) := by decide +kernel
theorem dX5_bitsBy_22 : decode cX5_bitsBy 22 = .ok (.bipush 46, 2) := by decide +kernel
theorem dX5_bitsBy_24 : decode cX5_bitsBy 24 = .ok (.invokevirtual 261, 3) := by decide +kernel
theorem dX5_bitsBy_27 : decode cX5_bitsBy 27 = .ok (.pop, 1) := by decide +kernel
theorem dX5_bitsBy_28 : decode cX5_bitsBy 28 = .ok (.aload_n 0, 1) := by decide +kernel
theorem dX5_bitsBy_29 : decode cX5_bitsBy 29 = .ok (.getfield 35, 3) := by decide +kernel
theorem dX5_bitsBy_32 : decode cX5_bitsBy 32 = .ok (.invokevirtual 238, 3) := by decide +kernel
theorem dX5_bitsBy_35 : decode cX5_bitsBy 35 = .ok (.ireturn, 1) := by decide +kernel
theorem dX5_commonDivisor_0 : decode cX5_commonDivisor 0 = .ok (.lload_n 0, 1) := by decide +kernel
theorem dX5_commonDivisor_1 : decode cX5_commonDivisor 1 = .ok (.lconst 1, 1) := by decide +kernel
theorem dX5_commonDivisor_2 : decode cX5_commonDivisor 2 = .ok (.invokestatic 328, 3) := by decide +kernel
theorem dX5_commonDivisor_5 : decode cX5_commonDivisor 5 = .ok (.lstore 4, 2) := by decide +kernel
theorem dX5_commonDivisor_7 : decode cX5_commonDivisor 7 = .ok (.lload_n 2, 1) := by decide +kernel
theorem dX5_commonDivisor_8 : decode cX5_commonDivisor 8 = .ok (.lstore 6, 2) := by decide +kernel
theorem dX5_commonDivisor_10 : decode cX5_commonDivisor 10 = .ok (.iconst 0, 1) := by decide +kernel
theorem dX5_commonDivisor_11 : decode cX5_commonDivisor 11 = .ok (.istore 8, 2) := by decide +kernel
theorem dX5_commonDivisor_13 : decode cX5_commonDivisor 13 = .ok (.iload 8, 2) := by decide +kernel
theorem dX5_commonDivisor_15 : decode cX5_commonDivisor 15 = .ok (.sipush 1000, 3) := by decide +kernel
theorem dX5_commonDivisor_18 : decode cX5_commonDivisor 18 = .ok (.if_icmp .ge 31, 3) := by decide +kernel
theorem dX5_commonDivisor_21 : decode cX5_commonDivisor 21 = .ok (.lload 6, 2) := by decide +kernel
theorem dX5_commonDivisor_23 : decode cX5_commonDivisor 23 = .ok (.lconst 0, 1) := by decide +kernel
theorem dX5_commonDivisor_24 : decode cX5_commonDivisor 24 = .ok (.lcmp, 1) := by decide +kernel
theorem dX5_commonDivisor_25 : decode cX5_commonDivisor 25 = .ok (.ifCond .le 24, 3) := by decide +kernel
theorem dX5_commonDivisor_49 : decode cX5_commonDivisor 49 = .ok (.lload 4, 2) := by decide +kernel
theorem dX5_commonDivisor_51 : decode cX5_commonDivisor 51 = .ok (.lreturn, 1) := by decide +kernel
theorem dX5_count_0 : decode cX5_count 0 = .ok (.iload_n 1, 1) := by decide +kernel
theorem dX5_count_1 : decode cX5_count 1 = .ok (.tableswitch 132 0 8 #[51, 59, 67, 75, 83, 91, 99, 115, 123], 51) := by decide +kernel
theorem dX5_count_52 : decode cX5_count 52 = .ok (.aload_n 0, 1) := by decide +kernel
theorem dX5_count_53 : decode cX5_count 53 = .ok (.getfield 19, 3) := by decide +kernel
theorem dX5_count_56 : decode cX5_count 56 = .ok (.getfield 94, 3) := by decide +kernel
theorem dX5_count_59 : decode cX5_count 59 = .ok (.ireturn, 1) := by decide +kernel
theorem dX5_count_60 : decode cX5_count 60 = .ok (.aload_n 0, 1) := by decide +kernel
theorem dX5_count_61 : decode cX5_count 61 = .ok (.getfield 31, 3) := by decide +kernel
theorem dX5_count_64 : decode cX5_count 64 = .ok (.invokevirtual 103, 3) := by decide +kernel
theorem dX5_count_67 : decode cX5_count 67 = .ok (.ireturn, 1) := by decide +kernel
theorem dX5_count_68 : decode cX5_count 68 = .ok (.aload_n 0, 1) := by decide +kernel
theorem dX5_count_69 : decode cX5_count 69 = .ok (.getfield 31, 3) := by decide +kernel
theorem dX5_count_72 : decode cX5_count 72 = .ok (.getfield 107, 3) := by decide +kernel
theorem dX5_count_75 : decode cX5_count 75 = .ok (.ireturn, 1) := by decide +kernel
theorem dX5_count_76 : decode cX5_count 76 = .ok (.aload_n 0, 1) := by decide +kernel
theorem dX5_count_77 : decode cX5_count 77 = .ok (.getfield 31, 3) := by decide +kernel
theorem dX5_count_80 : decode cX5_count 80 = .ok (.invokevirtual 110, 3) := by decide +kernel
theorem dX5_count_83 : decode cX5_count 83 = .ok (.ireturn, 1) := by decide +kernel
theorem dX5_count_84 : decode cX5_count 84 = .ok (.aload_n 0, 1) := by decide +kernel
theorem dX5_count_85 : decode cX5_count 85 = .ok (.getfield 31, 3) := by decide +kernel
theorem dX5_count_88 : decode cX5_count 88 = .ok (.getfield 113, 3) := by decide +kernel
theorem dX5_count_91 : decode cX5_count 91 = .ok (.ireturn, 1) := by decide +kernel
theorem dX5_count_92 : decode cX5_count 92 = .ok (.aload_n 0, 1) := by decide +kernel
theorem dX5_count_93 : decode cX5_count 93 = .ok (.getfield 31, 3) := by decide +kernel
theorem dX5_count_96 : decode cX5_count 96 = .ok (.getfield 116, 3) := by decide +kernel
theorem dX5_count_99 : decode cX5_count 99 = .ok (.ireturn, 1) := by decide +kernel
theorem dX5_count_100 : decode cX5_count 100 = .ok (.aload_n 0, 1) := by decide +kernel
theorem dX5_count_101 : decode cX5_count 101 = .ok (.getfield 31, 3) := by decide +kernel
theorem dX5_count_104 : decode cX5_count 104 = .ok (.getfield 119, 3) := by decide +kernel
theorem dX5_count_107 : decode cX5_count 107 = .ok (.ifCond .eq 7, 3) := by decide +kernel
theorem dX5_count_110 : decode cX5_count 110 = .ok (.iconst 1, 1) := by decide +kernel
theorem dX5_count_111 : decode cX5_count 111 = .ok (.goto 4, 3) := by decide +kernel
theorem dX5_count_115 : decode cX5_count 115 = .ok (.ireturn, 1) := by decide +kernel
theorem dX5_count_116 : decode cX5_count 116 = .ok (.aload_n 0, 1) := by decide +kernel
theorem dX5_count_117 : decode cX5_count 117 = .ok (.getfield 19, 3) := by decide +kernel
theorem dX5_count_120 : decode cX5_count 120 = .ok (.getfield 123, 3) := by decide +kernel
theorem dX5_count_123 : decode cX5_count 123 = .ok (.ireturn, 1) := by decide +kernel
theorem dX5_count_124 : decode cX5_count 124 = .ok (.aload_n 0, 1) := by decide +kernel
theorem dX5_count_125 : decode cX5_count 125 = .ok (.getfield 31, 3) := by decide +kernel
theorem dX5_count_128 : decode cX5_count 128 = .ok (.invokevirtual 126, 3) := by decide +kernel
theorem dX5_count_131 : decode cX5_count 131 = .ok (.l2i, 1) := by decide +kernel
theorem dX5_count_132 : decode cX5_count 132 = .ok (.ireturn, 1) := by decide +kernel
theorem dX5_count_133 : decode cX5_count 133 = .ok (.new 84, 3) := by decide +kernel
theorem dX5_count_136 : decode cX5_count 136 = .ok (.dup, 1) := by decide +kernel
theorem dX5_count_137 : decode cX5_count 137 = .ok (.ldc 130, 2) := by decide +kernel
theorem dX5_count_139 : decode cX5_count 139 = .ok (.invokespecial 88, 3) := by decide +kernel
theorem dX5_count_142 : decode cX5_count 142 = .ok (.athrow, 1) := by decide +kernel
theorem dX5_drift_0 : decode cX5_drift 0 = .ok (.aload_n 0, 1) := by decide +kernel
theorem dX5_drift_1 : decode cX5_drift 1 = .ok (.getfield 31, 3) := by decide +kernel
theorem dX5_drift_4 : decode cX5_drift 4 = .ok (.invokevirtual 208, 3) := by decide +kernel
theorem dX5_drift_7 : decode cX5_drift 7 = .ok (.invokevirtual 147, 3) := by decide +kernel
theorem dX5_drift_10 : decode cX5_drift 10 = .ok (.lreturn, 1) := by decide +kernel
theorem dX5_energy_0 : decode cX5_energy 0 = .ok (.aload_n 0, 1) := by decide +kernel
theorem dX5_energy_1 : decode cX5_energy 1 = .ok (.getfield 31, 3) := by decide +kernel
theorem dX5_energy_4 : decode cX5_energy 4 = .ok (.invokevirtual 235, 3) := by decide +kernel
theorem dX5_energy_7 : decode cX5_energy 7 = .ok (.lreturn, 1) := by decide +kernel
theorem dX5_error_0 : decode cX5_error 0 = .ok (.iload_n 1, 1) := by decide +kernel
theorem dX5_error_1 : decode cX5_error 1 = .ok (.iconst 0, 1) := by decide +kernel
theorem dX5_error_2 : decode cX5_error 2 = .ok (.iconst 2, 1) := by decide +kernel
theorem dX5_error_3 : decode cX5_error 3 = .ok (.invokestatic 212, 3) := by decide +kernel
theorem dX5_error_6 : decode cX5_error 6 = .ok (.aload_n 0, 1) := by decide +kernel
theorem dX5_error_7 : decode cX5_error 7 = .ok (.getfield 35, 3) := by decide +kernel
theorem dX5_error_10 : decode cX5_error 10 = .ok (.aload_n 0, 1) := by decide +kernel
theorem dX5_error_11 : decode cX5_error 11 = .ok (.getfield 31, 3) := by decide +kernel
theorem dX5_error_14 : decode cX5_error 14 = .ok (.invokevirtual 287, 3) := by decide +kernel
theorem dX5_error_17 : decode cX5_error 17 = .ok (.aload_n 0, 1) := by decide +kernel
theorem dX5_error_18 : decode cX5_error 18 = .ok (.getfield 35, 3) := by decide +kernel
theorem dX5_error_21 : decode cX5_error 21 = .ok (.bipush 46, 2) := by decide +kernel
theorem dX5_error_23 : decode cX5_error 23 = .ok (.invokevirtual 268, 3) := by decide +kernel
theorem dX5_error_26 : decode cX5_error 26 = .ok (.pop, 1) := by decide +kernel
theorem dX5_error_27 : decode cX5_error 27 = .ok (.iload_n 1, 1) := by decide +kernel
theorem dX5_error_28 : decode cX5_error 28 = .ok (.lookupswitch 50 #[(0, 28), (1, 39)], 28) := by decide +kernel
theorem dX5_error_56 : decode cX5_error 56 = .ok (.aload_n 0, 1) := by decide +kernel
theorem dX5_error_57 : decode cX5_error 57 = .ok (.getfield 35, 3) := by decide +kernel
theorem dX5_error_60 : decode cX5_error 60 = .ok (.invokevirtual 290, 3) := by decide +kernel
theorem dX5_error_63 : decode cX5_error 63 = .ok (.invokevirtual 147, 3) := by decide +kernel
theorem dX5_error_66 : decode cX5_error 66 = .ok (.lreturn, 1) := by decide +kernel
theorem dX5_error_67 : decode cX5_error 67 = .ok (.aload_n 0, 1) := by decide +kernel
theorem dX5_error_68 : decode cX5_error 68 = .ok (.getfield 35, 3) := by decide +kernel
theorem dX5_error_71 : decode cX5_error 71 = .ok (.invokevirtual 293, 3) := by decide +kernel
theorem dX5_error_74 : decode cX5_error 74 = .ok (.invokevirtual 147, 3) := by decide +kernel
theorem dX5_error_77 : decode cX5_error 77 = .ok (.lreturn, 1) := by decide +kernel
theorem dX5_error_78 : decode cX5_error 78 = .ok (.aload_n 0, 1) := by decide +kernel
theorem dX5_error_79 : decode cX5_error 79 = .ok (.getfield 35, 3) := by decide +kernel
theorem dX5_error_82 : decode cX5_error 82 = .ok (.invokevirtual 296, 3) := by decide +kernel
theorem dX5_error_85 : decode cX5_error 85 = .ok (.i2l, 1) := by decide +kernel
theorem dX5_error_86 : decode cX5_error 86 = .ok (.lreturn, 1) := by decide +kernel
theorem dX5_errorCode_0 : decode cX5_errorCode 0 = .ok (.aload_n 0, 1) := by decide +kernel
theorem dX5_errorCode_1 : decode cX5_errorCode 1 = .ok (.getfield 12, 3) := by decide +kernel
theorem dX5_errorCode_4 : decode cX5_errorCode 4 = .ok (.getfield 97, 3) := by decide +kernel
theorem dX5_errorCode_7 : decode cX5_errorCode 7 = .ok (.ireturn, 1) := by decide +kernel
theorem dX5_errorOfCut_0 : decode cX5_errorOfCut 0 = .ok (.aload_n 0, 1) := by decide +kernel
theorem dX5_errorOfCut_1 : decode cX5_errorOfCut 1 = .ok (.getfield 35, 3) := by decide +kernel
theorem dX5_errorOfCut_4 : decode cX5_errorOfCut 4 = .ok (.aload_n 0, 1) := by decide +kernel
theorem dX5_errorOfCut_5 : decode cX5_errorOfCut 5 = .ok (.getfield 31, 3) := by decide +kernel
theorem dX5_errorOfCut_8 : decode cX5_errorOfCut 8 = .ok (.invokevirtual 287, 3) := by decide +kernel
theorem dX5_errorOfCut_11 : decode cX5_errorOfCut 11 = .ok (.aload_n 0, 1) := by decide +kernel
theorem dX5_errorOfCut_12 : decode cX5_errorOfCut 12 = .ok (.getfield 35, 3) := by decide +kernel
theorem dX5_errorOfCut_15 : decode cX5_errorOfCut 15 = .ok (.iload_n 1, 1) := by decide +kernel
theorem dX5_errorOfCut_16 : decode cX5_errorOfCut 16 = .ok (.iload_n 2, 1) := by decide +kernel
theorem dX5_errorOfCut_17 : decode cX5_errorOfCut 17 = .ok (.invokevirtual 277, 3) := by decide +kernel
theorem dX5_errorOfCut_20 : decode cX5_errorOfCut 20 = .ok (.aload_n 0, 1) := by decide +kernel
theorem dX5_errorOfCut_21 : decode cX5_errorOfCut 21 = .ok (.getfield 35, 3) := by decide +kernel
theorem dX5_errorOfCut_24 : decode cX5_errorOfCut 24 = .ok (.bipush 46, 2) := by decide +kernel
theorem dX5_errorOfCut_26 : decode cX5_errorOfCut 26 = .ok (.invokevirtual 268, 3) := by decide +kernel
theorem dX5_errorOfCut_29 : decode cX5_errorOfCut 29 = .ok (.pop, 1) := by decide +kernel
theorem dX5_errorOfCut_30 : decode cX5_errorOfCut 30 = .ok (.aload_n 0, 1) := by decide +kernel
theorem dX5_errorOfCut_31 : decode cX5_errorOfCut 31 = .ok (.getfield 35, 3) := by decide +kernel
theorem dX5_errorOfCut_34 : decode cX5_errorOfCut 34 = .ok (.invokevirtual 290, 3) := by decide +kernel
theorem dX5_errorOfCut_37 : decode cX5_errorOfCut 37 = .ok (.areturn, 1) := by decide +kernel
theorem dX5_errorPosition_0 : decode cX5_errorPosition 0 = .ok (.aload_n 0, 1) := by decide +kernel
theorem dX5_errorPosition_1 : decode cX5_errorPosition 1 = .ok (.getfield 12, 3) := by decide +kernel
theorem dX5_errorPosition_4 : decode cX5_errorPosition 4 = .ok (.getfield 100, 3) := by decide +kernel
theorem dX5_errorPosition_7 : decode cX5_errorPosition 7 = .ok (.ireturn, 1) := by decide +kernel
theorem dX5_errorWith_0 : decode cX5_errorWith 0 = .ok (.iload_n 1, 1) := by decide +kernel
theorem dX5_errorWith_1 : decode cX5_errorWith 1 = .ok (.iconst 0, 1) := by decide +kernel
theorem dX5_errorWith_2 : decode cX5_errorWith 2 = .ok (.sipush 9999, 3) := by decide +kernel
theorem dX5_errorWith_5 : decode cX5_errorWith 5 = .ok (.invokestatic 212, 3) := by decide +kernel
theorem dX5_errorWith_8 : decode cX5_errorWith 8 = .ok (.aload_n 0, 1) := by decide +kernel
theorem dX5_errorWith_9 : decode cX5_errorWith 9 = .ok (.iload_n 1, 1) := by decide +kernel
theorem dX5_errorWith_10 : decode cX5_errorWith 10 = .ok (.iload_n 2, 1) := by decide +kernel
theorem dX5_errorWith_11 : decode cX5_errorWith 11 = .ok (.invokevirtual 299, 3) := by decide +kernel
theorem dX5_errorWith_14 : decode cX5_errorWith 14 = .ok (.invokevirtual 147, 3) := by decide +kernel
theorem dX5_errorWith_17 : decode cX5_errorWith 17 = .ok (.lreturn, 1) := by decide +kernel
theorem dX5_forward_0 : decode cX5_forward 0 = .ok (.iload_n 1, 1) := by decide +kernel
theorem dX5_forward_1 : decode cX5_forward 1 = .ok (.iconst 1, 1) := by decide +kernel
theorem dX5_forward_2 : decode cX5_forward 2 = .ok (.bipush 46, 2) := by decide +kernel
theorem dX5_forward_4 : decode cX5_forward 4 = .ok (.invokestatic 212, 3) := by decide +kernel
theorem dX5_forward_7 : decode cX5_forward 7 = .ok (.aload_n 0, 1) := by decide +kernel
theorem dX5_forward_8 : decode cX5_forward 8 = .ok (.getfield 31, 3) := by decide +kernel
theorem dX5_forward_11 : decode cX5_forward 11 = .ok (.iload_n 1, 1) := by decide +kernel
theorem dX5_forward_12 : decode cX5_forward 12 = .ok (.invokevirtual 261, 3) := by decide +kernel
theorem dX5_forward_15 : decode cX5_forward 15 = .ok (.istore_n 2, 1) := by decide +kernel
theorem dX5_forward_16 : decode cX5_forward 16 = .ok (.iload_n 2, 1) := by decide +kernel
theorem dX5_forward_17 : decode cX5_forward 17 = .ok (.ifCond .ne 10, 3) := by decide +kernel
theorem dX5_forward_20 : decode cX5_forward 20 = .ok (.aload_n 0, 1) := by decide +kernel
theorem dX5_forward_21 : decode cX5_forward 21 = .ok (.iconst 1, 1) := by decide +kernel
theorem dX5_forward_22 : decode cX5_forward 22 = .ok (.iconst 0, 1) := by decide +kernel
theorem dX5_forward_23 : decode cX5_forward 23 = .ok (.iconst (-1), 1) := by decide +kernel
theorem dX5_forward_24 : decode cX5_forward 24 = .ok (.invokevirtual 252, 3) := by decide +kernel
theorem dX5_init_0 : decode cX5_init 0 = .ok (.aload_n 0, 1) := by decide +kernel
theorem dX5_init_1 : decode cX5_init 1 = .ok (.invokespecial 3, 3) := by decide +kernel
theorem dX5_init_4 : decode cX5_init 4 = .ok (.aload_n 0, 1) := by decide +kernel
theorem dX5_init_5 : decode cX5_init 5 = .ok (.new 9, 3) := by decide +kernel
theorem dX5_init_8 : decode cX5_init 8 = .ok (.dup, 1) := by decide +kernel
theorem dX5_init_9 : decode cX5_init 9 = .ok (.invokespecial 11, 3) := by decide +kernel
theorem dX5_init_12 : decode cX5_init 12 = .ok (.putfield 12, 3) := by decide +kernel
theorem dX5_init_15 : decode cX5_init 15 = .ok (.aload_n 0, 1) := by decide +kernel
theorem dX5_init_16 : decode cX5_init 16 = .ok (.new 16, 3) := by decide +kernel
theorem dX5_init_19 : decode cX5_init 19 = .ok (.dup, 1) := by decide +kernel
theorem dX5_init_20 : decode cX5_init 20 = .ok (.invokespecial 18, 3) := by decide +kernel
theorem dX5_init_23 : decode cX5_init 23 = .ok (.putfield 19, 3) := by decide +kernel
theorem dX5_init_26 : decode cX5_init 26 = .ok (.aload_n 0, 1) := by decide +kernel
theorem dX5_init_27 : decode cX5_init 27 = .ok (.new 16, 3) := by decide +kernel
theorem dX5_init_30 : decode cX5_init 30 = .ok (.dup, 1) := by decide +kernel
theorem dX5_init_31 : decode cX5_init 31 = .ok (.invokespecial 18, 3) := by decide +kernel
theorem dX5_init_34 : decode cX5_init 34 = .ok (.putfield 23, 3) := by decide +kernel
theorem dX5_init_37 : decode cX5_init 37 = .ok (.aload_n 0, 1) := by decide +kernel
theorem dX5_init_38 : decode cX5_init 38 = .ok (.new 26, 3) := by decide +kernel
theorem dX5_init_41 : decode cX5_init 41 = .ok (.dup, 1) := by decide +kernel
theorem dX5_init_42 : decode cX5_init 42 = .ok (.aload_n 0, 1) := by decide +kernel
theorem dX5_init_43 : decode cX5_init 43 = .ok (.getfield 19, 3) := by decide +kernel
theorem dX5_init_46 : decode cX5_init 46 = .ok (.invokespecial 28, 3) := by decide +kernel
theorem dX5_init_49 : decode cX5_init 49 = .ok (.putfield 31, 3) := by decide +kernel
theorem dX5_init_52 : decode cX5_init 52 = .ok (.aload_n 0, 1) := by decide +kernel
theorem dX5_init_53 : decode cX5_init 53 = .ok (.new 26, 3) := by decide +kernel
theorem dX5_init_56 : decode cX5_init 56 = .ok (.dup, 1) := by decide +kernel
theorem dX5_init_57 : decode cX5_init 57 = .ok (.aload_n 0, 1) := by decide +kernel
theorem dX5_init_58 : decode cX5_init 58 = .ok (.getfield 19, 3) := by decide +kernel
theorem dX5_init_61 : decode cX5_init 61 = .ok (.invokespecial 28, 3) := by decide +kernel
theorem dX5_init_64 : decode cX5_init 64 = .ok (.putfield 35, 3) := by decide +kernel
theorem dX5_init_67 : decode cX5_init 67 = .ok (.aload_n 0, 1) := by decide +kernel
theorem dX5_init_68 : decode cX5_init 68 = .ok (.iconst 2, 1) := by decide +kernel
theorem dX5_init_69 : decode cX5_init 69 = .ok (.anewarray 26, 3) := by decide +kernel
theorem dX5_init_72 : decode cX5_init 72 = .ok (.dup, 1) := by decide +kernel
theorem dX5_init_73 : decode cX5_init 73 = .ok (.iconst 0, 1) := by decide +kernel
theorem dX5_init_74 : decode cX5_init 74 = .ok (.new 26, 3) := by decide +kernel
theorem dX5_init_77 : decode cX5_init 77 = .ok (.dup, 1) := by decide +kernel
theorem dX5_init_78 : decode cX5_init 78 = .ok (.aload_n 0, 1) := by decide +kernel
theorem dX5_init_79 : decode cX5_init 79 = .ok (.getfield 19, 3) := by decide +kernel
theorem dX5_init_82 : decode cX5_init 82 = .ok (.invokespecial 28, 3) := by decide +kernel
theorem dX5_init_85 : decode cX5_init 85 = .ok (.aastore, 1) := by decide +kernel
theorem dX5_init_86 : decode cX5_init 86 = .ok (.dup, 1) := by decide +kernel
theorem dX5_init_87 : decode cX5_init 87 = .ok (.iconst 1, 1) := by decide +kernel
theorem dX5_init_88 : decode cX5_init 88 = .ok (.new 26, 3) := by decide +kernel
theorem dX5_init_91 : decode cX5_init 91 = .ok (.dup, 1) := by decide +kernel
theorem dX5_init_92 : decode cX5_init 92 = .ok (.aload_n 0, 1) := by decide +kernel
theorem dX5_init_93 : decode cX5_init 93 = .ok (.getfield 19, 3) := by decide +kernel
theorem dX5_init_96 : decode cX5_init 96 = .ok (.invokespecial 28, 3) := by decide +kernel
theorem dX5_init_99 : decode cX5_init 99 = .ok (.aastore, 1) := by decide +kernel
theorem dX5_init_100 : decode cX5_init 100 = .ok (.putfield 38, 3) := by decide +kernel
theorem dX5_init_103 : decode cX5_init 103 = .ok (.aload_n 0, 1) := by decide +kernel
theorem dX5_init_104 : decode cX5_init 104 = .ok (.iconst 2, 1) := by decide +kernel
theorem dX5_init_105 : decode cX5_init 105 = .ok (.newarray .boolean, 2) := by decide +kernel
theorem dX5_init_107 : decode cX5_init 107 = .ok (.putfield 42, 3) := by decide +kernel
theorem dX5_init_110 : decode cX5_init 110 = .ok (.aload_n 0, 1) := by decide +kernel
theorem dX5_init_111 : decode cX5_init 111 = .ok (.iconst 0, 1) := by decide +kernel
theorem dX5_init_112 : decode cX5_init 112 = .ok (.putfield 46, 3) := by decide +kernel
theorem dX5_init_115 : decode cX5_init 115 = .ok (.aload_n 0, 1) := by decide +kernel
theorem dX5_init_116 : decode cX5_init 116 = .ok (.iconst 0, 1) := by decide +kernel
theorem dX5_init_117 : decode cX5_init 117 = .ok (.putfield 50, 3) := by decide +kernel
theorem dX5_init_120 : decode cX5_init 120 = .ok (.aload_n 0, 1) := by decide +kernel
theorem dX5_init_121 : decode cX5_init 121 = .ok (.iconst (-1), 1) := by decide +kernel
theorem dX5_init_122 : decode cX5_init 122 = .ok (.putfield 53, 3) := by decide +kernel
theorem dX5_init_125 : decode cX5_init 125 = .ok (.aload_n 0, 1) := by decide +kernel
theorem dX5_init_126 : decode cX5_init 126 = .ok (.getfield 19, 3) := by decide +kernel
theorem dX5_init_129 : decode cX5_init 129 = .ok (.iconst 0, 1) := by decide +kernel
theorem dX5_init_130 : decode cX5_init 130 = .ok (.iconst 0, 1) := by decide +kernel
theorem dX5_init_131 : decode cX5_init 131 = .ok (.invokevirtual 56, 3) := by decide +kernel
theorem dX5_init_134 : decode cX5_init 134 = .ok (.aload_n 0, 1) := by decide +kernel
theorem dX5_init_135 : decode cX5_init 135 = .ok (.getfield 19, 3) := by decide +kernel
theorem dX5_init_138 : decode cX5_init 138 = .ok (.iconst 1, 1) := by decide +kernel
theorem dX5_init_139 : decode cX5_init 139 = .ok (.iconst 0, 1) := by decide +kernel
theorem dX5_init_140 : decode cX5_init 140 = .ok (.invokevirtual 56, 3) := by decide +kernel
theorem dX5_init_143 : decode cX5_init 143 = .ok (.aload_n 0, 1) := by decide +kernel
theorem dX5_init_144 : decode cX5_init 144 = .ok (.getfield 31, 3) := by decide +kernel
theorem dX5_init_147 : decode cX5_init 147 = .ok (.invokevirtual 60, 3) := by decide +kernel
theorem dX5_init_150 : decode cX5_init 150 = .ok (.aload_n 0, 1) := by decide +kernel
theorem dX5_init_151 : decode cX5_init 151 = .ok (.getfield 31, 3) := by decide +kernel
theorem dX5_init_154 : decode cX5_init 154 = .ok (.invokevirtual 63, 3) := by decide +kernel
theorem dX5_init_157 : decode cX5_init 157 = .ok (.return_, 1) := by decide +kernel
theorem dX5_integral_0 : decode cX5_integral 0 = .ok (.aload_n 0, 1) := by decide +kernel
theorem dX5_integral_1 : decode cX5_integral 1 = .ok (.getfield 31, 3) := by decide +kernel
theorem dX5_integral_4 : decode cX5_integral 4 = .ok (.getfield 205, 3) := by decide +kernel
theorem dX5_integral_7 : decode cX5_integral 7 = .ok (.invokevirtual 147, 3) := by decide +kernel
theorem dX5_integral_10 : decode cX5_integral 10 = .ok (.lreturn, 1) := by decide +kernel
theorem dX5_inverse_0 : decode cX5_inverse 0 = .ok (.iload_n 1, 1) := by decide +kernel
theorem dX5_inverse_1 : decode cX5_inverse 1 = .ok (.iconst 1, 1) := by decide +kernel
theorem dX5_inverse_2 : decode cX5_inverse 2 = .ok (.bipush 46, 2) := by decide +kernel
theorem dX5_inverse_4 : decode cX5_inverse 4 = .ok (.invokestatic 212, 3) := by decide +kernel
theorem dX5_inverse_7 : decode cX5_inverse 7 = .ok (.aload_n 0, 1) := by decide +kernel
theorem dX5_inverse_8 : decode cX5_inverse 8 = .ok (.getfield 31, 3) := by decide +kernel
theorem dX5_inverse_11 : decode cX5_inverse 11 = .ok (.getfield 107, 3) := by decide +kernel
theorem dX5_inverse_14 : decode cX5_inverse 14 = .ok (.ifCond .ne 10, 3) := by decide +kernel
theorem dX5_inverse_17 : decode cX5_inverse 17 = .ok (.aload_n 0, 1) := by decide +kernel
theorem dX5_inverse_18 : decode cX5_inverse 18 = .ok (.iconst 2, 1) := by decide +kernel
theorem dX5_inverse_19 : decode cX5_inverse 19 = .ok (.iconst 0, 1) := by decide +kernel
theorem dX5_inverse_20 : decode cX5_inverse 20 = .ok (.iconst (-1), 1) := by decide +kernel
theorem dX5_inverse_21 : decode cX5_inverse 21 = .ok (.invokevirtual 252, 3) := by decide +kernel
theorem dX5_keepLargest_0 : decode cX5_keepLargest 0 = .ok (.iload_n 1, 1) := by decide +kernel
theorem dX5_keepLargest_1 : decode cX5_keepLargest 1 = .ok (.iconst 0, 1) := by decide +kernel
theorem dX5_keepLargest_2 : decode cX5_keepLargest 2 = .ok (.bipush 46, 2) := by decide +kernel
theorem dX5_keepLargest_4 : decode cX5_keepLargest 4 = .ok (.invokestatic 212, 3) := by decide +kernel
theorem dX5_keepLargest_7 : decode cX5_keepLargest 7 = .ok (.aload_n 0, 1) := by decide +kernel
theorem dX5_keepLargest_8 : decode cX5_keepLargest 8 = .ok (.getfield 31, 3) := by decide +kernel
theorem dX5_keepLargest_11 : decode cX5_keepLargest 11 = .ok (.iload_n 1, 1) := by decide +kernel
theorem dX5_keepLargest_12 : decode cX5_keepLargest 12 = .ok (.invokevirtual 284, 3) := by decide +kernel
theorem dX5_keepLargest_15 : decode cX5_keepLargest 15 = .ok (.invokevirtual 147, 3) := by decide +kernel
theorem dX5_keepLargest_18 : decode cX5_keepLargest 18 = .ok (.lreturn, 1) := by decide +kernel
theorem dX5_largest_0 : decode cX5_largest 0 = .ok (.iload_n 1, 1) := by decide +kernel
theorem dX5_largest_1 : decode cX5_largest 1 = .ok (.aload_n 0, 1) := by decide +kernel
theorem dX5_largest_2 : decode cX5_largest 2 = .ok (.getfield 31, 3) := by decide +kernel
theorem dX5_largest_5 : decode cX5_largest 5 = .ok (.getfield 107, 3) := by decide +kernel
theorem dX5_largest_8 : decode cX5_largest 8 = .ok (.invokestatic 77, 3) := by decide +kernel
theorem dX5_lift_0 : decode cX5_lift 0 = .ok (.iload_n 1, 1) := by decide +kernel
theorem dX5_lift_1 : decode cX5_lift 1 = .ok (.aload_n 0, 1) := by decide +kernel
theorem dX5_lift_2 : decode cX5_lift 2 = .ok (.getfield 19, 3) := by decide +kernel
theorem dX5_lift_5 : decode cX5_lift 5 = .ok (.getfield 94, 3) := by decide +kernel
theorem dX5_lift_8 : decode cX5_lift 8 = .ok (.invokestatic 77, 3) := by decide +kernel
theorem dX5_lift_11 : decode cX5_lift 11 = .ok (.aload_n 0, 1) := by decide +kernel
theorem dX5_lift_12 : decode cX5_lift 12 = .ok (.getfield 31, 3) := by decide +kernel
theorem dX5_lift_15 : decode cX5_lift 15 = .ok (.iload_n 1, 1) := by decide +kernel
theorem dX5_lift_16 : decode cX5_lift 16 = .ok (.invokevirtual 139, 3) := by decide +kernel
theorem dX5_lift_19 : decode cX5_lift 19 = .ok (.ifCond .ne 10, 3) := by decide +kernel
theorem dX5_lift_29 : decode cX5_lift 29 = .ok (.iload_n 1, 1) := by decide +kernel
theorem dX5_lift_30 : decode cX5_lift 30 = .ok (.ifCond .eq 16, 3) := by decide +kernel
theorem dX5_lift_33 : decode cX5_lift 33 = .ok (.iload_n 1, 1) := by decide +kernel
theorem dX5_lift_34 : decode cX5_lift 34 = .ok (.aload_n 0, 1) := by decide +kernel
theorem dX5_lift_35 : decode cX5_lift 35 = .ok (.getfield 19, 3) := by decide +kernel
theorem dX5_lift_38 : decode cX5_lift 38 = .ok (.getfield 94, 3) := by decide +kernel
theorem dX5_lift_41 : decode cX5_lift 41 = .ok (.iconst 1, 1) := by decide +kernel
theorem dX5_lift_42 : decode cX5_lift 42 = .ok (.isub, 1) := by decide +kernel
theorem dX5_lift_43 : decode cX5_lift 43 = .ok (.if_icmp .ne 10, 3) := by decide +kernel
theorem dX5_lift_46 : decode cX5_lift 46 = .ok (.aload_n 0, 1) := by decide +kernel
theorem dX5_lift_47 : decode cX5_lift 47 = .ok (.iconst 3, 1) := by decide +kernel
theorem dX5_lift_48 : decode cX5_lift 48 = .ok (.iconst 5, 1) := by decide +kernel
theorem dX5_lift_49 : decode cX5_lift 49 = .ok (.iload_n 1, 1) := by decide +kernel
theorem dX5_lift_50 : decode cX5_lift 50 = .ok (.invokevirtual 252, 3) := by decide +kernel
theorem dX5_load_0 : decode cX5_load 0 = .ok (.aload_n 0, 1) := by decide +kernel
theorem dX5_load_1 : decode cX5_load 1 = .ok (.getfield 12, 3) := by decide +kernel
theorem dX5_load_4 : decode cX5_load 4 = .ok (.aload_n 0, 1) := by decide +kernel
theorem dX5_load_5 : decode cX5_load 5 = .ok (.getfield 23, 3) := by decide +kernel
theorem dX5_load_8 : decode cX5_load 8 = .ok (.invokevirtual 80, 3) := by decide +kernel
theorem dX5_load_11 : decode cX5_load 11 = .ok (.istore_n 1, 1) := by decide +kernel
theorem dX5_load_12 : decode cX5_load 12 = .ok (.aload_n 0, 1) := by decide +kernel
theorem dX5_load_13 : decode cX5_load 13 = .ok (.getfield 12, 3) := by decide +kernel
theorem dX5_load_16 : decode cX5_load 16 = .ok (.iconst 0, 1) := by decide +kernel
theorem dX5_load_17 : decode cX5_load 17 = .ok (.putfield 74, 3) := by decide +kernel
theorem dX5_load_20 : decode cX5_load 20 = .ok (.iload_n 1, 1) := by decide +kernel
theorem dX5_load_21 : decode cX5_load 21 = .ok (.ifCond .ne 13, 3) := by decide +kernel
theorem dX5_load_24 : decode cX5_load 24 = .ok (.new 84, 3) := by decide +kernel
theorem dX5_load_27 : decode cX5_load 27 = .ok (.dup, 1) := by decide +kernel
theorem dX5_load_28 : decode cX5_load 28 = .ok (.ldc 86, 2) := by decide +kernel
theorem dX5_load_30 : decode cX5_load 30 = .ok (.invokespecial 88, 3) := by decide +kernel
theorem dX5_load_33 : decode cX5_load 33 = .ok (.athrow, 1) := by decide +kernel
theorem dX5_mean_0 : decode cX5_mean 0 = .ok (.iload_n 1, 1) := by decide +kernel
theorem dX5_mean_1 : decode cX5_mean 1 = .ok (.iconst 0, 1) := by decide +kernel
theorem dX5_mean_2 : decode cX5_mean 2 = .ok (.iconst 1, 1) := by decide +kernel
theorem dX5_mean_3 : decode cX5_mean 3 = .ok (.invokestatic 212, 3) := by decide +kernel
theorem dX5_mean_6 : decode cX5_mean 6 = .ok (.aload_n 0, 1) := by decide +kernel
theorem dX5_mean_7 : decode cX5_mean 7 = .ok (.getfield 31, 3) := by decide +kernel
theorem dX5_mean_10 : decode cX5_mean 10 = .ok (.invokevirtual 126, 3) := by decide +kernel
theorem dX5_mean_13 : decode cX5_mean 13 = .ok (.lstore_n 2, 1) := by decide +kernel
theorem dX5_mean_14 : decode cX5_mean 14 = .ok (.lload_n 2, 1) := by decide +kernel
theorem dX5_mean_15 : decode cX5_mean 15 = .ok (.aload_n 0, 1) := by decide +kernel
theorem dX5_mean_16 : decode cX5_mean 16 = .ok (.getfield 31, 3) := by decide +kernel
theorem dX5_mean_19 : decode cX5_mean 19 = .ok (.getfield 205, 3) := by decide +kernel
theorem dX5_mean_22 : decode cX5_mean 22 = .ok (.lload_n 2, 1) := by decide +kernel
theorem dX5_mean_23 : decode cX5_mean 23 = .ok (.invokevirtual 216, 3) := by decide +kernel
theorem dX5_mean_26 : decode cX5_mean 26 = .ok (.invokestatic 220, 3) := by decide +kernel
theorem dX5_mean_29 : decode cX5_mean 29 = .ok (.lstore 4, 2) := by decide +kernel
theorem dX5_mean_31 : decode cX5_mean 31 = .ok (.iload_n 1, 1) := by decide +kernel
theorem dX5_mean_32 : decode cX5_mean 32 = .ok (.ifCond .ne 18, 3) := by decide +kernel
theorem dX5_mean_35 : decode cX5_mean 35 = .ok (.aload_n 0, 1) := by decide +kernel
theorem dX5_mean_36 : decode cX5_mean 36 = .ok (.getfield 31, 3) := by decide +kernel
theorem dX5_mean_39 : decode cX5_mean 39 = .ok (.lload 4, 2) := by decide +kernel
theorem dX5_mean_41 : decode cX5_mean 41 = .ok (.invokevirtual 224, 3) := by decide +kernel
theorem dX5_mean_44 : decode cX5_mean 44 = .ok (.invokevirtual 147, 3) := by decide +kernel
theorem dX5_mean_47 : decode cX5_mean 47 = .ok (.goto 7, 3) := by decide +kernel
theorem dX5_mean_50 : decode cX5_mean 50 = .ok (.lload_n 2, 1) := by decide +kernel
theorem dX5_mean_51 : decode cX5_mean 51 = .ok (.lload 4, 2) := by decide +kernel
theorem dX5_mean_53 : decode cX5_mean 53 = .ok (.ldiv, 1) := by decide +kernel
theorem dX5_mean_54 : decode cX5_mean 54 = .ok (.lreturn, 1) := by decide +kernel
theorem dX5_needIndex_0 : decode cX5_needIndex 0 = .ok (.iload_n 0, 1) := by decide +kernel
theorem dX5_needIndex_1 : decode cX5_needIndex 1 = .ok (.ifCond .lt 8, 3) := by decide +kernel
theorem dX5_needIndex_4 : decode cX5_needIndex 4 = .ok (.iload_n 0, 1) := by decide +kernel
theorem dX5_needIndex_5 : decode cX5_needIndex 5 = .ok (.iload_n 1, 1) := by decide +kernel
theorem dX5_needIndex_6 : decode cX5_needIndex 6 = .ok (.if_icmp .lt 14, 3) := by decide +kernel
theorem dX5_needIndex_9 : decode cX5_needIndex 9 = .ok (.new 196, 3) := by decide +kernel
theorem dX5_needIndex_12 : decode cX5_needIndex 12 = .ok (.dup, 1) := by decide +kernel
theorem dX5_needIndex_13 : decode cX5_needIndex 13 = .ok (.ldc_w 319, 3) := by decide +kernel
theorem dX5_needIndex_16 : decode cX5_needIndex 16 = .ok (.invokespecial 200, 3) := by decide +kernel
theorem dX5_needIndex_19 : decode cX5_needIndex 19 = .ok (.athrow, 1) := by decide +kernel
theorem dX5_needIndex_20 : decode cX5_needIndex 20 = .ok (.return_, 1) := by decide +kernel
theorem dX5_needRange_0 : decode cX5_needRange 0 = .ok (.iload_n 0, 1) := by decide +kernel
theorem dX5_needRange_1 : decode cX5_needRange 1 = .ok (.iload_n 1, 1) := by decide +kernel
theorem dX5_needRange_2 : decode cX5_needRange 2 = .ok (.if_icmp .lt 8, 3) := by decide +kernel
theorem dX5_needRange_5 : decode cX5_needRange 5 = .ok (.iload_n 0, 1) := by decide +kernel
theorem dX5_needRange_6 : decode cX5_needRange 6 = .ok (.iload_n 2, 1) := by decide +kernel
theorem dX5_needRange_7 : decode cX5_needRange 7 = .ok (.if_icmp .le 14, 3) := by decide +kernel
theorem dX5_needRange_10 : decode cX5_needRange 10 = .ok (.new 84, 3) := by decide +kernel
theorem dX5_needRange_13 : decode cX5_needRange 13 = .ok (.dup, 1) := by decide +kernel
theorem dX5_needRange_14 : decode cX5_needRange 14 = .ok (.ldc_w 321, 3) := by decide +kernel
theorem dX5_needRange_17 : decode cX5_needRange 17 = .ok (.invokespecial 88, 3) := by decide +kernel
theorem dX5_needRange_20 : decode cX5_needRange 20 = .ok (.athrow, 1) := by decide +kernel
theorem dX5_needRange_21 : decode cX5_needRange 21 = .ok (.return_, 1) := by decide +kernel
theorem dX5_neighbour_0 : decode cX5_neighbour 0 = .ok (.iload_n 1, 1) := by decide +kernel
theorem dX5_neighbour_1 : decode cX5_neighbour 1 = .ok (.aload_n 0, 1) := by decide +kernel
theorem dX5_neighbour_2 : decode cX5_neighbour 2 = .ok (.getfield 19, 3) := by decide +kernel
theorem dX5_neighbour_5 : decode cX5_neighbour 5 = .ok (.getfield 94, 3) := by decide +kernel
theorem dX5_neighbour_8 : decode cX5_neighbour 8 = .ok (.invokestatic 77, 3) := by decide +kernel
theorem dX5_neighbour_11 : decode cX5_neighbour 11 = .ok (.iload_n 2, 1) := by decide +kernel
theorem dX5_neighbour_12 : decode cX5_neighbour 12 = .ok (.ifCond .eq 14, 3) := by decide +kernel
theorem dX5_neighbour_15 : decode cX5_neighbour 15 = .ok (.aload_n 0, 1) := by decide +kernel
theorem dX5_neighbour_16 : decode cX5_neighbour 16 = .ok (.getfield 31, 3) := by decide +kernel
theorem dX5_neighbour_19 : decode cX5_neighbour 19 = .ok (.iload_n 1, 1) := by decide +kernel
theorem dX5_neighbour_20 : decode cX5_neighbour 20 = .ok (.invokevirtual 165, 3) := by decide +kernel
theorem dX5_neighbour_23 : decode cX5_neighbour 23 = .ok (.goto 11, 3) := by decide +kernel
theorem dX5_neighbour_26 : decode cX5_neighbour 26 = .ok (.aload_n 0, 1) := by decide +kernel
theorem dX5_neighbour_27 : decode cX5_neighbour 27 = .ok (.getfield 31, 3) := by decide +kernel
theorem dX5_neighbour_30 : decode cX5_neighbour 30 = .ok (.iload_n 1, 1) := by decide +kernel
theorem dX5_neighbour_31 : decode cX5_neighbour 31 = .ok (.invokevirtual 168, 3) := by decide +kernel
theorem dX5_neighbour_34 : decode cX5_neighbour 34 = .ok (.ireturn, 1) := by decide +kernel
theorem dX5_next_0 : decode cX5_next 0 = .ok (.aload_n 0, 1) := by decide +kernel
theorem dX5_next_1 : decode cX5_next 1 = .ok (.getfield 31, 3) := by decide +kernel
theorem dX5_next_4 : decode cX5_next 4 = .ok (.invokevirtual 244, 3) := by decide +kernel
theorem dX5_next_7 : decode cX5_next 7 = .ok (.istore_n 1, 1) := by decide +kernel
theorem dX5_next_8 : decode cX5_next 8 = .ok (.iload_n 1, 1) := by decide +kernel
theorem dX5_next_9 : decode cX5_next 9 = .ok (.iconst (-1), 1) := by decide +kernel
theorem dX5_next_10 : decode cX5_next 10 = .ok (.if_icmp .ne 13, 3) := by decide +kernel
theorem dX5_next_13 : decode cX5_next 13 = .ok (.new 247, 3) := by decide +kernel
theorem dX5_next_16 : decode cX5_next 16 = .ok (.dup, 1) := by decide +kernel
theorem dX5_next_17 : decode cX5_next 17 = .ok (.ldc 249, 2) := by decide +kernel
theorem dX5_next_19 : decode cX5_next 19 = .ok (.invokespecial 251, 3) := by decide +kernel
theorem dX5_next_22 : decode cX5_next 22 = .ok (.athrow, 1) := by decide +kernel
theorem dX5_noise_0 : decode cX5_noise 0 = .ok (.iload_n 2, 1) := by decide +kernel
theorem dX5_noise_1 : decode cX5_noise 1 = .ok (.iconst 0, 1) := by decide +kernel
theorem dX5_noise_2 : decode cX5_noise 2 = .ok (.sipush 999, 3) := by decide +kernel
theorem dX5_noise_5 : decode cX5_noise 5 = .ok (.invokestatic 212, 3) := by decide +kernel
theorem dX5_plainMean_0 : decode cX5_plainMean 0 = .ok (.aload_n 0, 1) := by decide +kernel
theorem dX5_plainMean_1 : decode cX5_plainMean 1 = .ok (.getfield 31, 3) := by decide +kernel
theorem dX5_plainMean_4 : decode cX5_plainMean 4 = .ok (.invokevirtual 228, 3) := by decide +kernel
theorem dX5_plainMean_7 : decode cX5_plainMean 7 = .ok (.invokevirtual 231, 3) := by decide +kernel
theorem dX5_plainMean_10 : decode cX5_plainMean 10 = .ok (.aload_n 0, 1) := by decide +kernel
theorem dX5_plainMean_11 : decode cX5_plainMean 11 = .ok (.getfield 31, 3) := by decide +kernel
theorem dX5_plainMean_14 : decode cX5_plainMean 14 = .ok (.invokevirtual 103, 3) := by decide +kernel
theorem dX5_plainMean_17 : decode cX5_plainMean 17 = .ok (.i2d, 1) := by decide +kernel
theorem dX5_plainMean_18 : decode cX5_plainMean 18 = .ok (.ddiv, 1) := by decide +kernel
theorem dX5_plainMean_19 : decode cX5_plainMean 19 = .ok (.dreturn, 1) := by decide +kernel
theorem dX5_present_0 : decode cX5_present 0 = .ok (.iload_n 1, 1) := by decide +kernel
theorem dX5_present_1 : decode cX5_present 1 = .ok (.aload_n 0, 1) := by decide +kernel
theorem dX5_present_2 : decode cX5_present 2 = .ok (.getfield 31, 3) := by decide +kernel
theorem dX5_present_5 : decode cX5_present 5 = .ok (.invokevirtual 103, 3) := by decide +kernel
theorem dX5_present_8 : decode cX5_present 8 = .ok (.invokestatic 77, 3) := by decide +kernel
theorem dX5_present_11 : decode cX5_present 11 = .ok (.aload_n 0, 1) := by decide +kernel
theorem dX5_present_12 : decode cX5_present 12 = .ok (.getfield 31, 3) := by decide +kernel
theorem dX5_present_15 : decode cX5_present 15 = .ok (.iload_n 1, 1) := by decide +kernel
theorem dX5_present_16 : decode cX5_present 16 = .ok (.invokevirtual 161, 3) := by decide +kernel
theorem dX5_present_19 : decode cX5_present 19 = .ok (.ireturn, 1) := by decide +kernel
theorem dX5_quantize_0 : decode cX5_quantize 0 = .ok (.iload_n 1, 1) := by decide +kernel
theorem dX5_quantize_1 : decode cX5_quantize 1 = .ok (.iconst 1, 1) := by decide +kernel
theorem dX5_quantize_2 : decode cX5_quantize 2 = .ok (.sipush 9999, 3) := by decide +kernel
theorem dX5_quantize_5 : decode cX5_quantize 5 = .ok (.invokestatic 212, 3) := by decide +kernel
theorem dX5_quantize_8 : decode cX5_quantize 8 = .ok (.aload_n 0, 1) := by decide +kernel
theorem dX5_quantize_9 : decode cX5_quantize 9 = .ok (.getfield 31, 3) := by decide +kernel
theorem dX5_quantize_12 : decode cX5_quantize 12 = .ok (.iload_n 1, 1) := by decide +kernel
theorem dX5_quantize_13 : decode cX5_quantize 13 = .ok (.invokevirtual 281, 3) := by decide +kernel
theorem dX5_quantize_16 : decode cX5_quantize 16 = .ok (.lreturn, 1) := by decide +kernel
theorem dX5_reason_0 : decode cX5_reason 0 = .ok (.iload_n 1, 1) := by decide +kernel
theorem dX5_reason_1 : decode cX5_reason 1 = .ok (.iconst 0, 1) := by decide +kernel
theorem dX5_reason_2 : decode cX5_reason 2 = .ok (.iconst 1, 1) := by decide +kernel
theorem dX5_reason_3 : decode cX5_reason 3 = .ok (.invokestatic 212, 3) := by decide +kernel
theorem dX5_reason_6 : decode cX5_reason 6 = .ok (.iload_n 1, 1) := by decide +kernel
theorem dX5_reason_7 : decode cX5_reason 7 = .ok (.ifCond .ne 10, 3) := by decide +kernel
theorem dX5_reason_10 : decode cX5_reason 10 = .ok (.aload_n 0, 1) := by decide +kernel
theorem dX5_reason_11 : decode cX5_reason 11 = .ok (.getfield 46, 3) := by decide +kernel
theorem dX5_reason_14 : decode cX5_reason 14 = .ok (.goto 7, 3) := by decide +kernel
theorem dX5_reason_17 : decode cX5_reason 17 = .ok (.aload_n 0, 1) := by decide +kernel
theorem dX5_reason_18 : decode cX5_reason 18 = .ok (.getfield 50, 3) := by decide +kernel
theorem dX5_reason_21 : decode cX5_reason 21 = .ok (.ireturn, 1) := by decide +kernel
theorem dX5_reasonSample_0 : decode cX5_reasonSample 0 = .ok (.aload_n 0, 1) := by decide +kernel
theorem dX5_reasonSample_1 : decode cX5_reasonSample 1 = .ok (.getfield 53, 3) := by decide +kernel
theorem dX5_reasonSample_4 : decode cX5_reasonSample 4 = .ok (.ireturn, 1) := by decide +kernel
theorem dX5_refuse_0 : decode cX5_refuse 0 = .ok (.aload_n 0, 1) := by decide +kernel
theorem dX5_refuse_1 : decode cX5_refuse 1 = .ok (.iload_n 1, 1) := by decide +kernel
theorem dX5_refuse_2 : decode cX5_refuse 2 = .ok (.putfield 46, 3) := by decide +kernel
theorem dX5_refuse_5 : decode cX5_refuse 5 = .ok (.aload_n 0, 1) := by decide +kernel
theorem dX5_refuse_6 : decode cX5_refuse 6 = .ok (.iload_n 2, 1) := by decide +kernel
theorem dX5_refuse_7 : decode cX5_refuse 7 = .ok (.putfield 50, 3) := by decide +kernel
theorem dX5_refuse_10 : decode cX5_refuse 10 = .ok (.aload_n 0, 1) := by decide +kernel
theorem dX5_refuse_11 : decode cX5_refuse 11 = .ok (.iload_n 3, 1) := by decide +kernel
theorem dX5_refuse_12 : decode cX5_refuse 12 = .ok (.putfield 53, 3) := by decide +kernel
theorem dX5_refuse_15 : decode cX5_refuse 15 = .ok (.new 323, 3) := by decide +kernel
theorem dX5_refuse_18 : decode cX5_refuse 18 = .ok (.dup, 1) := by decide +kernel
theorem dX5_refuse_19 : decode cX5_refuse 19 = .ok (.ldc_w 325, 3) := by decide +kernel
theorem dX5_refuse_22 : decode cX5_refuse 22 = .ok (.invokespecial 327, 3) := by decide +kernel
theorem dX5_refuse_25 : decode cX5_refuse 25 = .ok (.athrow, 1) := by decide +kernel
theorem dX5_reset_0 : decode cX5_reset 0 = .ok (.aload_n 0, 1) := by decide +kernel
theorem dX5_reset_1 : decode cX5_reset 1 = .ok (.getfield 31, 3) := by decide +kernel
theorem dX5_reset_4 : decode cX5_reset 4 = .ok (.getfield 107, 3) := by decide +kernel
theorem dX5_reset_7 : decode cX5_reset 7 = .ok (.istore_n 1, 1) := by decide +kernel
theorem dX5_reset_8 : decode cX5_reset 8 = .ok (.aload_n 0, 1) := by decide +kernel
theorem dX5_reset_9 : decode cX5_reset 9 = .ok (.getfield 31, 3) := by decide +kernel
theorem dX5_reset_12 : decode cX5_reset 12 = .ok (.invokevirtual 60, 3) := by decide +kernel
theorem dX5_reset_15 : decode cX5_reset 15 = .ok (.iload_n 1, 1) := by decide +kernel
theorem dX5_reset_16 : decode cX5_reset 16 = .ok (.ireturn, 1) := by decide +kernel
theorem dX5_restore_0 : decode cX5_restore 0 = .ok (.iload_n 1, 1) := by decide +kernel
theorem dX5_restore_1 : decode cX5_restore 1 = .ok (.iconst 2, 1) := by decide +kernel
theorem dX5_restore_2 : decode cX5_restore 2 = .ok (.invokestatic 77, 3) := by decide +kernel
theorem dX5_restore_5 : decode cX5_restore 5 = .ok (.aload_n 0, 1) := by decide +kernel
theorem dX5_restore_6 : decode cX5_restore 6 = .ok (.getfield 42, 3) := by decide +kernel
theorem dX5_restore_9 : decode cX5_restore 9 = .ok (.iload_n 1, 1) := by decide +kernel
theorem dX5_restore_10 : decode cX5_restore 10 = .ok (.baload, 1) := by decide +kernel
theorem dX5_restore_11 : decode cX5_restore 11 = .ok (.ifCond .ne 14, 3) := by decide +kernel
theorem dX5_restore_14 : decode cX5_restore 14 = .ok (.new 247, 3) := by decide +kernel
theorem dX5_restore_17 : decode cX5_restore 17 = .ok (.dup, 1) := by decide +kernel
theorem dX5_restore_18 : decode cX5_restore 18 = .ok (.ldc_w 317, 3) := by decide +kernel
theorem dX5_restore_21 : decode cX5_restore 21 = .ok (.invokespecial 251, 3) := by decide +kernel
theorem dX5_restore_24 : decode cX5_restore 24 = .ok (.athrow, 1) := by decide +kernel
theorem dX5_sample_0 : decode cX5_sample 0 = .ok (.iload_n 1, 1) := by decide +kernel
theorem dX5_sample_1 : decode cX5_sample 1 = .ok (.aload_n 0, 1) := by decide +kernel
theorem dX5_sample_2 : decode cX5_sample 2 = .ok (.getfield 19, 3) := by decide +kernel
theorem dX5_sample_5 : decode cX5_sample 5 = .ok (.getfield 94, 3) := by decide +kernel
theorem dX5_sample_8 : decode cX5_sample 8 = .ok (.invokestatic 77, 3) := by decide +kernel
theorem dX5_sample_11 : decode cX5_sample 11 = .ok (.iload_n 2, 1) := by decide +kernel
theorem dX5_sample_12 : decode cX5_sample 12 = .ok (.tableswitch 130 0 5 #[40, 51, 62, 79, 109, 119], 40) := by decide +kernel
theorem dX5_sample_52 : decode cX5_sample 52 = .ok (.aload_n 0, 1) := by decide +kernel
theorem dX5_sample_53 : decode cX5_sample 53 = .ok (.getfield 19, 3) := by decide +kernel
theorem dX5_sample_56 : decode cX5_sample 56 = .ok (.getfield 132, 3) := by decide +kernel
theorem dX5_sample_59 : decode cX5_sample 59 = .ok (.iload_n 1, 1) := by decide +kernel
theorem dX5_sample_60 : decode cX5_sample 60 = .ok (.iaload, 1) := by decide +kernel
theorem dX5_sample_61 : decode cX5_sample 61 = .ok (.i2l, 1) := by decide +kernel
theorem dX5_sample_62 : decode cX5_sample 62 = .ok (.lreturn, 1) := by decide +kernel
theorem dX5_sample_63 : decode cX5_sample 63 = .ok (.aload_n 0, 1) := by decide +kernel
theorem dX5_sample_64 : decode cX5_sample 64 = .ok (.getfield 19, 3) := by decide +kernel
theorem dX5_sample_67 : decode cX5_sample 67 = .ok (.getfield 136, 3) := by decide +kernel
theorem dX5_sample_70 : decode cX5_sample 70 = .ok (.iload_n 1, 1) := by decide +kernel
theorem dX5_sample_71 : decode cX5_sample 71 = .ok (.iaload, 1) := by decide +kernel
theorem dX5_sample_72 : decode cX5_sample 72 = .ok (.i2l, 1) := by decide +kernel
theorem dX5_sample_73 : decode cX5_sample 73 = .ok (.lreturn, 1) := by decide +kernel
theorem dX5_sample_74 : decode cX5_sample 74 = .ok (.aload_n 0, 1) := by decide +kernel
theorem dX5_sample_75 : decode cX5_sample 75 = .ok (.getfield 31, 3) := by decide +kernel
theorem dX5_sample_78 : decode cX5_sample 78 = .ok (.iload_n 1, 1) := by decide +kernel
theorem dX5_sample_79 : decode cX5_sample 79 = .ok (.invokevirtual 139, 3) := by decide +kernel
theorem dX5_sample_82 : decode cX5_sample 82 = .ok (.ifCond .eq 7, 3) := by decide +kernel
theorem dX5_sample_85 : decode cX5_sample 85 = .ok (.lconst 1, 1) := by decide +kernel
theorem dX5_sample_86 : decode cX5_sample 86 = .ok (.goto 4, 3) := by decide +kernel
theorem dX5_sample_90 : decode cX5_sample 90 = .ok (.lreturn, 1) := by decide +kernel
theorem dX5_sample_91 : decode cX5_sample 91 = .ok (.aload_n 0, 1) := by decide +kernel
theorem dX5_sample_92 : decode cX5_sample 92 = .ok (.getfield 31, 3) := by decide +kernel
theorem dX5_sample_95 : decode cX5_sample 95 = .ok (.iload_n 1, 1) := by decide +kernel
theorem dX5_sample_96 : decode cX5_sample 96 = .ok (.invokevirtual 139, 3) := by decide +kernel
theorem dX5_sample_99 : decode cX5_sample 99 = .ok (.ifCond .eq 18, 3) := by decide +kernel
theorem dX5_sample_102 : decode cX5_sample 102 = .ok (.aload_n 0, 1) := by decide +kernel
theorem dX5_sample_103 : decode cX5_sample 103 = .ok (.getfield 31, 3) := by decide +kernel
theorem dX5_sample_106 : decode cX5_sample 106 = .ok (.getfield 143, 3) := by decide +kernel
theorem dX5_sample_109 : decode cX5_sample 109 = .ok (.iload_n 1, 1) := by decide +kernel
theorem dX5_sample_110 : decode cX5_sample 110 = .ok (.aaload, 1) := by decide +kernel
theorem dX5_sample_111 : decode cX5_sample 111 = .ok (.invokevirtual 147, 3) := by decide +kernel
theorem dX5_sample_114 : decode cX5_sample 114 = .ok (.goto 6, 3) := by decide +kernel
theorem dX5_sample_120 : decode cX5_sample 120 = .ok (.lreturn, 1) := by decide +kernel
theorem dX5_sample_121 : decode cX5_sample 121 = .ok (.aload_n 0, 1) := by decide +kernel
theorem dX5_sample_122 : decode cX5_sample 122 = .ok (.getfield 31, 3) := by decide +kernel
theorem dX5_sample_125 : decode cX5_sample 125 = .ok (.getfield 154, 3) := by decide +kernel
theorem dX5_sample_128 : decode cX5_sample 128 = .ok (.iload_n 1, 1) := by decide +kernel
theorem dX5_sample_129 : decode cX5_sample 129 = .ok (.laload, 1) := by decide +kernel
theorem dX5_sample_130 : decode cX5_sample 130 = .ok (.lreturn, 1) := by decide +kernel
theorem dX5_sample_131 : decode cX5_sample 131 = .ok (.aload_n 0, 1) := by decide +kernel
theorem dX5_sample_132 : decode cX5_sample 132 = .ok (.getfield 31, 3) := by decide +kernel
theorem dX5_sample_135 : decode cX5_sample 135 = .ok (.getfield 158, 3) := by decide +kernel
theorem dX5_sample_138 : decode cX5_sample 138 = .ok (.iload_n 1, 1) := by decide +kernel
theorem dX5_sample_139 : decode cX5_sample 139 = .ok (.iaload, 1) := by decide +kernel
theorem dX5_sample_140 : decode cX5_sample 140 = .ok (.i2l, 1) := by decide +kernel
theorem dX5_sample_141 : decode cX5_sample 141 = .ok (.lreturn, 1) := by decide +kernel
theorem dX5_sample_142 : decode cX5_sample 142 = .ok (.new 84, 3) := by decide +kernel
theorem dX5_sample_145 : decode cX5_sample 145 = .ok (.dup, 1) := by decide +kernel
theorem dX5_sample_146 : decode cX5_sample 146 = .ok (.ldc 130, 2) := by decide +kernel
theorem dX5_sample_148 : decode cX5_sample 148 = .ok (.invokespecial 88, 3) := by decide +kernel
theorem dX5_sample_151 : decode cX5_sample 151 = .ok (.athrow, 1) := by decide +kernel
theorem dX5_save_0 : decode cX5_save 0 = .ok (.iload_n 1, 1) := by decide +kernel
theorem dX5_save_1 : decode cX5_save 1 = .ok (.iconst 2, 1) := by decide +kernel
theorem dX5_save_2 : decode cX5_save 2 = .ok (.invokestatic 77, 3) := by decide +kernel
theorem dX5_save_5 : decode cX5_save 5 = .ok (.aload_n 0, 1) := by decide +kernel
theorem dX5_save_6 : decode cX5_save 6 = .ok (.getfield 38, 3) := by decide +kernel
theorem dX5_save_9 : decode cX5_save 9 = .ok (.iload_n 1, 1) := by decide +kernel
theorem dX5_save_10 : decode cX5_save 10 = .ok (.aaload, 1) := by decide +kernel
theorem dX5_save_11 : decode cX5_save 11 = .ok (.aload_n 0, 1) := by decide +kernel
theorem dX5_save_12 : decode cX5_save 12 = .ok (.getfield 31, 3) := by decide +kernel
theorem dX5_save_15 : decode cX5_save 15 = .ok (.invokevirtual 287, 3) := by decide +kernel
theorem dX5_save_18 : decode cX5_save 18 = .ok (.aload_n 0, 1) := by decide +kernel
theorem dX5_save_19 : decode cX5_save 19 = .ok (.getfield 42, 3) := by decide +kernel
theorem dX5_save_22 : decode cX5_save 22 = .ok (.iload_n 1, 1) := by decide +kernel
theorem dX5_save_23 : decode cX5_save 23 = .ok (.iconst 1, 1) := by decide +kernel
theorem dX5_save_24 : decode cX5_save 24 = .ok (.bastore, 1) := by decide +kernel
theorem dX5_save_25 : decode cX5_save 25 = .ok (.return_, 1) := by decide +kernel
theorem dX5_set_0 : decode cX5_set 0 = .ok (.iload_n 1, 1) := by decide +kernel
theorem dX5_set_1 : decode cX5_set 1 = .ok (.aload_n 0, 1) := by decide +kernel
theorem dX5_set_2 : decode cX5_set 2 = .ok (.getfield 19, 3) := by decide +kernel
theorem dX5_set_5 : decode cX5_set 5 = .ok (.getfield 94, 3) := by decide +kernel
theorem dX5_set_8 : decode cX5_set 8 = .ok (.invokestatic 77, 3) := by decide +kernel
theorem dX5_set_11 : decode cX5_set 11 = .ok (.iload_n 2, 1) := by decide +kernel
theorem dX5_set_12 : decode cX5_set 12 = .ok (.sipush (-9999), 3) := by decide +kernel
theorem dX5_set_15 : decode cX5_set 15 = .ok (.sipush 9999, 3) := by decide +kernel
theorem dX5_set_18 : decode cX5_set 18 = .ok (.invokestatic 212, 3) := by decide +kernel
theorem dX5_set_21 : decode cX5_set 21 = .ok (.aload_n 0, 1) := by decide +kernel
theorem dX5_set_22 : decode cX5_set 22 = .ok (.getfield 31, 3) := by decide +kernel
theorem dX5_set_25 : decode cX5_set 25 = .ok (.iload_n 1, 1) := by decide +kernel
theorem dX5_set_26 : decode cX5_set 26 = .ok (.invokevirtual 139, 3) := by decide +kernel
theorem dX5_set_29 : decode cX5_set 29 = .ok (.ifCond .ne 11, 3) := by decide +kernel
theorem dX5_set_40 : decode cX5_set 40 = .ok (.aload_n 0, 1) := by decide +kernel
theorem dX5_set_41 : decode cX5_set 41 = .ok (.getfield 31, 3) := by decide +kernel
theorem dX5_set_44 : decode cX5_set 44 = .ok (.getfield 143, 3) := by decide +kernel
theorem dX5_set_47 : decode cX5_set 47 = .ok (.iload_n 1, 1) := by decide +kernel
theorem dX5_set_48 : decode cX5_set 48 = .ok (.aaload, 1) := by decide +kernel
theorem dX5_set_49 : decode cX5_set 49 = .ok (.invokevirtual 147, 3) := by decide +kernel
theorem dX5_set_52 : decode cX5_set 52 = .ok (.lstore_n 3, 1) := by decide +kernel
theorem dX5_set_53 : decode cX5_set 53 = .ok (.aload_n 0, 1) := by decide +kernel
theorem dX5_set_54 : decode cX5_set 54 = .ok (.getfield 31, 3) := by decide +kernel
theorem dX5_set_57 : decode cX5_set 57 = .ok (.iload_n 1, 1) := by decide +kernel
theorem dX5_set_58 : decode cX5_set 58 = .ok (.iload_n 2, 1) := by decide +kernel
theorem dX5_set_59 : decode cX5_set 59 = .ok (.invokevirtual 255, 3) := by decide +kernel
theorem dX5_set_62 : decode cX5_set 62 = .ok (.lload_n 3, 1) := by decide +kernel
theorem dX5_set_63 : decode cX5_set 63 = .ok (.lreturn, 1) := by decide +kernel
theorem dX5_setDetail_0 : decode cX5_setDetail 0 = .ok (.iload_n 1, 1) := by decide +kernel
theorem dX5_setDetail_1 : decode cX5_setDetail 1 = .ok (.aload_n 0, 1) := by decide +kernel
theorem dX5_setDetail_2 : decode cX5_setDetail 2 = .ok (.getfield 31, 3) := by decide +kernel
theorem dX5_setDetail_5 : decode cX5_setDetail 5 = .ok (.getfield 107, 3) := by decide +kernel
theorem dX5_setDetail_8 : decode cX5_setDetail 8 = .ok (.invokestatic 77, 3) := by decide +kernel
theorem dX5_setPredict_0 : decode cX5_setPredict 0 = .ok (.iload_n 1, 1) := by decide +kernel
theorem dX5_setPredict_1 : decode cX5_setPredict 1 = .ok (.iconst 0, 1) := by decide +kernel
theorem dX5_setPredict_2 : decode cX5_setPredict 2 = .ok (.iconst 2, 1) := by decide +kernel
theorem dX5_setPredict_3 : decode cX5_setPredict 3 = .ok (.invokestatic 212, 3) := by decide +kernel
theorem dX5_setPredict_6 : decode cX5_setPredict 6 = .ok (.aload_n 0, 1) := by decide +kernel
theorem dX5_setPredict_7 : decode cX5_setPredict 7 = .ok (.getfield 31, 3) := by decide +kernel
theorem dX5_setPredict_10 : decode cX5_setPredict 10 = .ok (.getfield 116, 3) := by decide +kernel
theorem dX5_setPredict_13 : decode cX5_setPredict 13 = .ok (.istore_n 2, 1) := by decide +kernel
theorem dX5_setPredict_14 : decode cX5_setPredict 14 = .ok (.aload_n 0, 1) := by decide +kernel
theorem dX5_setPredict_15 : decode cX5_setPredict 15 = .ok (.getfield 31, 3) := by decide +kernel
theorem dX5_setPredict_18 : decode cX5_setPredict 18 = .ok (.iload_n 1, 1) := by decide +kernel
theorem dX5_setPredict_19 : decode cX5_setPredict 19 = .ok (.putfield 116, 3) := by decide +kernel
theorem dX5_setPredict_22 : decode cX5_setPredict 22 = .ok (.iload_n 2, 1) := by decide +kernel
theorem dX5_setPredict_23 : decode cX5_setPredict 23 = .ok (.ireturn, 1) := by decide +kernel
theorem dX5_setSplit_0 : decode cX5_setSplit 0 = .ok (.iload_n 1, 1) := by decide +kernel
theorem dX5_setSplit_1 : decode cX5_setSplit 1 = .ok (.iconst 0, 1) := by decide +kernel
theorem dX5_setSplit_2 : decode cX5_setSplit 2 = .ok (.iconst 2, 1) := by decide +kernel
theorem dX5_setSplit_3 : decode cX5_setSplit 3 = .ok (.invokestatic 212, 3) := by decide +kernel
theorem dX5_setSplit_6 : decode cX5_setSplit 6 = .ok (.aload_n 0, 1) := by decide +kernel
theorem dX5_setSplit_7 : decode cX5_setSplit 7 = .ok (.getfield 31, 3) := by decide +kernel
theorem dX5_setSplit_10 : decode cX5_setSplit 10 = .ok (.getfield 113, 3) := by decide +kernel
theorem dX5_setSplit_13 : decode cX5_setSplit 13 = .ok (.istore_n 2, 1) := by decide +kernel
theorem dX5_setSplit_14 : decode cX5_setSplit 14 = .ok (.aload_n 0, 1) := by decide +kernel
theorem dX5_setSplit_15 : decode cX5_setSplit 15 = .ok (.getfield 31, 3) := by decide +kernel
theorem dX5_setSplit_18 : decode cX5_setSplit 18 = .ok (.iload_n 1, 1) := by decide +kernel
theorem dX5_setSplit_19 : decode cX5_setSplit 19 = .ok (.putfield 113, 3) := by decide +kernel
theorem dX5_setSplit_22 : decode cX5_setSplit 22 = .ok (.iload_n 2, 1) := by decide +kernel
theorem dX5_setSplit_23 : decode cX5_setSplit 23 = .ok (.ireturn, 1) := by decide +kernel
theorem dX5_setUpdate_0 : decode cX5_setUpdate 0 = .ok (.aload_n 0, 1) := by decide +kernel
theorem dX5_setUpdate_1 : decode cX5_setUpdate 1 = .ok (.getfield 31, 3) := by decide +kernel
theorem dX5_setUpdate_4 : decode cX5_setUpdate 4 = .ok (.getfield 119, 3) := by decide +kernel
theorem dX5_setUpdate_7 : decode cX5_setUpdate 7 = .ok (.istore_n 2, 1) := by decide +kernel
theorem dX5_setUpdate_8 : decode cX5_setUpdate 8 = .ok (.aload_n 0, 1) := by decide +kernel
theorem dX5_setUpdate_9 : decode cX5_setUpdate 9 = .ok (.getfield 31, 3) := by decide +kernel
theorem dX5_setUpdate_12 : decode cX5_setUpdate 12 = .ok (.iload_n 1, 1) := by decide +kernel
theorem dX5_setUpdate_13 : decode cX5_setUpdate 13 = .ok (.putfield 119, 3) := by decide +kernel
theorem dX5_setUpdate_16 : decode cX5_setUpdate 16 = .ok (.iload_n 2, 1) := by decide +kernel
theorem dX5_setUpdate_17 : decode cX5_setUpdate 17 = .ok (.ireturn, 1) := by decide +kernel
theorem dX5_step_0 : decode cX5_step 0 = .ok (.iload_n 1, 1) := by decide +kernel
theorem dX5_step_1 : decode cX5_step 1 = .ok (.aload_n 0, 1) := by decide +kernel
theorem dX5_step_2 : decode cX5_step 2 = .ok (.getfield 31, 3) := by decide +kernel
theorem dX5_step_5 : decode cX5_step 5 = .ok (.getfield 107, 3) := by decide +kernel
theorem dX5_step_8 : decode cX5_step 8 = .ok (.invokestatic 77, 3) := by decide +kernel
theorem dX5_threshold_0 : decode cX5_threshold 0 = .ok (.iload_n 1, 1) := by decide +kernel
theorem dX5_threshold_1 : decode cX5_threshold 1 = .ok (.iconst 0, 1) := by decide +kernel
theorem dX5_threshold_2 : decode cX5_threshold 2 = .ok (.sipush 9999, 3) := by decide +kernel
theorem dX5_threshold_5 : decode cX5_threshold 5 = .ok (.invokestatic 212, 3) := by decide +kernel
theorem dX5_threshold_8 : decode cX5_threshold 8 = .ok (.aload_n 0, 1) := by decide +kernel
theorem dX5_threshold_9 : decode cX5_threshold 9 = .ok (.getfield 31, 3) := by decide +kernel
theorem dX5_threshold_12 : decode cX5_threshold 12 = .ok (.iload_n 1, 1) := by decide +kernel
theorem dX5_threshold_13 : decode cX5_threshold 13 = .ok (.iload_n 2, 1) := by decide +kernel
theorem dX5_threshold_14 : decode cX5_threshold 14 = .ok (.invokevirtual 277, 3) := by decide +kernel
theorem dX5_threshold_17 : decode cX5_threshold 17 = .ok (.aload_n 0, 1) := by decide +kernel
theorem dX5_threshold_18 : decode cX5_threshold 18 = .ok (.getfield 31, 3) := by decide +kernel
theorem dX5_threshold_21 : decode cX5_threshold 21 = .ok (.invokevirtual 110, 3) := by decide +kernel
theorem dX5_threshold_24 : decode cX5_threshold 24 = .ok (.ireturn, 1) := by decide +kernel
theorem dX5_truncate_0 : decode cX5_truncate 0 = .ok (.iload_n 1, 1) := by decide +kernel
theorem dX5_truncate_1 : decode cX5_truncate 1 = .ok (.aload_n 0, 1) := by decide +kernel
theorem dX5_truncate_2 : decode cX5_truncate 2 = .ok (.getfield 12, 3) := by decide +kernel
theorem dX5_truncate_5 : decode cX5_truncate 5 = .ok (.getfield 74, 3) := by decide +kernel
theorem dX5_truncate_8 : decode cX5_truncate 8 = .ok (.iconst 1, 1) := by decide +kernel
theorem dX5_truncate_9 : decode cX5_truncate 9 = .ok (.iadd, 1) := by decide +kernel
theorem dX5_truncate_10 : decode cX5_truncate 10 = .ok (.invokestatic 77, 3) := by decide +kernel
theorem dX5_truncate_13 : decode cX5_truncate 13 = .ok (.aload_n 0, 1) := by decide +kernel
theorem dX5_truncate_14 : decode cX5_truncate 14 = .ok (.getfield 12, 3) := by decide +kernel
theorem dX5_truncate_17 : decode cX5_truncate 17 = .ok (.iload_n 1, 1) := by decide +kernel
theorem dX5_truncate_18 : decode cX5_truncate 18 = .ok (.putfield 74, 3) := by decide +kernel
theorem dX5_truncate_21 : decode cX5_truncate 21 = .ok (.iload_n 1, 1) := by decide +kernel
theorem dX5_truncate_22 : decode cX5_truncate 22 = .ok (.ireturn, 1) := by decide +kernel
theorem dX5_valueAt_0 : decode cX5_valueAt 0 = .ok (.iload_n 1, 1) := by decide +kernel
theorem dX5_valueAt_1 : decode cX5_valueAt 1 = .ok (.aload_n 0, 1) := by decide +kernel
theorem dX5_valueAt_2 : decode cX5_valueAt 2 = .ok (.getfield 19, 3) := by decide +kernel
theorem dX5_valueAt_5 : decode cX5_valueAt 5 = .ok (.getfield 132, 3) := by decide +kernel
theorem dX5_valueAt_8 : decode cX5_valueAt 8 = .ok (.iconst 0, 1) := by decide +kernel
theorem dX5_valueAt_9 : decode cX5_valueAt 9 = .ok (.iaload, 1) := by decide +kernel
theorem dX5_valueAt_10 : decode cX5_valueAt 10 = .ok (.if_icmp .lt 24, 3) := by decide +kernel
theorem dX5_valueAt_13 : decode cX5_valueAt 13 = .ok (.iload_n 1, 1) := by decide +kernel
theorem dX5_valueAt_14 : decode cX5_valueAt 14 = .ok (.aload_n 0, 1) := by decide +kernel
theorem dX5_valueAt_15 : decode cX5_valueAt 15 = .ok (.getfield 19, 3) := by decide +kernel
theorem dX5_valueAt_18 : decode cX5_valueAt 18 = .ok (.getfield 132, 3) := by decide +kernel
theorem dX5_valueAt_21 : decode cX5_valueAt 21 = .ok (.aload_n 0, 1) := by decide +kernel
theorem dX5_valueAt_22 : decode cX5_valueAt 22 = .ok (.getfield 19, 3) := by decide +kernel
theorem dX5_valueAt_25 : decode cX5_valueAt 25 = .ok (.getfield 94, 3) := by decide +kernel
theorem dX5_valueAt_28 : decode cX5_valueAt 28 = .ok (.iconst 1, 1) := by decide +kernel
theorem dX5_valueAt_29 : decode cX5_valueAt 29 = .ok (.isub, 1) := by decide +kernel
theorem dX5_valueAt_30 : decode cX5_valueAt 30 = .ok (.iaload, 1) := by decide +kernel
theorem dX5_valueAt_31 : decode cX5_valueAt 31 = .ok (.if_icmp .le 13, 3) := by decide +kernel
theorem dX5_valueAt_34 : decode cX5_valueAt 34 = .ok (.new 196, 3) := by decide +kernel
theorem dX5_valueAt_37 : decode cX5_valueAt 37 = .ok (.dup, 1) := by decide +kernel
theorem dX5_valueAt_38 : decode cX5_valueAt 38 = .ok (.ldc 198, 2) := by decide +kernel
theorem dX5_valueAt_40 : decode cX5_valueAt 40 = .ok (.invokespecial 200, 3) := by decide +kernel
theorem dX5_valueAt_43 : decode cX5_valueAt 43 = .ok (.athrow, 1) := by decide +kernel
theorem dX5_valueAt_44 : decode cX5_valueAt 44 = .ok (.aload_n 0, 1) := by decide +kernel
theorem dX5_valueAt_45 : decode cX5_valueAt 45 = .ok (.getfield 31, 3) := by decide +kernel
theorem dX5_valueAt_48 : decode cX5_valueAt 48 = .ok (.iload_n 1, 1) := by decide +kernel
theorem dX5_valueAt_49 : decode cX5_valueAt 49 = .ok (.invokevirtual 201, 3) := by decide +kernel
theorem dX5_valueAt_52 : decode cX5_valueAt 52 = .ok (.invokevirtual 147, 3) := by decide +kernel
theorem dX5_valueAt_55 : decode cX5_valueAt 55 = .ok (.lreturn, 1) := by decide +kernel
theorem dX6_amount_0 : decode cX6_amount 0 = .ok (.lload_n 0, 1) := by decide +kernel
theorem dX6_amount_1 : decode cX6_amount 1 = .ok (.lconst 0, 1) := by decide +kernel
theorem dX6_amount_2 : decode cX6_amount 2 = .ok (.lcmp, 1) := by decide +kernel
theorem dX6_amount_3 : decode cX6_amount 3 = .ok (.ifCond .ge 8, 3) := by decide +kernel
theorem dX6_amount_11 : decode cX6_amount 11 = .ok (.lload_n 0, 1) := by decide +kernel
theorem dX6_amount_12 : decode cX6_amount 12 = .ok (.lreturn, 1) := by decide +kernel
theorem dX6_anew_0 : decode cX6_anew 0 = .ok (.aload_n 0, 1) := by decide +kernel
theorem dX6_anew_1 : decode cX6_anew 1 = .ok (.getfield 7, 3) := by decide +kernel
theorem dX6_anew_4 : decode cX6_anew 4 = .ok (.iconst 3, 1) := by decide +kernel
theorem dX6_anew_5 : decode cX6_anew 5 = .ok (.lconst 0, 1) := by decide +kernel
theorem dX6_anew_6 : decode cX6_anew 6 = .ok (.lastore, 1) := by decide +kernel
theorem dX6_anew_7 : decode cX6_anew 7 = .ok (.aload_n 0, 1) := by decide +kernel
theorem dX6_anew_8 : decode cX6_anew 8 = .ok (.getfield 7, 3) := by decide +kernel
theorem dX6_anew_11 : decode cX6_anew 11 = .ok (.iconst 4, 1) := by decide +kernel
theorem dX6_anew_12 : decode cX6_anew 12 = .ok (.lconst 0, 1) := by decide +kernel
theorem dX6_anew_13 : decode cX6_anew 13 = .ok (.lastore, 1) := by decide +kernel
theorem dX6_anew_14 : decode cX6_anew 14 = .ok (.iconst 0, 1) := by decide +kernel
theorem dX6_anew_15 : decode cX6_anew 15 = .ok (.istore_n 1, 1) := by decide +kernel
theorem dX6_anew_16 : decode cX6_anew 16 = .ok (.iload_n 1, 1) := by decide +kernel
theorem dX6_anew_17 : decode cX6_anew 17 = .ok (.aload_n 0, 1) := by decide +kernel
theorem dX6_anew_18 : decode cX6_anew 18 = .ok (.getfield 185, 3) := by decide +kernel
theorem dX6_anew_21 : decode cX6_anew 21 = .ok (.if_icmp .ge 99, 3) := by decide +kernel
theorem dX6_anew_24 : decode cX6_anew 24 = .ok (.aload_n 0, 1) := by decide +kernel
theorem dX6_anew_25 : decode cX6_anew 25 = .ok (.getfield 7, 3) := by decide +kernel
theorem dX6_anew_28 : decode cX6_anew 28 = .ok (.iconst 5, 1) := by decide +kernel
theorem dX6_anew_29 : decode cX6_anew 29 = .ok (.iload_n 1, 1) := by decide +kernel
theorem dX6_anew_30 : decode cX6_anew 30 = .ok (.iadd, 1) := by decide +kernel
theorem dX6_anew_31 : decode cX6_anew 31 = .ok (.aload_n 0, 1) := by decide +kernel
theorem dX6_anew_32 : decode cX6_anew 32 = .ok (.getfield 27, 3) := by decide +kernel
theorem dX6_anew_35 : decode cX6_anew 35 = .ok (.iload_n 1, 1) := by decide +kernel
theorem dX6_anew_36 : decode cX6_anew 36 = .ok (.iaload, 1) := by decide +kernel
theorem dX6_anew_37 : decode cX6_anew 37 = .ok (.i2l, 1) := by decide +kernel
theorem dX6_anew_38 : decode cX6_anew 38 = .ok (.lastore, 1) := by decide +kernel
theorem dX6_anew_39 : decode cX6_anew 39 = .ok (.iload_n 1, 1) := by decide +kernel
theorem dX6_anew_40 : decode cX6_anew 40 = .ok (.ifCond .ne 12, 3) := by decide +kernel
theorem dX6_anew_43 : decode cX6_anew 43 = .ok (.aload_n 0, 1) := by decide +kernel
theorem dX6_anew_44 : decode cX6_anew 44 = .ok (.getfield 23, 3) := by decide +kernel
theorem dX6_anew_47 : decode cX6_anew 47 = .ok (.iconst 0, 1) := by decide +kernel
theorem dX6_anew_48 : decode cX6_anew 48 = .ok (.iaload, 1) := by decide +kernel
theorem dX6_anew_49 : decode cX6_anew 49 = .ok (.goto 11, 3) := by decide +kernel
theorem dX6_anew_52 : decode cX6_anew 52 = .ok (.aload_n 0, 1) := by decide +kernel
theorem dX6_anew_53 : decode cX6_anew 53 = .ok (.getfield 23, 3) := by decide +kernel
theorem dX6_anew_56 : decode cX6_anew 56 = .ok (.iload_n 1, 1) := by decide +kernel
theorem dX6_anew_57 : decode cX6_anew 57 = .ok (.iconst 1, 1) := by decide +kernel
theorem dX6_anew_58 : decode cX6_anew 58 = .ok (.isub, 1) := by decide +kernel
theorem dX6_anew_59 : decode cX6_anew 59 = .ok (.iaload, 1) := by decide +kernel
theorem dX6_anew_60 : decode cX6_anew 60 = .ok (.istore_n 2, 1) := by decide +kernel
theorem dX6_anew_61 : decode cX6_anew 61 = .ok (.iload_n 1, 1) := by decide +kernel
theorem dX6_anew_62 : decode cX6_anew 62 = .ok (.aload_n 0, 1) := by decide +kernel
theorem dX6_anew_63 : decode cX6_anew 63 = .ok (.getfield 185, 3) := by decide +kernel
theorem dX6_anew_66 : decode cX6_anew 66 = .ok (.iconst 1, 1) := by decide +kernel
theorem dX6_anew_67 : decode cX6_anew 67 = .ok (.isub, 1) := by decide +kernel
theorem dX6_anew_68 : decode cX6_anew 68 = .ok (.if_icmp .ne 12, 3) := by decide +kernel
theorem dX6_anew_71 : decode cX6_anew 71 = .ok (.aload_n 0, 1) := by decide +kernel
theorem dX6_anew_72 : decode cX6_anew 72 = .ok (.getfield 23, 3) := by decide +kernel
theorem dX6_anew_75 : decode cX6_anew 75 = .ok (.iload_n 1, 1) := by decide +kernel
theorem dX6_anew_76 : decode cX6_anew 76 = .ok (.iaload, 1) := by decide +kernel
theorem dX6_anew_77 : decode cX6_anew 77 = .ok (.goto 11, 3) := by decide +kernel
theorem dX6_anew_80 : decode cX6_anew 80 = .ok (.aload_n 0, 1) := by decide +kernel
theorem dX6_anew_81 : decode cX6_anew 81 = .ok (.getfield 23, 3) := by decide +kernel
theorem dX6_anew_84 : decode cX6_anew 84 = .ok (.iload_n 1, 1) := by decide +kernel
theorem dX6_anew_85 : decode cX6_anew 85 = .ok (.iconst 1, 1) := by decide +kernel
theorem dX6_anew_86 : decode cX6_anew 86 = .ok (.iadd, 1) := by decide +kernel
theorem dX6_anew_87 : decode cX6_anew 87 = .ok (.iaload, 1) := by decide +kernel
theorem dX6_anew_88 : decode cX6_anew 88 = .ok (.istore_n 3, 1) := by decide +kernel
theorem dX6_anew_89 : decode cX6_anew 89 = .ok (.aload_n 0, 1) := by decide +kernel
theorem dX6_anew_90 : decode cX6_anew 90 = .ok (.getfield 7, 3) := by decide +kernel
theorem dX6_anew_93 : decode cX6_anew 93 = .ok (.bipush 53, 2) := by decide +kernel
theorem dX6_anew_95 : decode cX6_anew 95 = .ok (.iload_n 1, 1) := by decide +kernel
theorem dX6_anew_96 : decode cX6_anew 96 = .ok (.iadd, 1) := by decide +kernel
theorem dX6_anew_97 : decode cX6_anew 97 = .ok (.iload_n 3, 1) := by decide +kernel
theorem dX6_anew_98 : decode cX6_anew 98 = .ok (.iload_n 2, 1) := by decide +kernel
theorem dX6_anew_99 : decode cX6_anew 99 = .ok (.isub, 1) := by decide +kernel
theorem dX6_anew_100 : decode cX6_anew 100 = .ok (.i2l, 1) := by decide +kernel
theorem dX6_anew_101 : decode cX6_anew 101 = .ok (.lastore, 1) := by decide +kernel
theorem dX6_anew_102 : decode cX6_anew 102 = .ok (.aload_n 0, 1) := by decide +kernel
theorem dX6_anew_103 : decode cX6_anew 103 = .ok (.getfield 7, 3) := by decide +kernel
theorem dX6_anew_106 : decode cX6_anew 106 = .ok (.bipush 101, 2) := by decide +kernel
theorem dX6_anew_108 : decode cX6_anew 108 = .ok (.iload_n 1, 1) := by decide +kernel
theorem dX6_anew_109 : decode cX6_anew 109 = .ok (.iadd, 1) := by decide +kernel
theorem dX6_anew_110 : decode cX6_anew 110 = .ok (.ldc2_w 197, 3) := by decide +kernel
theorem dX6_anew_113 : decode cX6_anew 113 = .ok (.lastore, 1) := by decide +kernel
theorem dX6_anew_114 : decode cX6_anew 114 = .ok (.iinc 1 1, 3) := by decide +kernel
theorem dX6_anew_117 : decode cX6_anew 117 = .ok (.goto (-101), 3) := by decide +kernel
theorem dX6_anew_120 : decode cX6_anew 120 = .ok (.return_, 1) := by decide +kernel
theorem dX6_append_0 : decode cX6_append 0 = .ok (.aload_n 0, 1) := by decide +kernel
theorem dX6_append_1 : decode cX6_append 1 = .ok (.iconst 0, 1) := by decide +kernel
theorem dX6_append_2 : decode cX6_append 2 = .ok (.putfield 64, 3) := by decide +kernel
theorem dX6_append_5 : decode cX6_append 5 = .ok (.aload_n 0, 1) := by decide +kernel
theorem dX6_append_6 : decode cX6_append 6 = .ok (.getfield 77, 3) := by decide +kernel
theorem dX6_append_9 : decode cX6_append 9 = .ok (.bipush 20, 2) := by decide +kernel
theorem dX6_append_11 : decode cX6_append 11 = .ok (.iadd, 1) := by decide +kernel
theorem dX6_append_12 : decode cX6_append 12 = .ok (.sipush 700, 3) := by decide +kernel
theorem dX6_append_15 : decode cX6_append 15 = .ok (.if_icmp .le 5, 3) := by decide +kernel
theorem dX6_append_20 : decode cX6_append 20 = .ok (.aload_n 0, 1) := by decide +kernel
theorem dX6_append_21 : decode cX6_append 21 = .ok (.iload_n 1, 1) := by decide +kernel
theorem dX6_append_22 : decode cX6_append 22 = .ok (.invokevirtual 80, 3) := by decide +kernel
theorem dX6_append_25 : decode cX6_append 25 = .ok (.aload_n 0, 1) := by decide +kernel
theorem dX6_append_26 : decode cX6_append 26 = .ok (.iload_n 2, 1) := by decide +kernel
theorem dX6_append_27 : decode cX6_append 27 = .ok (.invokevirtual 80, 3) := by decide +kernel
theorem dX6_append_30 : decode cX6_append 30 = .ok (.aload_n 0, 1) := by decide +kernel
theorem dX6_append_31 : decode cX6_append 31 = .ok (.iload_n 3, 1) := by decide +kernel
theorem dX6_append_32 : decode cX6_append 32 = .ok (.invokevirtual 80, 3) := by decide +kernel
theorem dX6_append_35 : decode cX6_append 35 = .ok (.aload_n 0, 1) := by decide +kernel
theorem dX6_append_36 : decode cX6_append 36 = .ok (.iload 4, 2) := by decide +kernel
theorem dX6_append_38 : decode cX6_append 38 = .ok (.invokevirtual 80, 3) := by decide +kernel
theorem dX6_append_41 : decode cX6_append 41 = .ok (.aload_n 0, 1) := by decide +kernel
theorem dX6_append_42 : decode cX6_append 42 = .ok (.iload 5, 2) := by decide +kernel
theorem dX6_append_44 : decode cX6_append 44 = .ok (.invokevirtual 80, 3) := by decide +kernel
theorem dX6_append_47 : decode cX6_append 47 = .ok (.aload_n 0, 1) := by decide +kernel
theorem dX6_append_48 : decode cX6_append 48 = .ok (.getfield 77, 3) := by decide +kernel
theorem dX6_append_51 : decode cX6_append 51 = .ok (.ireturn, 1) := by decide +kernel
theorem dX6_beside_0 : decode cX6_beside 0 = .ok (.iload_n 1, 1) := by decide +kernel
theorem dX6_beside_1 : decode cX6_beside 1 = .ok (.iload_n 2, 1) := by decide +kernel
theorem dX6_beside_2 : decode cX6_beside 2 = .ok (.iadd, 1) := by decide +kernel
theorem dX6_beside_3 : decode cX6_beside 3 = .ok (.istore_n 3, 1) := by decide +kernel
theorem dX6_beside_4 : decode cX6_beside 4 = .ok (.iload_n 3, 1) := by decide +kernel
theorem dX6_beside_5 : decode cX6_beside 5 = .ok (.ifCond .lt 26, 3) := by decide +kernel
theorem dX6_beside_8 : decode cX6_beside 8 = .ok (.iload_n 3, 1) := by decide +kernel
theorem dX6_beside_9 : decode cX6_beside 9 = .ok (.aload_n 0, 1) := by decide +kernel
theorem dX6_beside_10 : decode cX6_beside 10 = .ok (.getfield 185, 3) := by decide +kernel
theorem dX6_beside_13 : decode cX6_beside 13 = .ok (.if_icmp .ge 18, 3) := by decide +kernel
theorem dX6_beside_16 : decode cX6_beside 16 = .ok (.aload_n 0, 1) := by decide +kernel
theorem dX6_beside_17 : decode cX6_beside 17 = .ok (.iload_n 3, 1) := by decide +kernel
theorem dX6_beside_18 : decode cX6_beside 18 = .ok (.invokevirtual 202, 3) := by decide +kernel
theorem dX6_beside_21 : decode cX6_beside 21 = .ok (.ifCond .ne 10, 3) := by decide +kernel
theorem dX6_beside_31 : decode cX6_beside 31 = .ok (.aload_n 0, 1) := by decide +kernel
theorem dX6_beside_32 : decode cX6_beside 32 = .ok (.iload_n 3, 1) := by decide +kernel
theorem dX6_beside_33 : decode cX6_beside 33 = .ok (.invokevirtual 205, 3) := by decide +kernel
theorem dX6_beside_36 : decode cX6_beside 36 = .ok (.ifCond .eq 7, 3) := by decide +kernel
theorem dX6_beside_39 : decode cX6_beside 39 = .ok (.iload_n 3, 1) := by decide +kernel
theorem dX6_beside_40 : decode cX6_beside 40 = .ok (.goto 4, 3) := by decide +kernel
theorem dX6_beside_43 : decode cX6_beside 43 = .ok (.iconst (-1), 1) := by decide +kernel
theorem dX6_beside_44 : decode cX6_beside 44 = .ok (.ireturn, 1) := by decide +kernel
theorem dX6_bestScheme_0 : decode cX6_bestScheme 0 = .ok (.aload_n 0, 1) := by decide +kernel
theorem dX6_bestScheme_1 : decode cX6_bestScheme 1 = .ok (.iconst 0, 1) := by decide +kernel
theorem dX6_bestScheme_2 : decode cX6_bestScheme 2 = .ok (.putfield 64, 3) := by decide +kernel
theorem dX6_bestScheme_5 : decode cX6_bestScheme 5 = .ok (.iconst 0, 1) := by decide +kernel
theorem dX6_bestScheme_6 : decode cX6_bestScheme 6 = .ok (.istore_n 1, 1) := by decide +kernel
theorem dX6_bestScheme_7 : decode cX6_bestScheme 7 = .ok (.aload_n 0, 1) := by decide +kernel
theorem dX6_bestScheme_8 : decode cX6_bestScheme 8 = .ok (.iconst 0, 1) := by decide +kernel
theorem dX6_bestScheme_9 : decode cX6_bestScheme 9 = .ok (.iconst 0, 1) := by decide +kernel
theorem dX6_bestScheme_10 : decode cX6_bestScheme 10 = .ok (.invokevirtual 333, 3) := by decide +kernel
theorem dX6_bestScheme_13 : decode cX6_bestScheme 13 = .ok (.istore_n 2, 1) := by decide +kernel
theorem dX6_bestScheme_14 : decode cX6_bestScheme 14 = .ok (.iconst 1, 1) := by decide +kernel
theorem dX6_bestScheme_15 : decode cX6_bestScheme 15 = .ok (.istore_n 3, 1) := by decide +kernel
theorem dX6_bestScheme_16 : decode cX6_bestScheme 16 = .ok (.iload_n 3, 1) := by decide +kernel
theorem dX6_bestScheme_17 : decode cX6_bestScheme 17 = .ok (.bipush 9, 2) := by decide +kernel
theorem dX6_bestScheme_19 : decode cX6_bestScheme 19 = .ok (.if_icmp .ge 32, 3) := by decide +kernel
theorem dX6_bestScheme_22 : decode cX6_bestScheme 22 = .ok (.aload_n 0, 1) := by decide +kernel
theorem dX6_bestScheme_23 : decode cX6_bestScheme 23 = .ok (.iload_n 3, 1) := by decide +kernel
theorem dX6_bestScheme_24 : decode cX6_bestScheme 24 = .ok (.iconst 3, 1) := by decide +kernel
theorem dX6_bestScheme_25 : decode cX6_bestScheme 25 = .ok (.idiv, 1) := by decide +kernel
theorem dX6_bestScheme_26 : decode cX6_bestScheme 26 = .ok (.iload_n 3, 1) := by decide +kernel
theorem dX6_bestScheme_27 : decode cX6_bestScheme 27 = .ok (.iconst 3, 1) := by decide +kernel
theorem dX6_bestScheme_28 : decode cX6_bestScheme 28 = .ok (.irem, 1) := by decide +kernel
theorem dX6_bestScheme_29 : decode cX6_bestScheme 29 = .ok (.invokevirtual 333, 3) := by decide +kernel
theorem dX6_bestScheme_32 : decode cX6_bestScheme 32 = .ok (.istore 4, 2) := by decide +kernel
theorem dX6_bestScheme_34 : decode cX6_bestScheme 34 = .ok (.iload 4, 2) := by decide +kernel
theorem dX6_bestScheme_36 : decode cX6_bestScheme 36 = .ok (.iload_n 2, 1) := by decide +kernel
theorem dX6_bestScheme_37 : decode cX6_bestScheme 37 = .ok (.if_icmp .ge 8, 3) := by decide +kernel
theorem dX6_bestScheme_45 : decode cX6_bestScheme 45 = .ok (.iinc 3 1, 3) := by decide +kernel
theorem dX6_bestScheme_48 : decode cX6_bestScheme 48 = .ok (.goto (-32), 3) := by decide +kernel
theorem dX6_bestScheme_51 : decode cX6_bestScheme 51 = .ok (.iload_n 1, 1) := by decide +kernel
theorem dX6_bestScheme_52 : decode cX6_bestScheme 52 = .ok (.ireturn, 1) := by decide +kernel
theorem dX6_bestThreshold_0 : decode cX6_bestThreshold 0 = .ok (.aload_n 0, 1) := by decide +kernel
theorem dX6_bestThreshold_1 : decode cX6_bestThreshold 1 = .ok (.iload_n 1, 1) := by decide +kernel
theorem dX6_bestThreshold_2 : decode cX6_bestThreshold 2 = .ok (.i2l, 1) := by decide +kernel
theorem dX6_bestThreshold_3 : decode cX6_bestThreshold 3 = .ok (.lconst 0, 1) := by decide +kernel
theorem dX6_bestThreshold_4 : decode cX6_bestThreshold 4 = .ok (.ldc2_w 314, 3) := by decide +kernel
theorem dX6_bestThreshold_7 : decode cX6_bestThreshold 7 = .ok (.invokestatic 84, 3) := by decide +kernel
theorem dX6_bestThreshold_10 : decode cX6_bestThreshold 10 = .ok (.ifCond .eq 7, 3) := by decide +kernel
theorem dX6_bestThreshold_13 : decode cX6_bestThreshold 13 = .ok (.iconst 0, 1) := by decide +kernel
theorem dX6_bestThreshold_14 : decode cX6_bestThreshold 14 = .ok (.goto 4, 3) := by decide +kernel
theorem dX6_bestThreshold_17 : decode cX6_bestThreshold 17 = .ok (.iconst 1, 1) := by decide +kernel
theorem dX6_bestThreshold_18 : decode cX6_bestThreshold 18 = .ok (.putfield 64, 3) := by decide +kernel
theorem dX6_bestThreshold_21 : decode cX6_bestThreshold 21 = .ok (.aload_n 0, 1) := by decide +kernel
theorem dX6_bestThreshold_22 : decode cX6_bestThreshold 22 = .ok (.getfield 64, 3) := by decide +kernel
theorem dX6_bestThreshold_25 : decode cX6_bestThreshold 25 = .ok (.ifCond .le 5, 3) := by decide +kernel
theorem dX6_bestThreshold_28 : decode cX6_bestThreshold 28 = .ok (.iconst 0, 1) := by decide +kernel
theorem dX6_bestThreshold_29 : decode cX6_bestThreshold 29 = .ok (.ireturn, 1) := by decide +kernel
theorem dX6_bestThreshold_30 : decode cX6_bestThreshold 30 = .ok (.sipush 1000, 3) := by decide +kernel
theorem dX6_bestThreshold_33 : decode cX6_bestThreshold 33 = .ok (.istore_n 2, 1) := by decide +kernel
theorem dX6_bestThreshold_34 : decode cX6_bestThreshold 34 = .ok (.iload_n 2, 1) := by decide +kernel
theorem dX6_bestThreshold_35 : decode cX6_bestThreshold 35 = .ok (.ifCond .lt 21, 3) := by decide +kernel
theorem dX6_bestThreshold_38 : decode cX6_bestThreshold 38 = .ok (.aload_n 0, 1) := by decide +kernel
theorem dX6_bestThreshold_39 : decode cX6_bestThreshold 39 = .ok (.iload_n 2, 1) := by decide +kernel
theorem dX6_bestThreshold_40 : decode cX6_bestThreshold 40 = .ok (.iconst 0, 1) := by decide +kernel
theorem dX6_bestThreshold_41 : decode cX6_bestThreshold 41 = .ok (.invokevirtual 329, 3) := by decide +kernel
theorem dX6_bestThreshold_44 : decode cX6_bestThreshold 44 = .ok (.iload_n 1, 1) := by decide +kernel
theorem dX6_bestThreshold_45 : decode cX6_bestThreshold 45 = .ok (.i2l, 1) := by decide +kernel
theorem dX6_bestThreshold_46 : decode cX6_bestThreshold 46 = .ok (.lcmp, 1) := by decide +kernel
theorem dX6_bestThreshold_47 : decode cX6_bestThreshold 47 = .ok (.ifCond .le 9, 3) := by decide +kernel
theorem dX6_bestThreshold_56 : decode cX6_bestThreshold 56 = .ok (.iload_n 2, 1) := by decide +kernel
theorem dX6_bestThreshold_57 : decode cX6_bestThreshold 57 = .ok (.ifCond .ge 11, 3) := by decide +kernel
theorem dX6_bestThreshold_68 : decode cX6_bestThreshold 68 = .ok (.iload_n 2, 1) := by decide +kernel
theorem dX6_bestThreshold_69 : decode cX6_bestThreshold 69 = .ok (.ireturn, 1) := by decide +kernel
theorem dX6_bits_0 : decode cX6_bits 0 = .ok (.aload_n 0, 1) := by decide +kernel
theorem dX6_bits_1 : decode cX6_bits 1 = .ok (.iconst 0, 1) := by decide +kernel
theorem dX6_bits_2 : decode cX6_bits 2 = .ok (.putfield 64, 3) := by decide +kernel
theorem dX6_bits_5 : decode cX6_bits 5 = .ok (.aload_n 0, 1) := by decide +kernel
theorem dX6_bits_6 : decode cX6_bits 6 = .ok (.invokevirtual 248, 3) := by decide +kernel
theorem dX6_bits_9 : decode cX6_bits 9 = .ok (.ireturn, 1) := by decide +kernel
theorem dX6_bitsBy_0 : decode cX6_bitsBy 0 = .ok (.aload_n 0, 1) := by decide +kernel
theorem dX6_bitsBy_1 : decode cX6_bitsBy 1 = .ok (.iload_n 1, 1) := by decide +kernel
theorem dX6_bitsBy_2 : decode cX6_bitsBy 2 = .ok (.i2l, 1) := by decide +kernel
theorem dX6_bitsBy_3 : decode cX6_bitsBy 3 = .ok (.lconst 0, 1) := by decide +kernel
theorem dX6_bitsBy_4 : decode cX6_bitsBy 4 = .ok (.ldc2_w 246, 3) := by decide +kernel
theorem dX6_bitsBy_7 : decode cX6_bitsBy 7 = .ok (.invokestatic 84, 3) := by decide +kernel
theorem dX6_bitsBy_10 : decode cX6_bitsBy 10 = .ok (.ifCond .eq 19, 3) := by decide +kernel
theorem dX6_bitsBy_13 : decode cX6_bitsBy 13 = .ok (.iload_n 2, 1) := by decide +kernel
theorem dX6_bitsBy_14 : decode cX6_bitsBy 14 = .ok (.i2l, 1) := by decide +kernel
theorem dX6_bitsBy_15 : decode cX6_bitsBy 15 = .ok (.lconst 0, 1) := by decide +kernel
theorem dX6_bitsBy_16 : decode cX6_bitsBy 16 = .ok (.ldc2_w 246, 3) := by decide +kernel
theorem dX6_bitsBy_19 : decode cX6_bitsBy 19 = .ok (.invokestatic 84, 3) := by decide +kernel
theorem dX6_bitsBy_22 : decode cX6_bitsBy 22 = .ok (.ifCond .eq 7, 3) := by decide +kernel
theorem dX6_bitsBy_25 : decode cX6_bitsBy 25 = .ok (.iconst 0, 1) := by decide +kernel
theorem dX6_bitsBy_26 : decode cX6_bitsBy 26 = .ok (.goto 4, 3) := by decide +kernel
theorem dX6_bitsBy_29 : decode cX6_bitsBy 29 = .ok (.iconst 1, 1) := by decide +kernel
theorem dX6_bitsBy_30 : decode cX6_bitsBy 30 = .ok (.putfield 64, 3) := by decide +kernel
theorem dX6_bitsBy_33 : decode cX6_bitsBy 33 = .ok (.aload_n 0, 1) := by decide +kernel
theorem dX6_bitsBy_34 : decode cX6_bitsBy 34 = .ok (.getfield 64, 3) := by decide +kernel
theorem dX6_bitsBy_37 : decode cX6_bitsBy 37 = .ok (.ifCond .le 7, 3) := by decide +kernel
theorem dX6_bitsBy_40 : decode cX6_bitsBy 40 = .ok (.iconst 0, 1) := by decide +kernel
theorem dX6_bitsBy_41 : decode cX6_bitsBy 41 = .ok (.goto 9, 3) := by decide +kernel
theorem dX6_bitsBy_44 : decode cX6_bitsBy 44 = .ok (.aload_n 0, 1) := by decide +kernel
theorem dX6_bitsBy_45 : decode cX6_bitsBy 45 = .ok (.iload_n 1, 1) := by decide +kernel
theorem dX6_bitsBy_46 : decode cX6_bitsBy 46 = .ok (.iload_n 2, 1) := by decide +kernel
theorem dX6_bitsBy_47 : decode cX6_bitsBy 47 = .ok (.invokevirtual 333, 3) := by decide +kernel
theorem dX6_bitsBy_50 : decode cX6_bitsBy 50 = .ok (.ireturn, 1) := by decide +kernel
theorem dX6_bitsNow_0 : decode cX6_bitsNow 0 = .ok (.aload_n 0, 1) := by decide +kernel
theorem dX6_bitsNow_1 : decode cX6_bitsNow 1 = .ok (.invokevirtual 199, 3) := by decide +kernel
theorem dX6_bitsNow_4 : decode cX6_bitsNow 4 = .ok (.istore_n 1, 1) := by decide +kernel
theorem dX6_bitsNow_5 : decode cX6_bitsNow 5 = .ok (.iconst 0, 1) := by decide +kernel
theorem dX6_bitsNow_6 : decode cX6_bitsNow 6 = .ok (.istore_n 2, 1) := by decide +kernel
theorem dX6_bitsNow_7 : decode cX6_bitsNow 7 = .ok (.iload_n 2, 1) := by decide +kernel
theorem dX6_bitsNow_8 : decode cX6_bitsNow 8 = .ok (.aload_n 0, 1) := by decide +kernel
theorem dX6_bitsNow_9 : decode cX6_bitsNow 9 = .ok (.invokevirtual 199, 3) := by decide +kernel
theorem dX6_bitsNow_12 : decode cX6_bitsNow 12 = .ok (.if_icmp .ge 37, 3) := by decide +kernel
theorem dX6_bitsNow_49 : decode cX6_bitsNow 49 = .ok (.iload_n 1, 1) := by decide +kernel
theorem dX6_bitsNow_50 : decode cX6_bitsNow 50 = .ok (.ireturn, 1) := by decide +kernel
theorem dX6_bitsOf_0 : decode cX6_bitsOf 0 = .ok (.aload_n 0, 1) := by decide +kernel
theorem dX6_bitsOf_1 : decode cX6_bitsOf 1 = .ok (.invokevirtual 323, 3) := by decide +kernel
theorem dX6_bitsOf_4 : decode cX6_bitsOf 4 = .ok (.aload_n 0, 1) := by decide +kernel
theorem dX6_bitsOf_5 : decode cX6_bitsOf 5 = .ok (.getfield 7, 3) := by decide +kernel
theorem dX6_bitsOf_8 : decode cX6_bitsOf 8 = .ok (.iconst 0, 1) := by decide +kernel
theorem dX6_bitsOf_9 : decode cX6_bitsOf 9 = .ok (.iload_n 1, 1) := by decide +kernel
theorem dX6_bitsOf_10 : decode cX6_bitsOf 10 = .ok (.i2l, 1) := by decide +kernel
theorem dX6_bitsOf_11 : decode cX6_bitsOf 11 = .ok (.lastore, 1) := by decide +kernel
theorem dX6_bitsOf_12 : decode cX6_bitsOf 12 = .ok (.aload_n 0, 1) := by decide +kernel
theorem dX6_bitsOf_13 : decode cX6_bitsOf 13 = .ok (.getfield 7, 3) := by decide +kernel
theorem dX6_bitsOf_16 : decode cX6_bitsOf 16 = .ok (.iconst 1, 1) := by decide +kernel
theorem dX6_bitsOf_17 : decode cX6_bitsOf 17 = .ok (.iload_n 2, 1) := by decide +kernel
theorem dX6_bitsOf_18 : decode cX6_bitsOf 18 = .ok (.i2l, 1) := by decide +kernel
theorem dX6_bitsOf_19 : decode cX6_bitsOf 19 = .ok (.lastore, 1) := by decide +kernel
theorem dX6_bitsOf_20 : decode cX6_bitsOf 20 = .ok (.aload_n 0, 1) := by decide +kernel
theorem dX6_bitsOf_21 : decode cX6_bitsOf 21 = .ok (.invokevirtual 191, 3) := by decide +kernel
theorem dX6_bitsOf_24 : decode cX6_bitsOf 24 = .ok (.aload_n 0, 1) := by decide +kernel
theorem dX6_bitsOf_25 : decode cX6_bitsOf 25 = .ok (.bipush 46, 2) := by decide +kernel
theorem dX6_bitsOf_27 : decode cX6_bitsOf 27 = .ok (.invokevirtual 306, 3) := by decide +kernel
theorem dX6_bitsOf_30 : decode cX6_bitsOf 30 = .ok (.istore_n 3, 1) := by decide +kernel
theorem dX6_bitsOf_31 : decode cX6_bitsOf 31 = .ok (.aload_n 0, 1) := by decide +kernel
theorem dX6_bitsOf_32 : decode cX6_bitsOf 32 = .ok (.invokevirtual 248, 3) := by decide +kernel
theorem dX6_bitsOf_35 : decode cX6_bitsOf 35 = .ok (.istore_n 3, 1) := by decide +kernel
theorem dX6_bitsOf_36 : decode cX6_bitsOf 36 = .ok (.aload_n 0, 1) := by decide +kernel
theorem dX6_bitsOf_37 : decode cX6_bitsOf 37 = .ok (.invokevirtual 320, 3) := by decide +kernel
theorem dX6_bitsOf_40 : decode cX6_bitsOf 40 = .ok (.iload_n 3, 1) := by decide +kernel
theorem dX6_bitsOf_41 : decode cX6_bitsOf 41 = .ok (.ireturn, 1) := by decide +kernel
theorem dX6_common_0 : decode cX6_common 0 = .ok (.lload_n 0, 1) := by decide +kernel
theorem dX6_common_1 : decode cX6_common 1 = .ok (.lstore 4, 2) := by decide +kernel
theorem dX6_common_3 : decode cX6_common 3 = .ok (.lload_n 2, 1) := by decide +kernel
theorem dX6_common_4 : decode cX6_common 4 = .ok (.lstore 6, 2) := by decide +kernel
theorem dX6_common_6 : decode cX6_common 6 = .ok (.lload 6, 2) := by decide +kernel
theorem dX6_common_8 : decode cX6_common 8 = .ok (.lconst 0, 1) := by decide +kernel
theorem dX6_common_9 : decode cX6_common 9 = .ok (.lcmp, 1) := by decide +kernel
theorem dX6_common_10 : decode cX6_common 10 = .ok (.ifCond .eq 21, 3) := by decide +kernel
theorem dX6_common_13 : decode cX6_common 13 = .ok (.lload 4, 2) := by decide +kernel
theorem dX6_common_15 : decode cX6_common 15 = .ok (.lload 6, 2) := by decide +kernel
theorem dX6_common_17 : decode cX6_common 17 = .ok (.lrem, 1) := by decide +kernel
theorem dX6_common_18 : decode cX6_common 18 = .ok (.lstore 8, 2) := by decide +kernel
theorem dX6_common_20 : decode cX6_common 20 = .ok (.lload 6, 2) := by decide +kernel
theorem dX6_common_22 : decode cX6_common 22 = .ok (.lstore 4, 2) := by decide +kernel
theorem dX6_common_24 : decode cX6_common 24 = .ok (.lload 8, 2) := by decide +kernel
theorem dX6_common_26 : decode cX6_common 26 = .ok (.lstore 6, 2) := by decide +kernel
theorem dX6_common_28 : decode cX6_common 28 = .ok (.goto (-22), 3) := by decide +kernel
theorem dX6_common_31 : decode cX6_common 31 = .ok (.lload 4, 2) := by decide +kernel
theorem dX6_common_33 : decode cX6_common 33 = .ok (.lreturn, 1) := by decide +kernel
theorem dX6_count_0 : decode cX6_count 0 = .ok (.aload_n 0, 1) := by decide +kernel
theorem dX6_count_1 : decode cX6_count 1 = .ok (.iload_n 1, 1) := by decide +kernel
theorem dX6_count_2 : decode cX6_count 2 = .ok (.i2l, 1) := by decide +kernel
theorem dX6_count_3 : decode cX6_count 3 = .ok (.lconst 0, 1) := by decide +kernel
theorem dX6_count_4 : decode cX6_count 4 = .ok (.ldc2_w 212, 3) := by decide +kernel
theorem dX6_count_7 : decode cX6_count 7 = .ok (.invokestatic 84, 3) := by decide +kernel
theorem dX6_count_10 : decode cX6_count 10 = .ok (.ifCond .eq 7, 3) := by decide +kernel
theorem dX6_count_13 : decode cX6_count 13 = .ok (.iconst 0, 1) := by decide +kernel
theorem dX6_count_14 : decode cX6_count 14 = .ok (.goto 4, 3) := by decide +kernel
theorem dX6_count_17 : decode cX6_count 17 = .ok (.iconst 1, 1) := by decide +kernel
theorem dX6_count_18 : decode cX6_count 18 = .ok (.putfield 64, 3) := by decide +kernel
theorem dX6_count_21 : decode cX6_count 21 = .ok (.aload_n 0, 1) := by decide +kernel
theorem dX6_count_22 : decode cX6_count 22 = .ok (.getfield 64, 3) := by decide +kernel
theorem dX6_count_25 : decode cX6_count 25 = .ok (.ifCond .le 5, 3) := by decide +kernel
theorem dX6_count_28 : decode cX6_count 28 = .ok (.iconst 0, 1) := by decide +kernel
theorem dX6_count_29 : decode cX6_count 29 = .ok (.ireturn, 1) := by decide +kernel
theorem dX6_count_30 : decode cX6_count 30 = .ok (.iload_n 1, 1) := by decide +kernel
theorem dX6_count_31 : decode cX6_count 31 = .ok (.tableswitch 94 0 7 #[45, 50, 55, 60, 65, 73, 81, 89], 45) := by decide +kernel
theorem dX6_count_76 : decode cX6_count 76 = .ok (.aload_n 0, 1) := by decide +kernel
theorem dX6_count_77 : decode cX6_count 77 = .ok (.getfield 185, 3) := by decide +kernel
theorem dX6_count_80 : decode cX6_count 80 = .ok (.ireturn, 1) := by decide +kernel
theorem dX6_count_81 : decode cX6_count 81 = .ok (.aload_n 0, 1) := by decide +kernel
theorem dX6_count_82 : decode cX6_count 82 = .ok (.invokevirtual 214, 3) := by decide +kernel
theorem dX6_count_85 : decode cX6_count 85 = .ok (.ireturn, 1) := by decide +kernel
theorem dX6_count_86 : decode cX6_count 86 = .ok (.aload_n 0, 1) := by decide +kernel
theorem dX6_count_87 : decode cX6_count 87 = .ok (.invokevirtual 199, 3) := by decide +kernel
theorem dX6_count_90 : decode cX6_count 90 = .ok (.ireturn, 1) := by decide +kernel
theorem dX6_count_91 : decode cX6_count 91 = .ok (.aload_n 0, 1) := by decide +kernel
theorem dX6_count_92 : decode cX6_count 92 = .ok (.invokevirtual 217, 3) := by decide +kernel
theorem dX6_count_95 : decode cX6_count 95 = .ok (.ireturn, 1) := by decide +kernel
theorem dX6_count_96 : decode cX6_count 96 = .ok (.aload_n 0, 1) := by decide +kernel
theorem dX6_count_97 : decode cX6_count 97 = .ok (.getfield 7, 3) := by decide +kernel
theorem dX6_count_100 : decode cX6_count 100 = .ok (.iconst 0, 1) := by decide +kernel
theorem dX6_count_101 : decode cX6_count 101 = .ok (.laload, 1) := by decide +kernel
theorem dX6_count_102 : decode cX6_count 102 = .ok (.l2i, 1) := by decide +kernel
theorem dX6_count_103 : decode cX6_count 103 = .ok (.ireturn, 1) := by decide +kernel
theorem dX6_count_104 : decode cX6_count 104 = .ok (.aload_n 0, 1) := by decide +kernel
theorem dX6_count_105 : decode cX6_count 105 = .ok (.getfield 7, 3) := by decide +kernel
theorem dX6_count_108 : decode cX6_count 108 = .ok (.iconst 1, 1) := by decide +kernel
theorem dX6_count_109 : decode cX6_count 109 = .ok (.laload, 1) := by decide +kernel
theorem dX6_count_110 : decode cX6_count 110 = .ok (.l2i, 1) := by decide +kernel
theorem dX6_count_111 : decode cX6_count 111 = .ok (.ireturn, 1) := by decide +kernel
theorem dX6_count_112 : decode cX6_count 112 = .ok (.aload_n 0, 1) := by decide +kernel
theorem dX6_count_113 : decode cX6_count 113 = .ok (.getfield 7, 3) := by decide +kernel
theorem dX6_count_116 : decode cX6_count 116 = .ok (.iconst 2, 1) := by decide +kernel
theorem dX6_count_117 : decode cX6_count 117 = .ok (.laload, 1) := by decide +kernel
theorem dX6_count_118 : decode cX6_count 118 = .ok (.l2i, 1) := by decide +kernel
theorem dX6_count_119 : decode cX6_count 119 = .ok (.ireturn, 1) := by decide +kernel
theorem dX6_count_120 : decode cX6_count 120 = .ok (.aload_n 0, 1) := by decide +kernel
theorem dX6_count_121 : decode cX6_count 121 = .ok (.getfield 188, 3) := by decide +kernel
theorem dX6_count_124 : decode cX6_count 124 = .ok (.ireturn, 1) := by decide +kernel
theorem dX6_count_125 : decode cX6_count 125 = .ok (.aload_n 0, 1) := by decide +kernel
theorem dX6_count_126 : decode cX6_count 126 = .ok (.invokevirtual 220, 3) := by decide +kernel
theorem dX6_count_129 : decode cX6_count 129 = .ok (.l2i, 1) := by decide +kernel
theorem dX6_count_130 : decode cX6_count 130 = .ok (.ireturn, 1) := by decide +kernel
theorem dX6_cuts_0 : decode cX6_cuts 0 = .ok (.iconst 0, 1) := by decide +kernel
theorem dX6_cuts_1 : decode cX6_cuts 1 = .ok (.istore_n 3, 1) := by decide +kernel
theorem dX6_cuts_2 : decode cX6_cuts 2 = .ok (.iload_n 3, 1) := by decide +kernel
theorem dX6_cuts_3 : decode cX6_cuts 3 = .ok (.aload_n 0, 1) := by decide +kernel
theorem dX6_cuts_4 : decode cX6_cuts 4 = .ok (.invokevirtual 199, 3) := by decide +kernel
theorem dX6_cuts_7 : decode cX6_cuts 7 = .ok (.if_icmp .ge 70, 3) := by decide +kernel
theorem dX6_cuts_77 : decode cX6_cuts 77 = .ok (.return_, 1) := by decide +kernel
theorem dX6_drift_0 : decode cX6_drift 0 = .ok (.aload_n 0, 1) := by decide +kernel
theorem dX6_drift_1 : decode cX6_drift 1 = .ok (.iconst 0, 1) := by decide +kernel
theorem dX6_drift_2 : decode cX6_drift 2 = .ok (.putfield 64, 3) := by decide +kernel
theorem dX6_drift_5 : decode cX6_drift 5 = .ok (.aload_n 0, 1) := by decide +kernel
theorem dX6_drift_6 : decode cX6_drift 6 = .ok (.getfield 7, 3) := by decide +kernel
theorem dX6_drift_9 : decode cX6_drift 9 = .ok (.iconst 3, 1) := by decide +kernel
theorem dX6_drift_10 : decode cX6_drift 10 = .ok (.laload, 1) := by decide +kernel
theorem dX6_drift_11 : decode cX6_drift 11 = .ok (.lreturn, 1) := by decide +kernel
theorem dX6_energy_0 : decode cX6_energy 0 = .ok (.aload_n 0, 1) := by decide +kernel
theorem dX6_energy_1 : decode cX6_energy 1 = .ok (.iconst 0, 1) := by decide +kernel
theorem dX6_energy_2 : decode cX6_energy 2 = .ok (.putfield 64, 3) := by decide +kernel
theorem dX6_energy_5 : decode cX6_energy 5 = .ok (.lconst 0, 1) := by decide +kernel
theorem dX6_energy_6 : decode cX6_energy 6 = .ok (.lstore_n 1, 1) := by decide +kernel
theorem dX6_energy_7 : decode cX6_energy 7 = .ok (.iconst 0, 1) := by decide +kernel
theorem dX6_energy_8 : decode cX6_energy 8 = .ok (.istore_n 3, 1) := by decide +kernel
theorem dX6_energy_9 : decode cX6_energy 9 = .ok (.iload_n 3, 1) := by decide +kernel
theorem dX6_energy_10 : decode cX6_energy 10 = .ok (.aload_n 0, 1) := by decide +kernel
theorem dX6_energy_11 : decode cX6_energy 11 = .ok (.invokevirtual 199, 3) := by decide +kernel
theorem dX6_energy_14 : decode cX6_energy 14 = .ok (.if_icmp .ge 32, 3) := by decide +kernel
theorem dX6_energy_46 : decode cX6_energy 46 = .ok (.lload_n 1, 1) := by decide +kernel
theorem dX6_energy_47 : decode cX6_energy 47 = .ok (.lreturn, 1) := by decide +kernel
theorem dX6_error_0 : decode cX6_error 0 = .ok (.aload_n 0, 1) := by decide +kernel
theorem dX6_error_1 : decode cX6_error 1 = .ok (.iload_n 1, 1) := by decide +kernel
theorem dX6_error_2 : decode cX6_error 2 = .ok (.i2l, 1) := by decide +kernel
theorem dX6_error_3 : decode cX6_error 3 = .ok (.lconst 0, 1) := by decide +kernel
theorem dX6_error_4 : decode cX6_error 4 = .ok (.ldc2_w 246, 3) := by decide +kernel
theorem dX6_error_7 : decode cX6_error 7 = .ok (.invokestatic 84, 3) := by decide +kernel
theorem dX6_error_10 : decode cX6_error 10 = .ok (.ifCond .eq 7, 3) := by decide +kernel
theorem dX6_error_13 : decode cX6_error 13 = .ok (.iconst 0, 1) := by decide +kernel
theorem dX6_error_14 : decode cX6_error 14 = .ok (.goto 4, 3) := by decide +kernel
theorem dX6_error_17 : decode cX6_error 17 = .ok (.iconst 1, 1) := by decide +kernel
theorem dX6_error_18 : decode cX6_error 18 = .ok (.putfield 64, 3) := by decide +kernel
theorem dX6_error_21 : decode cX6_error 21 = .ok (.aload_n 0, 1) := by decide +kernel
theorem dX6_error_22 : decode cX6_error 22 = .ok (.getfield 64, 3) := by decide +kernel
theorem dX6_error_25 : decode cX6_error 25 = .ok (.ifCond .le 5, 3) := by decide +kernel
theorem dX6_error_28 : decode cX6_error 28 = .ok (.lconst 0, 1) := by decide +kernel
theorem dX6_error_29 : decode cX6_error 29 = .ok (.lreturn, 1) := by decide +kernel
theorem dX6_error_30 : decode cX6_error 30 = .ok (.aload_n 0, 1) := by decide +kernel
theorem dX6_error_31 : decode cX6_error 31 = .ok (.invokevirtual 323, 3) := by decide +kernel
theorem dX6_error_34 : decode cX6_error 34 = .ok (.aload_n 0, 1) := by decide +kernel
theorem dX6_error_35 : decode cX6_error 35 = .ok (.iload_n 1, 1) := by decide +kernel
theorem dX6_error_36 : decode cX6_error 36 = .ok (.invokevirtual 326, 3) := by decide +kernel
theorem dX6_error_39 : decode cX6_error 39 = .ok (.lreturn, 1) := by decide +kernel
theorem dX6_errorBy_0 : decode cX6_errorBy 0 = .ok (.aload_n 0, 1) := by decide +kernel
theorem dX6_errorBy_1 : decode cX6_errorBy 1 = .ok (.invokevirtual 323, 3) := by decide +kernel
theorem dX6_errorBy_4 : decode cX6_errorBy 4 = .ok (.aload_n 0, 1) := by decide +kernel
theorem dX6_errorBy_5 : decode cX6_errorBy 5 = .ok (.iload_n 1, 1) := by decide +kernel
theorem dX6_errorBy_6 : decode cX6_errorBy 6 = .ok (.iload_n 2, 1) := by decide +kernel
theorem dX6_errorBy_7 : decode cX6_errorBy 7 = .ok (.invokevirtual 316, 3) := by decide +kernel
theorem dX6_errorBy_10 : decode cX6_errorBy 10 = .ok (.aload_n 0, 1) := by decide +kernel
theorem dX6_errorBy_11 : decode cX6_errorBy 11 = .ok (.iconst 0, 1) := by decide +kernel
theorem dX6_errorBy_12 : decode cX6_errorBy 12 = .ok (.invokevirtual 326, 3) := by decide +kernel
theorem dX6_errorBy_15 : decode cX6_errorBy 15 = .ok (.lreturn, 1) := by decide +kernel
theorem dX6_errorCode_0 : decode cX6_errorCode 0 = .ok (.aload_n 0, 1) := by decide +kernel
theorem dX6_errorCode_1 : decode cX6_errorCode 1 = .ok (.iconst 0, 1) := by decide +kernel
theorem dX6_errorCode_2 : decode cX6_errorCode 2 = .ok (.putfield 64, 3) := by decide +kernel
theorem dX6_errorCode_5 : decode cX6_errorCode 5 = .ok (.aload_n 0, 1) := by decide +kernel
theorem dX6_errorCode_6 : decode cX6_errorCode 6 = .ok (.getfield 95, 3) := by decide +kernel
theorem dX6_errorCode_9 : decode cX6_errorCode 9 = .ok (.ireturn, 1) := by decide +kernel
theorem dX6_errorOf_0 : decode cX6_errorOf 0 = .ok (.aload_n 0, 1) := by decide +kernel
theorem dX6_errorOf_1 : decode cX6_errorOf 1 = .ok (.invokevirtual 199, 3) := by decide +kernel
theorem dX6_errorOf_4 : decode cX6_errorOf 4 = .ok (.ifCond .le 10, 3) := by decide +kernel
theorem dX6_errorOf_14 : decode cX6_errorOf 14 = .ok (.lconst 0, 1) := by decide +kernel
theorem dX6_errorOf_15 : decode cX6_errorOf 15 = .ok (.lstore_n 2, 1) := by decide +kernel
theorem dX6_errorOf_16 : decode cX6_errorOf 16 = .ok (.iconst 0, 1) := by decide +kernel
theorem dX6_errorOf_17 : decode cX6_errorOf 17 = .ok (.istore 4, 2) := by decide +kernel
theorem dX6_errorOf_19 : decode cX6_errorOf 19 = .ok (.iload 4, 2) := by decide +kernel
theorem dX6_errorOf_21 : decode cX6_errorOf 21 = .ok (.aload_n 0, 1) := by decide +kernel
theorem dX6_errorOf_22 : decode cX6_errorOf 22 = .ok (.getfield 185, 3) := by decide +kernel
theorem dX6_errorOf_25 : decode cX6_errorOf 25 = .ok (.if_icmp .ge 79, 3) := by decide +kernel
theorem dX6_errorOf_28 : decode cX6_errorOf 28 = .ok (.aload_n 0, 1) := by decide +kernel
theorem dX6_errorOf_29 : decode cX6_errorOf 29 = .ok (.getfield 7, 3) := by decide +kernel
theorem dX6_errorOf_32 : decode cX6_errorOf 32 = .ok (.iconst 5, 1) := by decide +kernel
theorem dX6_errorOf_33 : decode cX6_errorOf 33 = .ok (.iload 4, 2) := by decide +kernel
theorem dX6_errorOf_35 : decode cX6_errorOf 35 = .ok (.iadd, 1) := by decide +kernel
theorem dX6_errorOf_36 : decode cX6_errorOf 36 = .ok (.laload, 1) := by decide +kernel
theorem dX6_errorOf_37 : decode cX6_errorOf 37 = .ok (.aload_n 0, 1) := by decide +kernel
theorem dX6_errorOf_38 : decode cX6_errorOf 38 = .ok (.getfield 27, 3) := by decide +kernel
theorem dX6_errorOf_41 : decode cX6_errorOf 41 = .ok (.iload 4, 2) := by decide +kernel
theorem dX6_errorOf_43 : decode cX6_errorOf 43 = .ok (.iaload, 1) := by decide +kernel
theorem dX6_errorOf_44 : decode cX6_errorOf 44 = .ok (.i2l, 1) := by decide +kernel
theorem dX6_errorOf_45 : decode cX6_errorOf 45 = .ok (.lsub, 1) := by decide +kernel
theorem dX6_errorOf_46 : decode cX6_errorOf 46 = .ok (.invokestatic 239, 3) := by decide +kernel
theorem dX6_errorOf_49 : decode cX6_errorOf 49 = .ok (.lstore 5, 2) := by decide +kernel
theorem dX6_errorOf_51 : decode cX6_errorOf 51 = .ok (.iload_n 1, 1) := by decide +kernel
theorem dX6_errorOf_52 : decode cX6_errorOf 52 = .ok (.ifCond .ne 19, 3) := by decide +kernel
theorem dX6_errorOf_55 : decode cX6_errorOf 55 = .ok (.lload 5, 2) := by decide +kernel
theorem dX6_errorOf_57 : decode cX6_errorOf 57 = .ok (.lload_n 2, 1) := by decide +kernel
theorem dX6_errorOf_58 : decode cX6_errorOf 58 = .ok (.lcmp, 1) := by decide +kernel
theorem dX6_errorOf_59 : decode cX6_errorOf 59 = .ok (.ifCond .le 8, 3) := by decide +kernel
theorem dX6_errorOf_67 : decode cX6_errorOf 67 = .ok (.lload_n 2, 1) := by decide +kernel
theorem dX6_errorOf_68 : decode cX6_errorOf 68 = .ok (.goto 29, 3) := by decide +kernel
theorem dX6_errorOf_71 : decode cX6_errorOf 71 = .ok (.iload_n 1, 1) := by decide +kernel
theorem dX6_errorOf_72 : decode cX6_errorOf 72 = .ok (.iconst 1, 1) := by decide +kernel
theorem dX6_errorOf_73 : decode cX6_errorOf 73 = .ok (.if_icmp .ne 10, 3) := by decide +kernel
theorem dX6_errorOf_76 : decode cX6_errorOf 76 = .ok (.lload_n 2, 1) := by decide +kernel
theorem dX6_errorOf_77 : decode cX6_errorOf 77 = .ok (.lload 5, 2) := by decide +kernel
theorem dX6_errorOf_79 : decode cX6_errorOf 79 = .ok (.ladd, 1) := by decide +kernel
theorem dX6_errorOf_80 : decode cX6_errorOf 80 = .ok (.goto 17, 3) := by decide +kernel
theorem dX6_errorOf_83 : decode cX6_errorOf 83 = .ok (.lload 5, 2) := by decide +kernel
theorem dX6_errorOf_85 : decode cX6_errorOf 85 = .ok (.lconst 0, 1) := by decide +kernel
theorem dX6_errorOf_86 : decode cX6_errorOf 86 = .ok (.lcmp, 1) := by decide +kernel
theorem dX6_errorOf_87 : decode cX6_errorOf 87 = .ok (.ifCond .le 9, 3) := by decide +kernel
theorem dX6_errorOf_96 : decode cX6_errorOf 96 = .ok (.lload_n 2, 1) := by decide +kernel
theorem dX6_errorOf_97 : decode cX6_errorOf 97 = .ok (.lstore_n 2, 1) := by decide +kernel
theorem dX6_errorOf_98 : decode cX6_errorOf 98 = .ok (.iinc 4 1, 3) := by decide +kernel
theorem dX6_errorOf_101 : decode cX6_errorOf 101 = .ok (.goto (-82), 3) := by decide +kernel
theorem dX6_errorOf_104 : decode cX6_errorOf 104 = .ok (.aload_n 0, 1) := by decide +kernel
theorem dX6_errorOf_105 : decode cX6_errorOf 105 = .ok (.invokevirtual 320, 3) := by decide +kernel
theorem dX6_errorOf_108 : decode cX6_errorOf 108 = .ok (.lload_n 2, 1) := by decide +kernel
theorem dX6_errorOf_109 : decode cX6_errorOf 109 = .ok (.lreturn, 1) := by decide +kernel
theorem dX6_errorPosition_0 : decode cX6_errorPosition 0 = .ok (.aload_n 0, 1) := by decide +kernel
theorem dX6_errorPosition_1 : decode cX6_errorPosition 1 = .ok (.iconst 0, 1) := by decide +kernel
theorem dX6_errorPosition_2 : decode cX6_errorPosition 2 = .ok (.putfield 64, 3) := by decide +kernel
theorem dX6_errorPosition_5 : decode cX6_errorPosition 5 = .ok (.aload_n 0, 1) := by decide +kernel
theorem dX6_errorPosition_6 : decode cX6_errorPosition 6 = .ok (.getfield 37, 3) := by decide +kernel
theorem dX6_errorPosition_9 : decode cX6_errorPosition 9 = .ok (.ireturn, 1) := by decide +kernel
theorem dX6_errorWith_0 : decode cX6_errorWith 0 = .ok (.aload_n 0, 1) := by decide +kernel
theorem dX6_errorWith_1 : decode cX6_errorWith 1 = .ok (.iload_n 1, 1) := by decide +kernel
theorem dX6_errorWith_2 : decode cX6_errorWith 2 = .ok (.i2l, 1) := by decide +kernel
theorem dX6_errorWith_3 : decode cX6_errorWith 3 = .ok (.lconst 0, 1) := by decide +kernel
theorem dX6_errorWith_4 : decode cX6_errorWith 4 = .ok (.ldc2_w 292, 3) := by decide +kernel
theorem dX6_errorWith_7 : decode cX6_errorWith 7 = .ok (.invokestatic 84, 3) := by decide +kernel
theorem dX6_errorWith_10 : decode cX6_errorWith 10 = .ok (.ifCond .eq 7, 3) := by decide +kernel
theorem dX6_errorWith_13 : decode cX6_errorWith 13 = .ok (.iconst 0, 1) := by decide +kernel
theorem dX6_errorWith_14 : decode cX6_errorWith 14 = .ok (.goto 4, 3) := by decide +kernel
theorem dX6_errorWith_17 : decode cX6_errorWith 17 = .ok (.iconst 1, 1) := by decide +kernel
theorem dX6_errorWith_18 : decode cX6_errorWith 18 = .ok (.putfield 64, 3) := by decide +kernel
theorem dX6_errorWith_21 : decode cX6_errorWith 21 = .ok (.aload_n 0, 1) := by decide +kernel
theorem dX6_errorWith_22 : decode cX6_errorWith 22 = .ok (.getfield 64, 3) := by decide +kernel
theorem dX6_errorWith_25 : decode cX6_errorWith 25 = .ok (.ifCond .le 7, 3) := by decide +kernel
theorem dX6_errorWith_28 : decode cX6_errorWith 28 = .ok (.lconst 0, 1) := by decide +kernel
theorem dX6_errorWith_29 : decode cX6_errorWith 29 = .ok (.goto 9, 3) := by decide +kernel
theorem dX6_errorWith_32 : decode cX6_errorWith 32 = .ok (.aload_n 0, 1) := by decide +kernel
theorem dX6_errorWith_33 : decode cX6_errorWith 33 = .ok (.iload_n 1, 1) := by decide +kernel
theorem dX6_errorWith_34 : decode cX6_errorWith 34 = .ok (.iload_n 2, 1) := by decide +kernel
theorem dX6_errorWith_35 : decode cX6_errorWith 35 = .ok (.invokevirtual 329, 3) := by decide +kernel
theorem dX6_errorWith_38 : decode cX6_errorWith 38 = .ok (.lreturn, 1) := by decide +kernel
theorem dX6_fails_0 : decode cX6_fails 0 = .ok (.aload_n 0, 1) := by decide +kernel
theorem dX6_fails_1 : decode cX6_fails 1 = .ok (.iload_n 1, 1) := by decide +kernel
theorem dX6_fails_2 : decode cX6_fails 2 = .ok (.putfield 64, 3) := by decide +kernel
theorem dX6_fails_5 : decode cX6_fails 5 = .ok (.iconst 0, 1) := by decide +kernel
theorem dX6_fails_6 : decode cX6_fails 6 = .ok (.ireturn, 1) := by decide +kernel
theorem dX6_floor_0 : decode cX6_floor 0 = .ok (.lload_n 0, 1) := by decide +kernel
theorem dX6_floor_1 : decode cX6_floor 1 = .ok (.lload_n 2, 1) := by decide +kernel
theorem dX6_floor_2 : decode cX6_floor 2 = .ok (.ldiv, 1) := by decide +kernel
theorem dX6_floor_3 : decode cX6_floor 3 = .ok (.lstore 4, 2) := by decide +kernel
theorem dX6_floor_5 : decode cX6_floor 5 = .ok (.lload_n 0, 1) := by decide +kernel
theorem dX6_floor_6 : decode cX6_floor 6 = .ok (.lload_n 2, 1) := by decide +kernel
theorem dX6_floor_7 : decode cX6_floor 7 = .ok (.lrem, 1) := by decide +kernel
theorem dX6_floor_8 : decode cX6_floor 8 = .ok (.lconst 0, 1) := by decide +kernel
theorem dX6_floor_9 : decode cX6_floor 9 = .ok (.lcmp, 1) := by decide +kernel
theorem dX6_floor_10 : decode cX6_floor 10 = .ok (.ifCond .ge 10, 3) := by decide +kernel
theorem dX6_floor_20 : decode cX6_floor 20 = .ok (.lload 4, 2) := by decide +kernel
theorem dX6_floor_22 : decode cX6_floor 22 = .ok (.lreturn, 1) := by decide +kernel
theorem dX6_forward_0 : decode cX6_forward 0 = .ok (.aload_n 0, 1) := by decide +kernel
theorem dX6_forward_1 : decode cX6_forward 1 = .ok (.iload_n 1, 1) := by decide +kernel
theorem dX6_forward_2 : decode cX6_forward 2 = .ok (.i2l, 1) := by decide +kernel
theorem dX6_forward_3 : decode cX6_forward 3 = .ok (.lconst 1, 1) := by decide +kernel
theorem dX6_forward_4 : decode cX6_forward 4 = .ok (.ldc2_w 304, 3) := by decide +kernel
theorem dX6_forward_7 : decode cX6_forward 7 = .ok (.invokestatic 84, 3) := by decide +kernel
theorem dX6_forward_10 : decode cX6_forward 10 = .ok (.ifCond .eq 7, 3) := by decide +kernel
theorem dX6_forward_13 : decode cX6_forward 13 = .ok (.iconst 0, 1) := by decide +kernel
theorem dX6_forward_14 : decode cX6_forward 14 = .ok (.goto 4, 3) := by decide +kernel
theorem dX6_forward_17 : decode cX6_forward 17 = .ok (.iconst 1, 1) := by decide +kernel
theorem dX6_forward_18 : decode cX6_forward 18 = .ok (.putfield 64, 3) := by decide +kernel
theorem dX6_forward_21 : decode cX6_forward 21 = .ok (.aload_n 0, 1) := by decide +kernel
theorem dX6_forward_22 : decode cX6_forward 22 = .ok (.getfield 64, 3) := by decide +kernel
theorem dX6_forward_25 : decode cX6_forward 25 = .ok (.ifCond .le 5, 3) := by decide +kernel
theorem dX6_forward_28 : decode cX6_forward 28 = .ok (.iconst 0, 1) := by decide +kernel
theorem dX6_forward_29 : decode cX6_forward 29 = .ok (.ireturn, 1) := by decide +kernel
theorem dX6_forward_30 : decode cX6_forward 30 = .ok (.aload_n 0, 1) := by decide +kernel
theorem dX6_forward_31 : decode cX6_forward 31 = .ok (.invokevirtual 283, 3) := by decide +kernel
theorem dX6_forward_34 : decode cX6_forward 34 = .ok (.iconst (-1), 1) := by decide +kernel
theorem dX6_forward_35 : decode cX6_forward 35 = .ok (.if_icmp .ne 14, 3) := by decide +kernel
theorem dX6_forward_38 : decode cX6_forward 38 = .ok (.aload_n 0, 1) := by decide +kernel
theorem dX6_forward_39 : decode cX6_forward 39 = .ok (.iconst 2, 1) := by decide +kernel
theorem dX6_forward_40 : decode cX6_forward 40 = .ok (.iconst 1, 1) := by decide +kernel
theorem dX6_forward_41 : decode cX6_forward 41 = .ok (.iconst 0, 1) := by decide +kernel
theorem dX6_forward_42 : decode cX6_forward 42 = .ok (.iconst (-1), 1) := by decide +kernel
theorem dX6_forward_43 : decode cX6_forward 43 = .ok (.invokevirtual 294, 3) := by decide +kernel
theorem dX6_forward_46 : decode cX6_forward 46 = .ok (.goto 8, 3) := by decide +kernel
theorem dX6_forward_54 : decode cX6_forward 54 = .ok (.ireturn, 1) := by decide +kernel
theorem dX6_four_0 : decode cX6_four 0 = .ok (.bipush 24, 2) := by decide +kernel
theorem dX6_four_2 : decode cX6_four 2 = .ok (.istore_n 2, 1) := by decide +kernel
theorem dX6_four_3 : decode cX6_four 3 = .ok (.iload_n 2, 1) := by decide +kernel
theorem dX6_four_4 : decode cX6_four 4 = .ok (.ifCond .lt 35, 3) := by decide +kernel
theorem dX6_four_7 : decode cX6_four 7 = .ok (.aload_n 0, 1) := by decide +kernel
theorem dX6_four_8 : decode cX6_four 8 = .ok (.getfield 34, 3) := by decide +kernel
theorem dX6_four_11 : decode cX6_four 11 = .ok (.aload_n 0, 1) := by decide +kernel
theorem dX6_four_12 : decode cX6_four 12 = .ok (.getfield 77, 3) := by decide +kernel
theorem dX6_four_15 : decode cX6_four 15 = .ok (.iload_n 1, 1) := by decide +kernel
theorem dX6_four_16 : decode cX6_four 16 = .ok (.iload_n 2, 1) := by decide +kernel
theorem dX6_four_17 : decode cX6_four 17 = .ok (.ishr, 1) := by decide +kernel
theorem dX6_four_18 : decode cX6_four 18 = .ok (.sipush 255, 3) := by decide +kernel
theorem dX6_four_21 : decode cX6_four 21 = .ok (.iand, 1) := by decide +kernel
theorem dX6_four_22 : decode cX6_four 22 = .ok (.iastore, 1) := by decide +kernel
theorem dX6_four_23 : decode cX6_four 23 = .ok (.aload_n 0, 1) := by decide +kernel
theorem dX6_four_24 : decode cX6_four 24 = .ok (.dup, 1) := by decide +kernel
theorem dX6_four_25 : decode cX6_four 25 = .ok (.getfield 77, 3) := by decide +kernel
theorem dX6_four_28 : decode cX6_four 28 = .ok (.iconst 1, 1) := by decide +kernel
theorem dX6_four_29 : decode cX6_four 29 = .ok (.iadd, 1) := by decide +kernel
theorem dX6_four_30 : decode cX6_four 30 = .ok (.putfield 77, 3) := by decide +kernel
theorem dX6_four_33 : decode cX6_four 33 = .ok (.iinc 2 (-8), 3) := by decide +kernel
theorem dX6_four_36 : decode cX6_four 36 = .ok (.goto (-33), 3) := by decide +kernel
theorem dX6_four_39 : decode cX6_four 39 = .ok (.return_, 1) := by decide +kernel
theorem dX6_goesOn_0 : decode cX6_goesOn 0 = .ok (.iconst 0, 1) := by decide +kernel
theorem dX6_goesOn_1 : decode cX6_goesOn 1 = .ok (.istore_n 2, 1) := by decide +kernel
theorem dX6_goesOn_2 : decode cX6_goesOn 2 = .ok (.aload_n 0, 1) := by decide +kernel
theorem dX6_goesOn_3 : decode cX6_goesOn 3 = .ok (.invokevirtual 283, 3) := by decide +kernel
theorem dX6_goesOn_6 : decode cX6_goesOn 6 = .ok (.istore_n 3, 1) := by decide +kernel
theorem dX6_goesOn_7 : decode cX6_goesOn 7 = .ok (.iload_n 2, 1) := by decide +kernel
theorem dX6_goesOn_8 : decode cX6_goesOn 8 = .ok (.iload_n 1, 1) := by decide +kernel
theorem dX6_goesOn_9 : decode cX6_goesOn 9 = .ok (.if_icmp .ge 24, 3) := by decide +kernel
theorem dX6_goesOn_12 : decode cX6_goesOn 12 = .ok (.iload_n 3, 1) := by decide +kernel
theorem dX6_goesOn_13 : decode cX6_goesOn 13 = .ok (.iconst (-1), 1) := by decide +kernel
theorem dX6_goesOn_14 : decode cX6_goesOn 14 = .ok (.if_icmp .eq 19, 3) := by decide +kernel
theorem dX6_goesOn_33 : decode cX6_goesOn 33 = .ok (.iload_n 2, 1) := by decide +kernel
theorem dX6_goesOn_34 : decode cX6_goesOn 34 = .ok (.ireturn, 1) := by decide +kernel
theorem dX6_here_0 : decode cX6_here 0 = .ok (.aload_n 0, 1) := by decide +kernel
theorem dX6_here_1 : decode cX6_here 1 = .ok (.getfield 88, 3) := by decide +kernel
theorem dX6_here_4 : decode cX6_here 4 = .ok (.aload_n 0, 1) := by decide +kernel
theorem dX6_here_5 : decode cX6_here 5 = .ok (.getfield 77, 3) := by decide +kernel
theorem dX6_here_8 : decode cX6_here 8 = .ok (.if_icmp .ge 44, 3) := by decide +kernel
theorem dX6_here_52 : decode cX6_here 52 = .ok (.aload_n 0, 1) := by decide +kernel
theorem dX6_here_53 : decode cX6_here 53 = .ok (.getfield 88, 3) := by decide +kernel
theorem dX6_here_56 : decode cX6_here 56 = .ok (.aload_n 0, 1) := by decide +kernel
theorem dX6_here_57 : decode cX6_here 57 = .ok (.getfield 77, 3) := by decide +kernel
theorem dX6_here_60 : decode cX6_here 60 = .ok (.if_icmp .ge 15, 3) := by decide +kernel
theorem dX6_here_75 : decode cX6_here 75 = .ok (.iconst (-1), 1) := by decide +kernel
theorem dX6_here_76 : decode cX6_here 76 = .ok (.ireturn, 1) := by decide +kernel
theorem dX6_in_0 : decode cX6_in 0 = .ok (.lload_n 0, 1) := by decide +kernel
theorem dX6_in_1 : decode cX6_in 1 = .ok (.lload_n 2, 1) := by decide +kernel
theorem dX6_in_2 : decode cX6_in 2 = .ok (.lcmp, 1) := by decide +kernel
theorem dX6_in_3 : decode cX6_in 3 = .ok (.ifCond .lt 14, 3) := by decide +kernel
theorem dX6_in_6 : decode cX6_in 6 = .ok (.lload_n 0, 1) := by decide +kernel
theorem dX6_in_7 : decode cX6_in 7 = .ok (.lload 4, 2) := by decide +kernel
theorem dX6_in_9 : decode cX6_in 9 = .ok (.lcmp, 1) := by decide +kernel
theorem dX6_in_10 : decode cX6_in 10 = .ok (.ifCond .gt 7, 3) := by decide +kernel
theorem dX6_in_13 : decode cX6_in 13 = .ok (.iconst 1, 1) := by decide +kernel
theorem dX6_in_14 : decode cX6_in 14 = .ok (.goto 4, 3) := by decide +kernel
theorem dX6_in_17 : decode cX6_in 17 = .ok (.iconst 0, 1) := by decide +kernel
theorem dX6_in_18 : decode cX6_in 18 = .ok (.ireturn, 1) := by decide +kernel
theorem dX6_init_0 : decode cX6_init 0 = .ok (.aload_n 0, 1) := by decide +kernel
theorem dX6_init_1 : decode cX6_init 1 = .ok (.invokespecial 1, 3) := by decide +kernel
theorem dX6_init_4 : decode cX6_init 4 = .ok (.aload_n 0, 1) := by decide +kernel
theorem dX6_init_5 : decode cX6_init 5 = .ok (.sipush 609, 3) := by decide +kernel
theorem dX6_init_8 : decode cX6_init 8 = .ok (.newarray .long, 2) := by decide +kernel
theorem dX6_init_10 : decode cX6_init 10 = .ok (.putfield 7, 3) := by decide +kernel
theorem dX6_init_13 : decode cX6_init 13 = .ok (.aload_n 0, 1) := by decide +kernel
theorem dX6_init_14 : decode cX6_init 14 = .ok (.sipush 609, 3) := by decide +kernel
theorem dX6_init_17 : decode cX6_init 17 = .ok (.newarray .long, 2) := by decide +kernel
theorem dX6_init_19 : decode cX6_init 19 = .ok (.putfield 13, 3) := by decide +kernel
theorem dX6_init_22 : decode cX6_init 22 = .ok (.aload_n 0, 1) := by decide +kernel
theorem dX6_init_23 : decode cX6_init 23 = .ok (.sipush 1218, 3) := by decide +kernel
theorem dX6_init_26 : decode cX6_init 26 = .ok (.newarray .long, 2) := by decide +kernel
theorem dX6_init_28 : decode cX6_init 28 = .ok (.putfield 16, 3) := by decide +kernel
theorem dX6_init_31 : decode cX6_init 31 = .ok (.aload_n 0, 1) := by decide +kernel
theorem dX6_init_32 : decode cX6_init 32 = .ok (.iconst 2, 1) := by decide +kernel
theorem dX6_init_33 : decode cX6_init 33 = .ok (.newarray .boolean, 2) := by decide +kernel
theorem dX6_init_35 : decode cX6_init 35 = .ok (.putfield 19, 3) := by decide +kernel
theorem dX6_init_38 : decode cX6_init 38 = .ok (.aload_n 0, 1) := by decide +kernel
theorem dX6_init_39 : decode cX6_init 39 = .ok (.bipush 48, 2) := by decide +kernel
theorem dX6_init_41 : decode cX6_init 41 = .ok (.newarray .int, 2) := by decide +kernel
theorem dX6_init_43 : decode cX6_init 43 = .ok (.putfield 23, 3) := by decide +kernel
theorem dX6_init_46 : decode cX6_init 46 = .ok (.aload_n 0, 1) := by decide +kernel
theorem dX6_init_47 : decode cX6_init 47 = .ok (.bipush 48, 2) := by decide +kernel
theorem dX6_init_49 : decode cX6_init 49 = .ok (.newarray .int, 2) := by decide +kernel
theorem dX6_init_51 : decode cX6_init 51 = .ok (.putfield 27, 3) := by decide +kernel
theorem dX6_init_54 : decode cX6_init 54 = .ok (.aload_n 0, 1) := by decide +kernel
theorem dX6_init_55 : decode cX6_init 55 = .ok (.iconst (-1), 1) := by decide +kernel
theorem dX6_init_56 : decode cX6_init 56 = .ok (.putfield 30, 3) := by decide +kernel
theorem dX6_init_59 : decode cX6_init 59 = .ok (.aload_n 0, 1) := by decide +kernel
theorem dX6_init_60 : decode cX6_init 60 = .ok (.sipush 700, 3) := by decide +kernel
theorem dX6_init_63 : decode cX6_init 63 = .ok (.newarray .int, 2) := by decide +kernel
theorem dX6_init_65 : decode cX6_init 65 = .ok (.putfield 34, 3) := by decide +kernel
theorem dX6_init_68 : decode cX6_init 68 = .ok (.aload_n 0, 1) := by decide +kernel
theorem dX6_init_69 : decode cX6_init 69 = .ok (.iconst (-1), 1) := by decide +kernel
theorem dX6_init_70 : decode cX6_init 70 = .ok (.putfield 37, 3) := by decide +kernel
theorem dX6_init_73 : decode cX6_init 73 = .ok (.aload_n 0, 1) := by decide +kernel
theorem dX6_init_74 : decode cX6_init 74 = .ok (.bipush 48, 2) := by decide +kernel
theorem dX6_init_76 : decode cX6_init 76 = .ok (.newarray .int, 2) := by decide +kernel
theorem dX6_init_78 : decode cX6_init 78 = .ok (.putfield 40, 3) := by decide +kernel
theorem dX6_init_81 : decode cX6_init 81 = .ok (.aload_n 0, 1) := by decide +kernel
theorem dX6_init_82 : decode cX6_init 82 = .ok (.bipush 48, 2) := by decide +kernel
theorem dX6_init_84 : decode cX6_init 84 = .ok (.newarray .int, 2) := by decide +kernel
theorem dX6_init_86 : decode cX6_init 86 = .ok (.putfield 43, 3) := by decide +kernel
theorem dX6_init_89 : decode cX6_init 89 = .ok (.aload_n 0, 1) := by decide +kernel
theorem dX6_init_90 : decode cX6_init 90 = .ok (.iconst 2, 1) := by decide +kernel
theorem dX6_init_91 : decode cX6_init 91 = .ok (.putfield 46, 3) := by decide +kernel
theorem dX6_init_94 : decode cX6_init 94 = .ok (.aload_n 0, 1) := by decide +kernel
theorem dX6_init_95 : decode cX6_init 95 = .ok (.iconst 2, 1) := by decide +kernel
theorem dX6_init_96 : decode cX6_init 96 = .ok (.putfield 49, 3) := by decide +kernel
theorem dX6_init_99 : decode cX6_init 99 = .ok (.aload_n 0, 1) := by decide +kernel
theorem dX6_init_100 : decode cX6_init 100 = .ok (.iconst 0, 1) := by decide +kernel
theorem dX6_init_101 : decode cX6_init 101 = .ok (.putfield 52, 3) := by decide +kernel
theorem dX6_init_104 : decode cX6_init 104 = .ok (.aload_n 0, 1) := by decide +kernel
theorem dX6_init_105 : decode cX6_init 105 = .ok (.iconst 2, 1) := by decide +kernel
theorem dX6_init_106 : decode cX6_init 106 = .ok (.putfield 55, 3) := by decide +kernel
theorem dX6_init_109 : decode cX6_init 109 = .ok (.aload_n 0, 1) := by decide +kernel
theorem dX6_init_110 : decode cX6_init 110 = .ok (.iconst 1, 1) := by decide +kernel
theorem dX6_init_111 : decode cX6_init 111 = .ok (.putfield 58, 3) := by decide +kernel
theorem dX6_init_114 : decode cX6_init 114 = .ok (.aload_n 0, 1) := by decide +kernel
theorem dX6_init_115 : decode cX6_init 115 = .ok (.getfield 40, 3) := by decide +kernel
theorem dX6_init_118 : decode cX6_init 118 = .ok (.iconst 0, 1) := by decide +kernel
theorem dX6_init_119 : decode cX6_init 119 = .ok (.iconst 0, 1) := by decide +kernel
theorem dX6_init_120 : decode cX6_init 120 = .ok (.iastore, 1) := by decide +kernel
theorem dX6_init_121 : decode cX6_init 121 = .ok (.aload_n 0, 1) := by decide +kernel
theorem dX6_init_122 : decode cX6_init 122 = .ok (.getfield 40, 3) := by decide +kernel
theorem dX6_init_125 : decode cX6_init 125 = .ok (.iconst 1, 1) := by decide +kernel
theorem dX6_init_126 : decode cX6_init 126 = .ok (.iconst 1, 1) := by decide +kernel
theorem dX6_init_127 : decode cX6_init 127 = .ok (.iastore, 1) := by decide +kernel
theorem dX6_init_128 : decode cX6_init 128 = .ok (.aload_n 0, 1) := by decide +kernel
theorem dX6_init_129 : decode cX6_init 129 = .ok (.getfield 43, 3) := by decide +kernel
theorem dX6_init_132 : decode cX6_init 132 = .ok (.iconst 0, 1) := by decide +kernel
theorem dX6_init_133 : decode cX6_init 133 = .ok (.iconst 0, 1) := by decide +kernel
theorem dX6_init_134 : decode cX6_init 134 = .ok (.iastore, 1) := by decide +kernel
theorem dX6_init_135 : decode cX6_init 135 = .ok (.aload_n 0, 1) := by decide +kernel
theorem dX6_init_136 : decode cX6_init 136 = .ok (.getfield 43, 3) := by decide +kernel
theorem dX6_init_139 : decode cX6_init 139 = .ok (.iconst 1, 1) := by decide +kernel
theorem dX6_init_140 : decode cX6_init 140 = .ok (.iconst 0, 1) := by decide +kernel
theorem dX6_init_141 : decode cX6_init 141 = .ok (.iastore, 1) := by decide +kernel
theorem dX6_init_142 : decode cX6_init 142 = .ok (.aload_n 0, 1) := by decide +kernel
theorem dX6_init_143 : decode cX6_init 143 = .ok (.invokevirtual 61, 3) := by decide +kernel
theorem dX6_init_146 : decode cX6_init 146 = .ok (.return_, 1) := by decide +kernel
theorem dX6_integral_0 : decode cX6_integral 0 = .ok (.aload_n 0, 1) := by decide +kernel
theorem dX6_integral_1 : decode cX6_integral 1 = .ok (.iconst 0, 1) := by decide +kernel
theorem dX6_integral_2 : decode cX6_integral 2 = .ok (.putfield 64, 3) := by decide +kernel
theorem dX6_integral_5 : decode cX6_integral 5 = .ok (.aload_n 0, 1) := by decide +kernel
theorem dX6_integral_6 : decode cX6_integral 6 = .ok (.invokevirtual 236, 3) := by decide +kernel
theorem dX6_integral_9 : decode cX6_integral 9 = .ok (.lreturn, 1) := by decide +kernel
theorem dX6_inverse_0 : decode cX6_inverse 0 = .ok (.aload_n 0, 1) := by decide +kernel
theorem dX6_inverse_1 : decode cX6_inverse 1 = .ok (.iload_n 1, 1) := by decide +kernel
theorem dX6_inverse_2 : decode cX6_inverse 2 = .ok (.i2l, 1) := by decide +kernel
theorem dX6_inverse_3 : decode cX6_inverse 3 = .ok (.lconst 1, 1) := by decide +kernel
theorem dX6_inverse_4 : decode cX6_inverse 4 = .ok (.ldc2_w 304, 3) := by decide +kernel
theorem dX6_inverse_7 : decode cX6_inverse 7 = .ok (.invokestatic 84, 3) := by decide +kernel
theorem dX6_inverse_10 : decode cX6_inverse 10 = .ok (.ifCond .eq 7, 3) := by decide +kernel
theorem dX6_inverse_13 : decode cX6_inverse 13 = .ok (.iconst 0, 1) := by decide +kernel
theorem dX6_inverse_14 : decode cX6_inverse 14 = .ok (.goto 4, 3) := by decide +kernel
theorem dX6_inverse_17 : decode cX6_inverse 17 = .ok (.iconst 1, 1) := by decide +kernel
theorem dX6_inverse_18 : decode cX6_inverse 18 = .ok (.putfield 64, 3) := by decide +kernel
theorem dX6_inverse_21 : decode cX6_inverse 21 = .ok (.aload_n 0, 1) := by decide +kernel
theorem dX6_inverse_22 : decode cX6_inverse 22 = .ok (.getfield 64, 3) := by decide +kernel
theorem dX6_inverse_25 : decode cX6_inverse 25 = .ok (.ifCond .le 5, 3) := by decide +kernel
theorem dX6_inverse_28 : decode cX6_inverse 28 = .ok (.iconst 0, 1) := by decide +kernel
theorem dX6_inverse_29 : decode cX6_inverse 29 = .ok (.ireturn, 1) := by decide +kernel
theorem dX6_inverse_30 : decode cX6_inverse 30 = .ok (.aload_n 0, 1) := by decide +kernel
theorem dX6_inverse_31 : decode cX6_inverse 31 = .ok (.invokevirtual 199, 3) := by decide +kernel
theorem dX6_inverse_34 : decode cX6_inverse 34 = .ok (.ifCond .ne 12, 3) := by decide +kernel
theorem dX6_inverse_37 : decode cX6_inverse 37 = .ok (.aload_n 0, 1) := by decide +kernel
theorem dX6_inverse_38 : decode cX6_inverse 38 = .ok (.iconst 2, 1) := by decide +kernel
theorem dX6_inverse_39 : decode cX6_inverse 39 = .ok (.iconst 2, 1) := by decide +kernel
theorem dX6_inverse_40 : decode cX6_inverse 40 = .ok (.iconst 0, 1) := by decide +kernel
theorem dX6_inverse_41 : decode cX6_inverse 41 = .ok (.iconst (-1), 1) := by decide +kernel
theorem dX6_inverse_42 : decode cX6_inverse 42 = .ok (.invokevirtual 294, 3) := by decide +kernel
theorem dX6_inverse_45 : decode cX6_inverse 45 = .ok (.ireturn, 1) := by decide +kernel
theorem dX6_isInner_0 : decode cX6_isInner 0 = .ok (.iload_n 1, 1) := by decide +kernel
theorem dX6_isInner_1 : decode cX6_isInner 1 = .ok (.ifCond .le 25, 3) := by decide +kernel
theorem dX6_isInner_4 : decode cX6_isInner 4 = .ok (.iload_n 1, 1) := by decide +kernel
theorem dX6_isInner_5 : decode cX6_isInner 5 = .ok (.aload_n 0, 1) := by decide +kernel
theorem dX6_isInner_6 : decode cX6_isInner 6 = .ok (.getfield 185, 3) := by decide +kernel
theorem dX6_isInner_9 : decode cX6_isInner 9 = .ok (.iconst 1, 1) := by decide +kernel
theorem dX6_isInner_10 : decode cX6_isInner 10 = .ok (.isub, 1) := by decide +kernel
theorem dX6_isInner_11 : decode cX6_isInner 11 = .ok (.if_icmp .ge 15, 3) := by decide +kernel
theorem dX6_isInner_26 : decode cX6_isInner 26 = .ok (.iconst 0, 1) := by decide +kernel
theorem dX6_isInner_27 : decode cX6_isInner 27 = .ok (.ireturn, 1) := by decide +kernel
theorem dX6_isPresent_0 : decode cX6_isPresent 0 = .ok (.aload_n 0, 1) := by decide +kernel
theorem dX6_isPresent_1 : decode cX6_isPresent 1 = .ok (.getfield 7, 3) := by decide +kernel
theorem dX6_isPresent_4 : decode cX6_isPresent 4 = .ok (.bipush 101, 2) := by decide +kernel
theorem dX6_isPresent_6 : decode cX6_isPresent 6 = .ok (.iload_n 1, 1) := by decide +kernel
theorem dX6_isPresent_7 : decode cX6_isPresent 7 = .ok (.iadd, 1) := by decide +kernel
theorem dX6_isPresent_8 : decode cX6_isPresent 8 = .ok (.laload, 1) := by decide +kernel
theorem dX6_isPresent_9 : decode cX6_isPresent 9 = .ok (.ldc2_w 197, 3) := by decide +kernel
theorem dX6_isPresent_12 : decode cX6_isPresent 12 = .ok (.lcmp, 1) := by decide +kernel
theorem dX6_isPresent_13 : decode cX6_isPresent 13 = .ok (.ifCond .ne 7, 3) := by decide +kernel
theorem dX6_isPresent_16 : decode cX6_isPresent 16 = .ok (.iconst 1, 1) := by decide +kernel
theorem dX6_isPresent_17 : decode cX6_isPresent 17 = .ok (.goto 4, 3) := by decide +kernel
theorem dX6_isPresent_21 : decode cX6_isPresent 21 = .ok (.ireturn, 1) := by decide +kernel
theorem dX6_isSample_0 : decode cX6_isSample 0 = .ok (.iload_n 1, 1) := by decide +kernel
theorem dX6_isSample_1 : decode cX6_isSample 1 = .ok (.i2l, 1) := by decide +kernel
theorem dX6_isSample_2 : decode cX6_isSample 2 = .ok (.lconst 0, 1) := by decide +kernel
theorem dX6_isSample_3 : decode cX6_isSample 3 = .ok (.aload_n 0, 1) := by decide +kernel
theorem dX6_isSample_4 : decode cX6_isSample 4 = .ok (.getfield 185, 3) := by decide +kernel
theorem dX6_isSample_7 : decode cX6_isSample 7 = .ok (.iconst 1, 1) := by decide +kernel
theorem dX6_isSample_8 : decode cX6_isSample 8 = .ok (.isub, 1) := by decide +kernel
theorem dX6_isSample_9 : decode cX6_isSample 9 = .ok (.i2l, 1) := by decide +kernel
theorem dX6_isSample_10 : decode cX6_isSample 10 = .ok (.invokestatic 84, 3) := by decide +kernel
theorem dX6_isSample_13 : decode cX6_isSample 13 = .ok (.ireturn, 1) := by decide +kernel
theorem dX6_isStep_0 : decode cX6_isStep 0 = .ok (.iload_n 1, 1) := by decide +kernel
theorem dX6_isStep_1 : decode cX6_isStep 1 = .ok (.i2l, 1) := by decide +kernel
theorem dX6_isStep_2 : decode cX6_isStep 2 = .ok (.lconst 0, 1) := by decide +kernel
theorem dX6_isStep_3 : decode cX6_isStep 3 = .ok (.aload_n 0, 1) := by decide +kernel
theorem dX6_isStep_4 : decode cX6_isStep 4 = .ok (.invokevirtual 199, 3) := by decide +kernel
theorem dX6_isStep_7 : decode cX6_isStep 7 = .ok (.iconst 1, 1) := by decide +kernel
theorem dX6_isStep_8 : decode cX6_isStep 8 = .ok (.isub, 1) := by decide +kernel
theorem dX6_isStep_9 : decode cX6_isStep 9 = .ok (.i2l, 1) := by decide +kernel
theorem dX6_isStep_10 : decode cX6_isStep 10 = .ok (.invokestatic 84, 3) := by decide +kernel
theorem dX6_isStep_13 : decode cX6_isStep 13 = .ok (.ireturn, 1) := by decide +kernel
theorem dX6_isWord_0 : decode cX6_isWord 0 = .ok (.aload_n 0, 1) := by decide +kernel
theorem dX6_isWord_1 : decode cX6_isWord 1 = .ok (.getfield 91, 3) := by decide +kernel
theorem dX6_isWord_4 : decode cX6_isWord 4 = .ok (.ifCond .ne 16, 3) := by decide +kernel
theorem dX6_isWord_7 : decode cX6_isWord 7 = .ok (.aload_n 0, 1) := by decide +kernel
theorem dX6_isWord_8 : decode cX6_isWord 8 = .ok (.invokevirtual 113, 3) := by decide +kernel
theorem dX6_isWord_11 : decode cX6_isWord 11 = .ok (.lload_n 1, 1) := by decide +kernel
theorem dX6_isWord_12 : decode cX6_isWord 12 = .ok (.lcmp, 1) := by decide +kernel
theorem dX6_isWord_13 : decode cX6_isWord 13 = .ok (.ifCond .ne 7, 3) := by decide +kernel
theorem dX6_isWord_20 : decode cX6_isWord 20 = .ok (.iconst 0, 1) := by decide +kernel
theorem dX6_isWord_21 : decode cX6_isWord 21 = .ok (.ireturn, 1) := by decide +kernel
theorem dX6_keepLargest_0 : decode cX6_keepLargest 0 = .ok (.aload_n 0, 1) := by decide +kernel
theorem dX6_keepLargest_1 : decode cX6_keepLargest 1 = .ok (.iload_n 1, 1) := by decide +kernel
theorem dX6_keepLargest_2 : decode cX6_keepLargest 2 = .ok (.i2l, 1) := by decide +kernel
theorem dX6_keepLargest_3 : decode cX6_keepLargest 3 = .ok (.lconst 0, 1) := by decide +kernel
theorem dX6_keepLargest_4 : decode cX6_keepLargest 4 = .ok (.ldc2_w 304, 3) := by decide +kernel
theorem dX6_keepLargest_7 : decode cX6_keepLargest 7 = .ok (.invokestatic 84, 3) := by decide +kernel
theorem dX6_keepLargest_10 : decode cX6_keepLargest 10 = .ok (.ifCond .eq 7, 3) := by decide +kernel
theorem dX6_keepLargest_13 : decode cX6_keepLargest 13 = .ok (.iconst 0, 1) := by decide +kernel
theorem dX6_keepLargest_14 : decode cX6_keepLargest 14 = .ok (.goto 4, 3) := by decide +kernel
theorem dX6_keepLargest_17 : decode cX6_keepLargest 17 = .ok (.iconst 1, 1) := by decide +kernel
theorem dX6_keepLargest_18 : decode cX6_keepLargest 18 = .ok (.putfield 64, 3) := by decide +kernel
theorem dX6_keepLargest_21 : decode cX6_keepLargest 21 = .ok (.aload_n 0, 1) := by decide +kernel
theorem dX6_keepLargest_22 : decode cX6_keepLargest 22 = .ok (.getfield 64, 3) := by decide +kernel
theorem dX6_keepLargest_25 : decode cX6_keepLargest 25 = .ok (.ifCond .le 5, 3) := by decide +kernel
theorem dX6_keepLargest_28 : decode cX6_keepLargest 28 = .ok (.lconst 0, 1) := by decide +kernel
theorem dX6_keepLargest_29 : decode cX6_keepLargest 29 = .ok (.lreturn, 1) := by decide +kernel
theorem dX6_keepLargest_30 : decode cX6_keepLargest 30 = .ok (.iconst 0, 1) := by decide +kernel
theorem dX6_keepLargest_31 : decode cX6_keepLargest 31 = .ok (.istore_n 2, 1) := by decide +kernel
theorem dX6_keepLargest_32 : decode cX6_keepLargest 32 = .ok (.iconst 0, 1) := by decide +kernel
theorem dX6_keepLargest_33 : decode cX6_keepLargest 33 = .ok (.istore_n 3, 1) := by decide +kernel
theorem dX6_keepLargest_34 : decode cX6_keepLargest 34 = .ok (.iload_n 3, 1) := by decide +kernel
theorem dX6_keepLargest_35 : decode cX6_keepLargest 35 = .ok (.aload_n 0, 1) := by decide +kernel
theorem dX6_keepLargest_36 : decode cX6_keepLargest 36 = .ok (.invokevirtual 199, 3) := by decide +kernel
theorem dX6_keepLargest_39 : decode cX6_keepLargest 39 = .ok (.if_icmp .ge 39, 3) := by decide +kernel
theorem dX6_keepLargest_78 : decode cX6_keepLargest 78 = .ok (.lconst 0, 1) := by decide +kernel
theorem dX6_keepLargest_79 : decode cX6_keepLargest 79 = .ok (.lstore_n 3, 1) := by decide +kernel
theorem dX6_keepLargest_80 : decode cX6_keepLargest 80 = .ok (.iconst 0, 1) := by decide +kernel
theorem dX6_keepLargest_81 : decode cX6_keepLargest 81 = .ok (.istore 5, 2) := by decide +kernel
theorem dX6_keepLargest_83 : decode cX6_keepLargest 83 = .ok (.iload 5, 2) := by decide +kernel
theorem dX6_keepLargest_85 : decode cX6_keepLargest 85 = .ok (.aload_n 0, 1) := by decide +kernel
theorem dX6_keepLargest_86 : decode cX6_keepLargest 86 = .ok (.invokevirtual 199, 3) := by decide +kernel
theorem dX6_keepLargest_89 : decode cX6_keepLargest 89 = .ok (.if_icmp .ge 63, 3) := by decide +kernel
theorem dX6_keepLargest_152 : decode cX6_keepLargest 152 = .ok (.lload_n 3, 1) := by decide +kernel
theorem dX6_keepLargest_153 : decode cX6_keepLargest 153 = .ok (.lreturn, 1) := by decide +kernel
theorem dX6_largest_0 : decode cX6_largest 0 = .ok (.aload_n 0, 1) := by decide +kernel
theorem dX6_largest_1 : decode cX6_largest 1 = .ok (.aload_n 0, 1) := by decide +kernel
theorem dX6_largest_2 : decode cX6_largest 2 = .ok (.iload_n 1, 1) := by decide +kernel
theorem dX6_largest_3 : decode cX6_largest 3 = .ok (.invokevirtual 229, 3) := by decide +kernel
theorem dX6_largest_6 : decode cX6_largest 6 = .ok (.ifCond .eq 7, 3) := by decide +kernel
theorem dX6_largest_13 : decode cX6_largest 13 = .ok (.iconst 1, 1) := by decide +kernel
theorem dX6_largest_14 : decode cX6_largest 14 = .ok (.putfield 64, 3) := by decide +kernel
theorem dX6_largest_17 : decode cX6_largest 17 = .ok (.iconst 0, 1) := by decide +kernel
theorem dX6_largest_18 : decode cX6_largest 18 = .ok (.istore_n 2, 1) := by decide +kernel
theorem dX6_largest_19 : decode cX6_largest 19 = .ok (.aload_n 0, 1) := by decide +kernel
theorem dX6_largest_20 : decode cX6_largest 20 = .ok (.getfield 64, 3) := by decide +kernel
theorem dX6_largest_23 : decode cX6_largest 23 = .ok (.ifCond .ne 18, 3) := by decide +kernel
theorem dX6_largest_41 : decode cX6_largest 41 = .ok (.iload_n 2, 1) := by decide +kernel
theorem dX6_largest_42 : decode cX6_largest 42 = .ok (.ireturn, 1) := by decide +kernel
theorem dX6_lift_0 : decode cX6_lift 0 = .ok (.aload_n 0, 1) := by decide +kernel
theorem dX6_lift_1 : decode cX6_lift 1 = .ok (.aload_n 0, 1) := by decide +kernel
theorem dX6_lift_2 : decode cX6_lift 2 = .ok (.iload_n 1, 1) := by decide +kernel
theorem dX6_lift_3 : decode cX6_lift 3 = .ok (.invokevirtual 205, 3) := by decide +kernel
theorem dX6_lift_6 : decode cX6_lift 6 = .ok (.ifCond .eq 7, 3) := by decide +kernel
theorem dX6_lift_9 : decode cX6_lift 9 = .ok (.iconst 0, 1) := by decide +kernel
theorem dX6_lift_10 : decode cX6_lift 10 = .ok (.goto 4, 3) := by decide +kernel
theorem dX6_lift_13 : decode cX6_lift 13 = .ok (.iconst 1, 1) := by decide +kernel
theorem dX6_lift_14 : decode cX6_lift 14 = .ok (.putfield 64, 3) := by decide +kernel
theorem dX6_lift_17 : decode cX6_lift 17 = .ok (.aload_n 0, 1) := by decide +kernel
theorem dX6_lift_18 : decode cX6_lift 18 = .ok (.getfield 64, 3) := by decide +kernel
theorem dX6_lift_21 : decode cX6_lift 21 = .ok (.ifCond .le 5, 3) := by decide +kernel
theorem dX6_lift_24 : decode cX6_lift 24 = .ok (.lconst 0, 1) := by decide +kernel
theorem dX6_lift_25 : decode cX6_lift 25 = .ok (.lreturn, 1) := by decide +kernel
theorem dX6_lift_26 : decode cX6_lift 26 = .ok (.aload_n 0, 1) := by decide +kernel
theorem dX6_lift_27 : decode cX6_lift 27 = .ok (.iload_n 1, 1) := by decide +kernel
theorem dX6_lift_28 : decode cX6_lift 28 = .ok (.invokevirtual 277, 3) := by decide +kernel
theorem dX6_lift_31 : decode cX6_lift 31 = .ok (.ifCond .ne 25, 3) := by decide +kernel
theorem dX6_lift_34 : decode cX6_lift 34 = .ok (.aload_n 0, 1) := by decide +kernel
theorem dX6_lift_35 : decode cX6_lift 35 = .ok (.iconst 2, 1) := by decide +kernel
theorem dX6_lift_36 : decode cX6_lift 36 = .ok (.iconst 3, 1) := by decide +kernel
theorem dX6_lift_37 : decode cX6_lift 37 = .ok (.aload_n 0, 1) := by decide +kernel
theorem dX6_lift_38 : decode cX6_lift 38 = .ok (.iload_n 1, 1) := by decide +kernel
theorem dX6_lift_39 : decode cX6_lift 39 = .ok (.invokevirtual 202, 3) := by decide +kernel
theorem dX6_lift_42 : decode cX6_lift 42 = .ok (.ifCond .eq 7, 3) := by decide +kernel
theorem dX6_lift_45 : decode cX6_lift 45 = .ok (.iconst 5, 1) := by decide +kernel
theorem dX6_lift_46 : decode cX6_lift 46 = .ok (.goto 4, 3) := by decide +kernel
theorem dX6_lift_50 : decode cX6_lift 50 = .ok (.iload_n 1, 1) := by decide +kernel
theorem dX6_lift_51 : decode cX6_lift 51 = .ok (.invokevirtual 294, 3) := by decide +kernel
theorem dX6_lift_54 : decode cX6_lift 54 = .ok (.i2l, 1) := by decide +kernel
theorem dX6_lift_55 : decode cX6_lift 55 = .ok (.lreturn, 1) := by decide +kernel
theorem dX6_load_0 : decode cX6_load 0 = .ok (.aload_n 0, 1) := by decide +kernel
theorem dX6_load_1 : decode cX6_load 1 = .ok (.iconst 0, 1) := by decide +kernel
theorem dX6_load_2 : decode cX6_load 2 = .ok (.putfield 64, 3) := by decide +kernel
theorem dX6_load_5 : decode cX6_load 5 = .ok (.aload_n 0, 1) := by decide +kernel
theorem dX6_load_6 : decode cX6_load 6 = .ok (.iconst 0, 1) := by decide +kernel
theorem dX6_load_7 : decode cX6_load 7 = .ok (.putfield 95, 3) := by decide +kernel
theorem dX6_load_10 : decode cX6_load 10 = .ok (.aload_n 0, 1) := by decide +kernel
theorem dX6_load_11 : decode cX6_load 11 = .ok (.iconst (-1), 1) := by decide +kernel
theorem dX6_load_12 : decode cX6_load 12 = .ok (.putfield 37, 3) := by decide +kernel
theorem dX6_load_15 : decode cX6_load 15 = .ok (.aload_n 0, 1) := by decide +kernel
theorem dX6_load_16 : decode cX6_load 16 = .ok (.iconst 0, 1) := by decide +kernel
theorem dX6_load_17 : decode cX6_load 17 = .ok (.putfield 46, 3) := by decide +kernel
theorem dX6_load_20 : decode cX6_load 20 = .ok (.aload_n 0, 1) := by decide +kernel
theorem dX6_load_21 : decode cX6_load 21 = .ok (.iconst 2, 1) := by decide +kernel
theorem dX6_load_22 : decode cX6_load 22 = .ok (.putfield 49, 3) := by decide +kernel
theorem dX6_load_25 : decode cX6_load 25 = .ok (.aload_n 0, 1) := by decide +kernel
theorem dX6_load_26 : decode cX6_load 26 = .ok (.iconst 0, 1) := by decide +kernel
theorem dX6_load_27 : decode cX6_load 27 = .ok (.putfield 52, 3) := by decide +kernel
theorem dX6_load_30 : decode cX6_load 30 = .ok (.aload_n 0, 1) := by decide +kernel
theorem dX6_load_31 : decode cX6_load 31 = .ok (.iconst 2, 1) := by decide +kernel
theorem dX6_load_32 : decode cX6_load 32 = .ok (.putfield 55, 3) := by decide +kernel
theorem dX6_load_35 : decode cX6_load 35 = .ok (.aload_n 0, 1) := by decide +kernel
theorem dX6_load_36 : decode cX6_load 36 = .ok (.iconst 1, 1) := by decide +kernel
theorem dX6_load_37 : decode cX6_load 37 = .ok (.putfield 58, 3) := by decide +kernel
theorem dX6_load_40 : decode cX6_load 40 = .ok (.aload_n 0, 1) := by decide +kernel
theorem dX6_load_41 : decode cX6_load 41 = .ok (.iconst 0, 1) := by decide +kernel
theorem dX6_load_42 : decode cX6_load 42 = .ok (.putfield 135, 3) := by decide +kernel
theorem dX6_load_45 : decode cX6_load 45 = .ok (.aload_n 0, 1) := by decide +kernel
theorem dX6_load_46 : decode cX6_load 46 = .ok (.iconst 0, 1) := by decide +kernel
theorem dX6_load_47 : decode cX6_load 47 = .ok (.putfield 88, 3) := by decide +kernel
theorem dX6_load_50 : decode cX6_load 50 = .ok (.aload_n 0, 1) := by decide +kernel
theorem dX6_load_51 : decode cX6_load 51 = .ok (.iconst 0, 1) := by decide +kernel
theorem dX6_load_52 : decode cX6_load 52 = .ok (.putfield 91, 3) := by decide +kernel
theorem dX6_load_55 : decode cX6_load 55 = .ok (.aload_n 0, 1) := by decide +kernel
theorem dX6_load_56 : decode cX6_load 56 = .ok (.invokevirtual 194, 3) := by decide +kernel
theorem dX6_load_59 : decode cX6_load 59 = .ok (.aload_n 0, 1) := by decide +kernel
theorem dX6_load_60 : decode cX6_load 60 = .ok (.iconst 0, 1) := by decide +kernel
theorem dX6_load_61 : decode cX6_load 61 = .ok (.putfield 77, 3) := by decide +kernel
theorem dX6_load_64 : decode cX6_load 64 = .ok (.aload_n 0, 1) := by decide +kernel
theorem dX6_load_65 : decode cX6_load 65 = .ok (.getfield 91, 3) := by decide +kernel
theorem dX6_load_68 : decode cX6_load 68 = .ok (.ifCond .eq 9, 3) := by decide +kernel
theorem dX6_load_71 : decode cX6_load 71 = .ok (.aload_n 0, 1) := by decide +kernel
theorem dX6_load_72 : decode cX6_load 72 = .ok (.iconst 1, 1) := by decide +kernel
theorem dX6_load_73 : decode cX6_load 73 = .ok (.invokevirtual 73, 3) := by decide +kernel
theorem dX6_load_76 : decode cX6_load 76 = .ok (.ireturn, 1) := by decide +kernel
theorem dX6_mean_0 : decode cX6_mean 0 = .ok (.aload_n 0, 1) := by decide +kernel
theorem dX6_mean_1 : decode cX6_mean 1 = .ok (.iload_n 1, 1) := by decide +kernel
theorem dX6_mean_2 : decode cX6_mean 2 = .ok (.i2l, 1) := by decide +kernel
theorem dX6_mean_3 : decode cX6_mean 3 = .ok (.lconst 0, 1) := by decide +kernel
theorem dX6_mean_4 : decode cX6_mean 4 = .ok (.lconst 1, 1) := by decide +kernel
theorem dX6_mean_5 : decode cX6_mean 5 = .ok (.invokestatic 84, 3) := by decide +kernel
theorem dX6_mean_8 : decode cX6_mean 8 = .ok (.ifCond .eq 7, 3) := by decide +kernel
theorem dX6_mean_11 : decode cX6_mean 11 = .ok (.iconst 0, 1) := by decide +kernel
theorem dX6_mean_12 : decode cX6_mean 12 = .ok (.goto 4, 3) := by decide +kernel
theorem dX6_mean_15 : decode cX6_mean 15 = .ok (.iconst 1, 1) := by decide +kernel
theorem dX6_mean_16 : decode cX6_mean 16 = .ok (.putfield 64, 3) := by decide +kernel
theorem dX6_mean_19 : decode cX6_mean 19 = .ok (.aload_n 0, 1) := by decide +kernel
theorem dX6_mean_20 : decode cX6_mean 20 = .ok (.getfield 64, 3) := by decide +kernel
theorem dX6_mean_23 : decode cX6_mean 23 = .ok (.ifCond .le 5, 3) := by decide +kernel
theorem dX6_mean_26 : decode cX6_mean 26 = .ok (.lconst 0, 1) := by decide +kernel
theorem dX6_mean_27 : decode cX6_mean 27 = .ok (.lreturn, 1) := by decide +kernel
theorem dX6_mean_28 : decode cX6_mean 28 = .ok (.aload_n 0, 1) := by decide +kernel
theorem dX6_mean_29 : decode cX6_mean 29 = .ok (.invokevirtual 236, 3) := by decide +kernel
theorem dX6_mean_32 : decode cX6_mean 32 = .ok (.invokestatic 239, 3) := by decide +kernel
theorem dX6_mean_35 : decode cX6_mean 35 = .ok (.aload_n 0, 1) := by decide +kernel
theorem dX6_mean_36 : decode cX6_mean 36 = .ok (.invokevirtual 220, 3) := by decide +kernel
theorem dX6_mean_39 : decode cX6_mean 39 = .ok (.invokestatic 243, 3) := by decide +kernel
theorem dX6_mean_42 : decode cX6_mean 42 = .ok (.lstore_n 2, 1) := by decide +kernel
theorem dX6_mean_43 : decode cX6_mean 43 = .ok (.iload_n 1, 1) := by decide +kernel
theorem dX6_mean_44 : decode cX6_mean 44 = .ok (.ifCond .ne 10, 3) := by decide +kernel
theorem dX6_mean_47 : decode cX6_mean 47 = .ok (.aload_n 0, 1) := by decide +kernel
theorem dX6_mean_48 : decode cX6_mean 48 = .ok (.invokevirtual 236, 3) := by decide +kernel
theorem dX6_mean_51 : decode cX6_mean 51 = .ok (.goto 7, 3) := by decide +kernel
theorem dX6_mean_54 : decode cX6_mean 54 = .ok (.aload_n 0, 1) := by decide +kernel
theorem dX6_mean_55 : decode cX6_mean 55 = .ok (.invokevirtual 220, 3) := by decide +kernel
theorem dX6_mean_58 : decode cX6_mean 58 = .ok (.lload_n 2, 1) := by decide +kernel
theorem dX6_mean_59 : decode cX6_mean 59 = .ok (.ldiv, 1) := by decide +kernel
theorem dX6_mean_60 : decode cX6_mean 60 = .ok (.lreturn, 1) := by decide +kernel
theorem dX6_neighbour_0 : decode cX6_neighbour 0 = .ok (.aload_n 0, 1) := by decide +kernel
theorem dX6_neighbour_1 : decode cX6_neighbour 1 = .ok (.aload_n 0, 1) := by decide +kernel
theorem dX6_neighbour_2 : decode cX6_neighbour 2 = .ok (.iload_n 1, 1) := by decide +kernel
theorem dX6_neighbour_3 : decode cX6_neighbour 3 = .ok (.invokevirtual 205, 3) := by decide +kernel
theorem dX6_neighbour_6 : decode cX6_neighbour 6 = .ok (.ifCond .eq 7, 3) := by decide +kernel
theorem dX6_neighbour_9 : decode cX6_neighbour 9 = .ok (.iconst 0, 1) := by decide +kernel
theorem dX6_neighbour_10 : decode cX6_neighbour 10 = .ok (.goto 4, 3) := by decide +kernel
theorem dX6_neighbour_13 : decode cX6_neighbour 13 = .ok (.iconst 1, 1) := by decide +kernel
theorem dX6_neighbour_14 : decode cX6_neighbour 14 = .ok (.putfield 64, 3) := by decide +kernel
theorem dX6_neighbour_17 : decode cX6_neighbour 17 = .ok (.aload_n 0, 1) := by decide +kernel
theorem dX6_neighbour_18 : decode cX6_neighbour 18 = .ok (.getfield 64, 3) := by decide +kernel
theorem dX6_neighbour_21 : decode cX6_neighbour 21 = .ok (.ifCond .le 7, 3) := by decide +kernel
theorem dX6_neighbour_24 : decode cX6_neighbour 24 = .ok (.iconst 0, 1) := by decide +kernel
theorem dX6_neighbour_25 : decode cX6_neighbour 25 = .ok (.goto 17, 3) := by decide +kernel
theorem dX6_neighbour_28 : decode cX6_neighbour 28 = .ok (.aload_n 0, 1) := by decide +kernel
theorem dX6_neighbour_29 : decode cX6_neighbour 29 = .ok (.iload_n 1, 1) := by decide +kernel
theorem dX6_neighbour_30 : decode cX6_neighbour 30 = .ok (.iload_n 2, 1) := by decide +kernel
theorem dX6_neighbour_31 : decode cX6_neighbour 31 = .ok (.ifCond .eq 7, 3) := by decide +kernel
theorem dX6_neighbour_34 : decode cX6_neighbour 34 = .ok (.iconst 1, 1) := by decide +kernel
theorem dX6_neighbour_35 : decode cX6_neighbour 35 = .ok (.goto 4, 3) := by decide +kernel
theorem dX6_neighbour_38 : decode cX6_neighbour 38 = .ok (.iconst (-1), 1) := by decide +kernel
theorem dX6_neighbour_39 : decode cX6_neighbour 39 = .ok (.invokevirtual 225, 3) := by decide +kernel
theorem dX6_neighbour_42 : decode cX6_neighbour 42 = .ok (.ireturn, 1) := by decide +kernel
theorem dX6_next_0 : decode cX6_next 0 = .ok (.aload_n 0, 1) := by decide +kernel
theorem dX6_next_1 : decode cX6_next 1 = .ok (.invokevirtual 283, 3) := by decide +kernel
theorem dX6_next_4 : decode cX6_next 4 = .ok (.istore_n 1, 1) := by decide +kernel
theorem dX6_next_5 : decode cX6_next 5 = .ok (.aload_n 0, 1) := by decide +kernel
theorem dX6_next_6 : decode cX6_next 6 = .ok (.iload_n 1, 1) := by decide +kernel
theorem dX6_next_7 : decode cX6_next 7 = .ok (.iconst (-1), 1) := by decide +kernel
theorem dX6_next_8 : decode cX6_next 8 = .ok (.if_icmp .ne 7, 3) := by decide +kernel
theorem dX6_next_11 : decode cX6_next 11 = .ok (.iconst 1, 1) := by decide +kernel
theorem dX6_next_12 : decode cX6_next 12 = .ok (.goto 4, 3) := by decide +kernel
theorem dX6_next_16 : decode cX6_next 16 = .ok (.putfield 64, 3) := by decide +kernel
theorem dX6_next_19 : decode cX6_next 19 = .ok (.iload_n 1, 1) := by decide +kernel
theorem dX6_next_20 : decode cX6_next 20 = .ok (.ireturn, 1) := by decide +kernel
theorem dX6_nextOne_0 : decode cX6_nextOne 0 = .ok (.aload_n 0, 1) := by decide +kernel
theorem dX6_nextOne_1 : decode cX6_nextOne 1 = .ok (.invokevirtual 214, 3) := by decide +kernel
theorem dX6_nextOne_4 : decode cX6_nextOne 4 = .ok (.aload_n 0, 1) := by decide +kernel
theorem dX6_nextOne_5 : decode cX6_nextOne 5 = .ok (.getfield 188, 3) := by decide +kernel
theorem dX6_nextOne_8 : decode cX6_nextOne 8 = .ok (.if_icmp .gt 5, 3) := by decide +kernel
theorem dX6_nextOne_11 : decode cX6_nextOne 11 = .ok (.iconst (-1), 1) := by decide +kernel
theorem dX6_nextOne_12 : decode cX6_nextOne 12 = .ok (.ireturn, 1) := by decide +kernel
theorem dX6_noise_0 : decode cX6_noise 0 = .ok (.aload_n 0, 1) := by decide +kernel
theorem dX6_noise_1 : decode cX6_noise 1 = .ok (.iload_n 2, 1) := by decide +kernel
theorem dX6_noise_2 : decode cX6_noise 2 = .ok (.i2l, 1) := by decide +kernel
theorem dX6_noise_3 : decode cX6_noise 3 = .ok (.lconst 0, 1) := by decide +kernel
theorem dX6_noise_4 : decode cX6_noise 4 = .ok (.ldc2_w 298, 3) := by decide +kernel
theorem dX6_noise_7 : decode cX6_noise 7 = .ok (.invokestatic 84, 3) := by decide +kernel
theorem dX6_noise_10 : decode cX6_noise 10 = .ok (.ifCond .eq 7, 3) := by decide +kernel
theorem dX6_noise_17 : decode cX6_noise 17 = .ok (.iconst 1, 1) := by decide +kernel
theorem dX6_noise_18 : decode cX6_noise 18 = .ok (.putfield 64, 3) := by decide +kernel
theorem dX6_noise_21 : decode cX6_noise 21 = .ok (.aload_n 0, 1) := by decide +kernel
theorem dX6_noise_22 : decode cX6_noise 22 = .ok (.getfield 64, 3) := by decide +kernel
theorem dX6_noise_25 : decode cX6_noise 25 = .ok (.ifCond .le 5, 3) := by decide +kernel
theorem dX6_noise_28 : decode cX6_noise 28 = .ok (.lconst 0, 1) := by decide +kernel
theorem dX6_noise_29 : decode cX6_noise 29 = .ok (.lreturn, 1) := by decide +kernel
theorem dX6_plainMean_0 : decode cX6_plainMean 0 = .ok (.aload_n 0, 1) := by decide +kernel
theorem dX6_plainMean_1 : decode cX6_plainMean 1 = .ok (.iconst 0, 1) := by decide +kernel
theorem dX6_plainMean_2 : decode cX6_plainMean 2 = .ok (.putfield 64, 3) := by decide +kernel
theorem dX6_plainMean_5 : decode cX6_plainMean 5 = .ok (.lconst 0, 1) := by decide +kernel
theorem dX6_plainMean_6 : decode cX6_plainMean 6 = .ok (.lstore_n 1, 1) := by decide +kernel
theorem dX6_plainMean_7 : decode cX6_plainMean 7 = .ok (.iconst 0, 1) := by decide +kernel
theorem dX6_plainMean_8 : decode cX6_plainMean 8 = .ok (.istore_n 3, 1) := by decide +kernel
theorem dX6_plainMean_9 : decode cX6_plainMean 9 = .ok (.iload_n 3, 1) := by decide +kernel
theorem dX6_plainMean_10 : decode cX6_plainMean 10 = .ok (.aload_n 0, 1) := by decide +kernel
theorem dX6_plainMean_11 : decode cX6_plainMean 11 = .ok (.getfield 185, 3) := by decide +kernel
theorem dX6_plainMean_14 : decode cX6_plainMean 14 = .ok (.if_icmp .ge 32, 3) := by decide +kernel
theorem dX6_plainMean_17 : decode cX6_plainMean 17 = .ok (.lload_n 1, 1) := by decide +kernel
theorem dX6_plainMean_18 : decode cX6_plainMean 18 = .ok (.aload_n 0, 1) := by decide +kernel
theorem dX6_plainMean_19 : decode cX6_plainMean 19 = .ok (.iload_n 3, 1) := by decide +kernel
theorem dX6_plainMean_20 : decode cX6_plainMean 20 = .ok (.invokevirtual 202, 3) := by decide +kernel
theorem dX6_plainMean_23 : decode cX6_plainMean 23 = .ok (.ifCond .eq 14, 3) := by decide +kernel
theorem dX6_plainMean_26 : decode cX6_plainMean 26 = .ok (.aload_n 0, 1) := by decide +kernel
theorem dX6_plainMean_27 : decode cX6_plainMean 27 = .ok (.getfield 7, 3) := by decide +kernel
theorem dX6_plainMean_30 : decode cX6_plainMean 30 = .ok (.iconst 5, 1) := by decide +kernel
theorem dX6_plainMean_31 : decode cX6_plainMean 31 = .ok (.iload_n 3, 1) := by decide +kernel
theorem dX6_plainMean_32 : decode cX6_plainMean 32 = .ok (.iadd, 1) := by decide +kernel
theorem dX6_plainMean_33 : decode cX6_plainMean 33 = .ok (.laload, 1) := by decide +kernel
theorem dX6_plainMean_34 : decode cX6_plainMean 34 = .ok (.goto 4, 3) := by decide +kernel
theorem dX6_plainMean_38 : decode cX6_plainMean 38 = .ok (.ladd, 1) := by decide +kernel
theorem dX6_plainMean_39 : decode cX6_plainMean 39 = .ok (.lstore_n 1, 1) := by decide +kernel
theorem dX6_plainMean_40 : decode cX6_plainMean 40 = .ok (.iinc 3 1, 3) := by decide +kernel
theorem dX6_plainMean_43 : decode cX6_plainMean 43 = .ok (.goto (-34), 3) := by decide +kernel
theorem dX6_plainMean_46 : decode cX6_plainMean 46 = .ok (.lload_n 1, 1) := by decide +kernel
theorem dX6_plainMean_47 : decode cX6_plainMean 47 = .ok (.l2d, 1) := by decide +kernel
theorem dX6_plainMean_48 : decode cX6_plainMean 48 = .ok (.aload_n 0, 1) := by decide +kernel
theorem dX6_plainMean_49 : decode cX6_plainMean 49 = .ok (.invokevirtual 214, 3) := by decide +kernel
theorem dX6_plainMean_52 : decode cX6_plainMean 52 = .ok (.i2d, 1) := by decide +kernel
theorem dX6_plainMean_53 : decode cX6_plainMean 53 = .ok (.ddiv, 1) := by decide +kernel
theorem dX6_plainMean_54 : decode cX6_plainMean 54 = .ok (.dreturn, 1) := by decide +kernel
theorem dX6_present_0 : decode cX6_present 0 = .ok (.aload_n 0, 1) := by decide +kernel
theorem dX6_present_1 : decode cX6_present 1 = .ok (.iload_n 1, 1) := by decide +kernel
theorem dX6_present_2 : decode cX6_present 2 = .ok (.i2l, 1) := by decide +kernel
theorem dX6_present_3 : decode cX6_present 3 = .ok (.lconst 0, 1) := by decide +kernel
theorem dX6_present_4 : decode cX6_present 4 = .ok (.aload_n 0, 1) := by decide +kernel
theorem dX6_present_5 : decode cX6_present 5 = .ok (.invokevirtual 214, 3) := by decide +kernel
theorem dX6_present_8 : decode cX6_present 8 = .ok (.iconst 1, 1) := by decide +kernel
theorem dX6_present_9 : decode cX6_present 9 = .ok (.isub, 1) := by decide +kernel
theorem dX6_present_10 : decode cX6_present 10 = .ok (.i2l, 1) := by decide +kernel
theorem dX6_present_11 : decode cX6_present 11 = .ok (.invokestatic 84, 3) := by decide +kernel
theorem dX6_present_14 : decode cX6_present 14 = .ok (.ifCond .eq 7, 3) := by decide +kernel
theorem dX6_present_17 : decode cX6_present 17 = .ok (.iconst 0, 1) := by decide +kernel
theorem dX6_present_18 : decode cX6_present 18 = .ok (.goto 4, 3) := by decide +kernel
theorem dX6_present_21 : decode cX6_present 21 = .ok (.iconst 1, 1) := by decide +kernel
theorem dX6_present_22 : decode cX6_present 22 = .ok (.putfield 64, 3) := by decide +kernel
theorem dX6_present_25 : decode cX6_present 25 = .ok (.iconst 0, 1) := by decide +kernel
theorem dX6_present_26 : decode cX6_present 26 = .ok (.istore_n 2, 1) := by decide +kernel
theorem dX6_present_27 : decode cX6_present 27 = .ok (.iload_n 1, 1) := by decide +kernel
theorem dX6_present_28 : decode cX6_present 28 = .ok (.istore_n 3, 1) := by decide +kernel
theorem dX6_present_29 : decode cX6_present 29 = .ok (.aload_n 0, 1) := by decide +kernel
theorem dX6_present_30 : decode cX6_present 30 = .ok (.getfield 64, 3) := by decide +kernel
theorem dX6_present_33 : decode cX6_present 33 = .ok (.ifCond .ne 20, 3) := by decide +kernel
theorem dX6_present_36 : decode cX6_present 36 = .ok (.iload_n 3, 1) := by decide +kernel
theorem dX6_present_37 : decode cX6_present 37 = .ok (.ifCond .le 16, 3) := by decide +kernel
theorem dX6_present_40 : decode cX6_present 40 = .ok (.aload_n 0, 1) := by decide +kernel
theorem dX6_present_41 : decode cX6_present 41 = .ok (.iload_n 2, 1) := by decide +kernel
theorem dX6_present_42 : decode cX6_present 42 = .ok (.iconst 1, 1) := by decide +kernel
theorem dX6_present_43 : decode cX6_present 43 = .ok (.invokevirtual 225, 3) := by decide +kernel
theorem dX6_present_46 : decode cX6_present 46 = .ok (.istore_n 2, 1) := by decide +kernel
theorem dX6_present_47 : decode cX6_present 47 = .ok (.iinc 3 (-1), 3) := by decide +kernel
theorem dX6_present_50 : decode cX6_present 50 = .ok (.goto (-21), 3) := by decide +kernel
theorem dX6_present_53 : decode cX6_present 53 = .ok (.iload_n 2, 1) := by decide +kernel
theorem dX6_present_54 : decode cX6_present 54 = .ok (.ireturn, 1) := by decide +kernel
theorem dX6_presents_0 : decode cX6_presents 0 = .ok (.aload_n 0, 1) := by decide +kernel
theorem dX6_presents_1 : decode cX6_presents 1 = .ok (.getfield 185, 3) := by decide +kernel
theorem dX6_presents_4 : decode cX6_presents 4 = .ok (.aload_n 0, 1) := by decide +kernel
theorem dX6_presents_5 : decode cX6_presents 5 = .ok (.invokevirtual 199, 3) := by decide +kernel
theorem dX6_presents_8 : decode cX6_presents 8 = .ok (.isub, 1) := by decide +kernel
theorem dX6_presents_9 : decode cX6_presents 9 = .ok (.ireturn, 1) := by decide +kernel
theorem dX6_puts_0 : decode cX6_puts 0 = .ok (.iconst 0, 1) := by decide +kernel
theorem dX6_puts_1 : decode cX6_puts 1 = .ok (.istore_n 1, 1) := by decide +kernel
theorem dX6_puts_2 : decode cX6_puts 2 = .ok (.iload_n 1, 1) := by decide +kernel
theorem dX6_puts_3 : decode cX6_puts 3 = .ok (.sipush 609, 3) := by decide +kernel
theorem dX6_puts_6 : decode cX6_puts 6 = .ok (.if_icmp .ge 21, 3) := by decide +kernel
theorem dX6_puts_9 : decode cX6_puts 9 = .ok (.aload_n 0, 1) := by decide +kernel
theorem dX6_puts_10 : decode cX6_puts 10 = .ok (.getfield 13, 3) := by decide +kernel
theorem dX6_puts_13 : decode cX6_puts 13 = .ok (.iload_n 1, 1) := by decide +kernel
theorem dX6_puts_14 : decode cX6_puts 14 = .ok (.aload_n 0, 1) := by decide +kernel
theorem dX6_puts_15 : decode cX6_puts 15 = .ok (.getfield 7, 3) := by decide +kernel
theorem dX6_puts_18 : decode cX6_puts 18 = .ok (.iload_n 1, 1) := by decide +kernel
theorem dX6_puts_19 : decode cX6_puts 19 = .ok (.laload, 1) := by decide +kernel
theorem dX6_puts_20 : decode cX6_puts 20 = .ok (.lastore, 1) := by decide +kernel
theorem dX6_puts_21 : decode cX6_puts 21 = .ok (.iinc 1 1, 3) := by decide +kernel
theorem dX6_puts_24 : decode cX6_puts 24 = .ok (.goto (-22), 3) := by decide +kernel
theorem dX6_puts_27 : decode cX6_puts 27 = .ok (.return_, 1) := by decide +kernel
theorem dX6_quantize_0 : decode cX6_quantize 0 = .ok (.aload_n 0, 1) := by decide +kernel
theorem dX6_quantize_1 : decode cX6_quantize 1 = .ok (.iload_n 1, 1) := by decide +kernel
theorem dX6_quantize_2 : decode cX6_quantize 2 = .ok (.i2l, 1) := by decide +kernel
theorem dX6_quantize_3 : decode cX6_quantize 3 = .ok (.lconst 1, 1) := by decide +kernel
theorem dX6_quantize_4 : decode cX6_quantize 4 = .ok (.ldc2_w 292, 3) := by decide +kernel
theorem dX6_quantize_7 : decode cX6_quantize 7 = .ok (.invokestatic 84, 3) := by decide +kernel
theorem dX6_quantize_10 : decode cX6_quantize 10 = .ok (.ifCond .eq 7, 3) := by decide +kernel
theorem dX6_quantize_13 : decode cX6_quantize 13 = .ok (.iconst 0, 1) := by decide +kernel
theorem dX6_quantize_14 : decode cX6_quantize 14 = .ok (.goto 4, 3) := by decide +kernel
theorem dX6_quantize_17 : decode cX6_quantize 17 = .ok (.iconst 1, 1) := by decide +kernel
theorem dX6_quantize_18 : decode cX6_quantize 18 = .ok (.putfield 64, 3) := by decide +kernel
theorem dX6_quantize_21 : decode cX6_quantize 21 = .ok (.lconst 0, 1) := by decide +kernel
theorem dX6_quantize_22 : decode cX6_quantize 22 = .ok (.lstore_n 2, 1) := by decide +kernel
theorem dX6_quantize_23 : decode cX6_quantize 23 = .ok (.iconst 0, 1) := by decide +kernel
theorem dX6_quantize_24 : decode cX6_quantize 24 = .ok (.istore 4, 2) := by decide +kernel
theorem dX6_quantize_26 : decode cX6_quantize 26 = .ok (.aload_n 0, 1) := by decide +kernel
theorem dX6_quantize_27 : decode cX6_quantize 27 = .ok (.getfield 64, 3) := by decide +kernel
theorem dX6_quantize_30 : decode cX6_quantize 30 = .ok (.ifCond .ne 104, 3) := by decide +kernel
theorem dX6_quantize_33 : decode cX6_quantize 33 = .ok (.iload 4, 2) := by decide +kernel
theorem dX6_quantize_35 : decode cX6_quantize 35 = .ok (.aload_n 0, 1) := by decide +kernel
theorem dX6_quantize_36 : decode cX6_quantize 36 = .ok (.invokevirtual 199, 3) := by decide +kernel
theorem dX6_quantize_39 : decode cX6_quantize 39 = .ok (.if_icmp .ge 95, 3) := by decide +kernel
theorem dX6_quantize_134 : decode cX6_quantize 134 = .ok (.lload_n 2, 1) := by decide +kernel
theorem dX6_quantize_135 : decode cX6_quantize 135 = .ok (.lreturn, 1) := by decide +kernel
theorem dX6_reads_0 : decode cX6_reads 0 = .ok (.iconst 1, 1) := by decide +kernel
theorem dX6_reads_1 : decode cX6_reads 1 = .ok (.istore_n 1, 1) := by decide +kernel
theorem dX6_reads_2 : decode cX6_reads 2 = .ok (.aload_n 0, 1) := by decide +kernel
theorem dX6_reads_3 : decode cX6_reads 3 = .ok (.getfield 91, 3) := by decide +kernel
theorem dX6_reads_6 : decode cX6_reads 6 = .ok (.ifCond .ne 15, 3) := by decide +kernel
theorem dX6_reads_9 : decode cX6_reads 9 = .ok (.iload_n 1, 1) := by decide +kernel
theorem dX6_reads_10 : decode cX6_reads 10 = .ok (.ifCond .eq 11, 3) := by decide +kernel
theorem dX6_reads_13 : decode cX6_reads 13 = .ok (.aload_n 0, 1) := by decide +kernel
theorem dX6_reads_14 : decode cX6_reads 14 = .ok (.invokevirtual 176, 3) := by decide +kernel
theorem dX6_reads_17 : decode cX6_reads 17 = .ok (.istore_n 1, 1) := by decide +kernel
theorem dX6_reads_18 : decode cX6_reads 18 = .ok (.goto (-16), 3) := by decide +kernel
theorem dX6_reads_21 : decode cX6_reads 21 = .ok (.aload_n 0, 1) := by decide +kernel
theorem dX6_reads_22 : decode cX6_reads 22 = .ok (.ldc2_w 180, 3) := by decide +kernel
theorem dX6_reads_25 : decode cX6_reads 25 = .ok (.invokevirtual 117, 3) := by decide +kernel
theorem dX6_reads_28 : decode cX6_reads 28 = .ok (.ifCond .eq 10, 3) := by decide +kernel
theorem dX6_reads_38 : decode cX6_reads 38 = .ok (.aload_n 0, 1) := by decide +kernel
theorem dX6_reads_39 : decode cX6_reads 39 = .ok (.getfield 91, 3) := by decide +kernel
theorem dX6_reads_42 : decode cX6_reads 42 = .ok (.ifCond .ne 33, 3) := by decide +kernel
theorem dX6_reads_45 : decode cX6_reads 45 = .ok (.aload_n 0, 1) := by decide +kernel
theorem dX6_reads_46 : decode cX6_reads 46 = .ok (.getfield 46, 3) := by decide +kernel
theorem dX6_reads_49 : decode cX6_reads 49 = .ok (.iconst 2, 1) := by decide +kernel
theorem dX6_reads_50 : decode cX6_reads 50 = .ok (.if_icmp .lt 11, 3) := by decide +kernel
theorem dX6_reads_61 : decode cX6_reads 61 = .ok (.aload_n 0, 1) := by decide +kernel
theorem dX6_reads_62 : decode cX6_reads 62 = .ok (.invokevirtual 102, 3) := by decide +kernel
theorem dX6_reads_65 : decode cX6_reads 65 = .ok (.istore_n 2, 1) := by decide +kernel
theorem dX6_reads_66 : decode cX6_reads 66 = .ok (.aload_n 0, 1) := by decide +kernel
theorem dX6_reads_67 : decode cX6_reads 67 = .ok (.iconst 1, 1) := by decide +kernel
theorem dX6_reads_68 : decode cX6_reads 68 = .ok (.aload_n 0, 1) := by decide +kernel
theorem dX6_reads_69 : decode cX6_reads 69 = .ok (.getfield 88, 3) := by decide +kernel
theorem dX6_reads_72 : decode cX6_reads 72 = .ok (.invokevirtual 128, 3) := by decide +kernel
theorem dX6_reads_75 : decode cX6_reads 75 = .ok (.return_, 1) := by decide +kernel
theorem dX6_reason_0 : decode cX6_reason 0 = .ok (.aload_n 0, 1) := by decide +kernel
theorem dX6_reason_1 : decode cX6_reason 1 = .ok (.iload_n 1, 1) := by decide +kernel
theorem dX6_reason_2 : decode cX6_reason 2 = .ok (.i2l, 1) := by decide +kernel
theorem dX6_reason_3 : decode cX6_reason 3 = .ok (.lconst 0, 1) := by decide +kernel
theorem dX6_reason_4 : decode cX6_reason 4 = .ok (.lconst 1, 1) := by decide +kernel
theorem dX6_reason_5 : decode cX6_reason 5 = .ok (.invokestatic 84, 3) := by decide +kernel
theorem dX6_reason_8 : decode cX6_reason 8 = .ok (.ifCond .eq 7, 3) := by decide +kernel
theorem dX6_reason_11 : decode cX6_reason 11 = .ok (.iconst 0, 1) := by decide +kernel
theorem dX6_reason_12 : decode cX6_reason 12 = .ok (.goto 4, 3) := by decide +kernel
theorem dX6_reason_15 : decode cX6_reason 15 = .ok (.iconst 1, 1) := by decide +kernel
theorem dX6_reason_16 : decode cX6_reason 16 = .ok (.putfield 64, 3) := by decide +kernel
theorem dX6_reason_19 : decode cX6_reason 19 = .ok (.aload_n 0, 1) := by decide +kernel
theorem dX6_reason_20 : decode cX6_reason 20 = .ok (.getfield 64, 3) := by decide +kernel
theorem dX6_reason_23 : decode cX6_reason 23 = .ok (.ifCond .le 7, 3) := by decide +kernel
theorem dX6_reason_26 : decode cX6_reason 26 = .ok (.iconst 0, 1) := by decide +kernel
theorem dX6_reason_27 : decode cX6_reason 27 = .ok (.goto 18, 3) := by decide +kernel
theorem dX6_reason_30 : decode cX6_reason 30 = .ok (.iload_n 1, 1) := by decide +kernel
theorem dX6_reason_31 : decode cX6_reason 31 = .ok (.ifCond .ne 10, 3) := by decide +kernel
theorem dX6_reason_34 : decode cX6_reason 34 = .ok (.aload_n 0, 1) := by decide +kernel
theorem dX6_reason_35 : decode cX6_reason 35 = .ok (.getfield 67, 3) := by decide +kernel
theorem dX6_reason_38 : decode cX6_reason 38 = .ok (.goto 7, 3) := by decide +kernel
theorem dX6_reason_41 : decode cX6_reason 41 = .ok (.aload_n 0, 1) := by decide +kernel
theorem dX6_reason_42 : decode cX6_reason 42 = .ok (.getfield 70, 3) := by decide +kernel
theorem dX6_reason_45 : decode cX6_reason 45 = .ok (.ireturn, 1) := by decide +kernel
theorem dX6_reasonSample_0 : decode cX6_reasonSample 0 = .ok (.aload_n 0, 1) := by decide +kernel
theorem dX6_reasonSample_1 : decode cX6_reasonSample 1 = .ok (.iconst 0, 1) := by decide +kernel
theorem dX6_reasonSample_2 : decode cX6_reasonSample 2 = .ok (.putfield 64, 3) := by decide +kernel
theorem dX6_reasonSample_5 : decode cX6_reasonSample 5 = .ok (.aload_n 0, 1) := by decide +kernel
theorem dX6_reasonSample_6 : decode cX6_reasonSample 6 = .ok (.getfield 30, 3) := by decide +kernel
theorem dX6_reasonSample_9 : decode cX6_reasonSample 9 = .ok (.ireturn, 1) := by decide +kernel
theorem dX6_reset_0 : decode cX6_reset 0 = .ok (.aload_n 0, 1) := by decide +kernel
theorem dX6_reset_1 : decode cX6_reset 1 = .ok (.iconst 0, 1) := by decide +kernel
theorem dX6_reset_2 : decode cX6_reset 2 = .ok (.putfield 64, 3) := by decide +kernel
theorem dX6_reset_5 : decode cX6_reset 5 = .ok (.aload_n 0, 1) := by decide +kernel
theorem dX6_reset_6 : decode cX6_reset 6 = .ok (.invokevirtual 199, 3) := by decide +kernel
theorem dX6_reset_9 : decode cX6_reset 9 = .ok (.istore_n 1, 1) := by decide +kernel
theorem dX6_reset_10 : decode cX6_reset 10 = .ok (.aload_n 0, 1) := by decide +kernel
theorem dX6_reset_11 : decode cX6_reset 11 = .ok (.invokevirtual 191, 3) := by decide +kernel
theorem dX6_reset_14 : decode cX6_reset 14 = .ok (.iload_n 1, 1) := by decide +kernel
theorem dX6_reset_15 : decode cX6_reset 15 = .ok (.ireturn, 1) := by decide +kernel
theorem dX6_restore_0 : decode cX6_restore 0 = .ok (.aload_n 0, 1) := by decide +kernel
theorem dX6_restore_1 : decode cX6_restore 1 = .ok (.iload_n 1, 1) := by decide +kernel
theorem dX6_restore_2 : decode cX6_restore 2 = .ok (.i2l, 1) := by decide +kernel
theorem dX6_restore_3 : decode cX6_restore 3 = .ok (.lconst 0, 1) := by decide +kernel
theorem dX6_restore_4 : decode cX6_restore 4 = .ok (.lconst 1, 1) := by decide +kernel
theorem dX6_restore_5 : decode cX6_restore 5 = .ok (.invokestatic 84, 3) := by decide +kernel
theorem dX6_restore_8 : decode cX6_restore 8 = .ok (.ifCond .ne 7, 3) := by decide +kernel
theorem dX6_restore_11 : decode cX6_restore 11 = .ok (.iconst 1, 1) := by decide +kernel
theorem dX6_restore_12 : decode cX6_restore 12 = .ok (.goto 17, 3) := by decide +kernel
theorem dX6_restore_15 : decode cX6_restore 15 = .ok (.aload_n 0, 1) := by decide +kernel
theorem dX6_restore_16 : decode cX6_restore 16 = .ok (.getfield 19, 3) := by decide +kernel
theorem dX6_restore_19 : decode cX6_restore 19 = .ok (.iload_n 1, 1) := by decide +kernel
theorem dX6_restore_20 : decode cX6_restore 20 = .ok (.baload, 1) := by decide +kernel
theorem dX6_restore_21 : decode cX6_restore 21 = .ok (.ifCond .eq 7, 3) := by decide +kernel
theorem dX6_restore_28 : decode cX6_restore 28 = .ok (.iconst 2, 1) := by decide +kernel
theorem dX6_restore_29 : decode cX6_restore 29 = .ok (.putfield 64, 3) := by decide +kernel
theorem dX6_restore_32 : decode cX6_restore 32 = .ok (.iconst 0, 1) := by decide +kernel
theorem dX6_restore_33 : decode cX6_restore 33 = .ok (.istore_n 2, 1) := by decide +kernel
theorem dX6_restore_34 : decode cX6_restore 34 = .ok (.aload_n 0, 1) := by decide +kernel
theorem dX6_restore_35 : decode cX6_restore 35 = .ok (.getfield 64, 3) := by decide +kernel
theorem dX6_restore_38 : decode cX6_restore 38 = .ok (.ifCond .ne 34, 3) := by decide +kernel
theorem dX6_restore_72 : decode cX6_restore 72 = .ok (.return_, 1) := by decide +kernel
theorem dX6_sample_0 : decode cX6_sample 0 = .ok (.aload_n 0, 1) := by decide +kernel
theorem dX6_sample_1 : decode cX6_sample 1 = .ok (.aload_n 0, 1) := by decide +kernel
theorem dX6_sample_2 : decode cX6_sample 2 = .ok (.iload_n 1, 1) := by decide +kernel
theorem dX6_sample_3 : decode cX6_sample 3 = .ok (.invokevirtual 205, 3) := by decide +kernel
theorem dX6_sample_6 : decode cX6_sample 6 = .ok (.ifCond .ne 7, 3) := by decide +kernel
theorem dX6_sample_9 : decode cX6_sample 9 = .ok (.iconst 1, 1) := by decide +kernel
theorem dX6_sample_10 : decode cX6_sample 10 = .ok (.goto 20, 3) := by decide +kernel
theorem dX6_sample_13 : decode cX6_sample 13 = .ok (.iload_n 2, 1) := by decide +kernel
theorem dX6_sample_14 : decode cX6_sample 14 = .ok (.i2l, 1) := by decide +kernel
theorem dX6_sample_15 : decode cX6_sample 15 = .ok (.lconst 0, 1) := by decide +kernel
theorem dX6_sample_16 : decode cX6_sample 16 = .ok (.ldc2_w 223, 3) := by decide +kernel
theorem dX6_sample_19 : decode cX6_sample 19 = .ok (.invokestatic 84, 3) := by decide +kernel
theorem dX6_sample_22 : decode cX6_sample 22 = .ok (.ifCond .eq 7, 3) := by decide +kernel
theorem dX6_sample_25 : decode cX6_sample 25 = .ok (.iconst 0, 1) := by decide +kernel
theorem dX6_sample_26 : decode cX6_sample 26 = .ok (.goto 4, 3) := by decide +kernel
theorem dX6_sample_29 : decode cX6_sample 29 = .ok (.iconst 2, 1) := by decide +kernel
theorem dX6_sample_30 : decode cX6_sample 30 = .ok (.putfield 64, 3) := by decide +kernel
theorem dX6_sample_33 : decode cX6_sample 33 = .ok (.aload_n 0, 1) := by decide +kernel
theorem dX6_sample_34 : decode cX6_sample 34 = .ok (.getfield 64, 3) := by decide +kernel
theorem dX6_sample_37 : decode cX6_sample 37 = .ok (.ifCond .le 5, 3) := by decide +kernel
theorem dX6_sample_40 : decode cX6_sample 40 = .ok (.lconst 0, 1) := by decide +kernel
theorem dX6_sample_41 : decode cX6_sample 41 = .ok (.lreturn, 1) := by decide +kernel
theorem dX6_sample_42 : decode cX6_sample 42 = .ok (.iload_n 2, 1) := by decide +kernel
theorem dX6_sample_43 : decode cX6_sample 43 = .ok (.tableswitch 122 0 4 #[33, 41, 49, 63, 86], 33) := by decide +kernel
theorem dX6_sample_76 : decode cX6_sample 76 = .ok (.aload_n 0, 1) := by decide +kernel
theorem dX6_sample_77 : decode cX6_sample 77 = .ok (.getfield 23, 3) := by decide +kernel
theorem dX6_sample_80 : decode cX6_sample 80 = .ok (.iload_n 1, 1) := by decide +kernel
theorem dX6_sample_81 : decode cX6_sample 81 = .ok (.iaload, 1) := by decide +kernel
theorem dX6_sample_82 : decode cX6_sample 82 = .ok (.i2l, 1) := by decide +kernel
theorem dX6_sample_83 : decode cX6_sample 83 = .ok (.lreturn, 1) := by decide +kernel
theorem dX6_sample_84 : decode cX6_sample 84 = .ok (.aload_n 0, 1) := by decide +kernel
theorem dX6_sample_85 : decode cX6_sample 85 = .ok (.getfield 27, 3) := by decide +kernel
theorem dX6_sample_88 : decode cX6_sample 88 = .ok (.iload_n 1, 1) := by decide +kernel
theorem dX6_sample_89 : decode cX6_sample 89 = .ok (.iaload, 1) := by decide +kernel
theorem dX6_sample_90 : decode cX6_sample 90 = .ok (.i2l, 1) := by decide +kernel
theorem dX6_sample_91 : decode cX6_sample 91 = .ok (.lreturn, 1) := by decide +kernel
theorem dX6_sample_92 : decode cX6_sample 92 = .ok (.aload_n 0, 1) := by decide +kernel
theorem dX6_sample_93 : decode cX6_sample 93 = .ok (.iload_n 1, 1) := by decide +kernel
theorem dX6_sample_94 : decode cX6_sample 94 = .ok (.invokevirtual 202, 3) := by decide +kernel
theorem dX6_sample_97 : decode cX6_sample 97 = .ok (.ifCond .eq 7, 3) := by decide +kernel
theorem dX6_sample_100 : decode cX6_sample 100 = .ok (.lconst 1, 1) := by decide +kernel
theorem dX6_sample_101 : decode cX6_sample 101 = .ok (.goto 4, 3) := by decide +kernel
theorem dX6_sample_105 : decode cX6_sample 105 = .ok (.lreturn, 1) := by decide +kernel
theorem dX6_sample_106 : decode cX6_sample 106 = .ok (.aload_n 0, 1) := by decide +kernel
theorem dX6_sample_107 : decode cX6_sample 107 = .ok (.iload_n 1, 1) := by decide +kernel
theorem dX6_sample_108 : decode cX6_sample 108 = .ok (.invokevirtual 202, 3) := by decide +kernel
theorem dX6_sample_111 : decode cX6_sample 111 = .ok (.ifCond .eq 14, 3) := by decide +kernel
theorem dX6_sample_114 : decode cX6_sample 114 = .ok (.aload_n 0, 1) := by decide +kernel
theorem dX6_sample_115 : decode cX6_sample 115 = .ok (.getfield 7, 3) := by decide +kernel
theorem dX6_sample_118 : decode cX6_sample 118 = .ok (.iconst 5, 1) := by decide +kernel
theorem dX6_sample_119 : decode cX6_sample 119 = .ok (.iload_n 1, 1) := by decide +kernel
theorem dX6_sample_120 : decode cX6_sample 120 = .ok (.iadd, 1) := by decide +kernel
theorem dX6_sample_121 : decode cX6_sample 121 = .ok (.laload, 1) := by decide +kernel
theorem dX6_sample_122 : decode cX6_sample 122 = .ok (.goto 6, 3) := by decide +kernel
theorem dX6_sample_128 : decode cX6_sample 128 = .ok (.lreturn, 1) := by decide +kernel
theorem dX6_sample_129 : decode cX6_sample 129 = .ok (.aload_n 0, 1) := by decide +kernel
theorem dX6_sample_130 : decode cX6_sample 130 = .ok (.iload_n 1, 1) := by decide +kernel
theorem dX6_sample_131 : decode cX6_sample 131 = .ok (.invokevirtual 202, 3) := by decide +kernel
theorem dX6_sample_134 : decode cX6_sample 134 = .ok (.ifCond .eq 15, 3) := by decide +kernel
theorem dX6_sample_137 : decode cX6_sample 137 = .ok (.aload_n 0, 1) := by decide +kernel
theorem dX6_sample_138 : decode cX6_sample 138 = .ok (.getfield 7, 3) := by decide +kernel
theorem dX6_sample_141 : decode cX6_sample 141 = .ok (.bipush 53, 2) := by decide +kernel
theorem dX6_sample_143 : decode cX6_sample 143 = .ok (.iload_n 1, 1) := by decide +kernel
theorem dX6_sample_144 : decode cX6_sample 144 = .ok (.iadd, 1) := by decide +kernel
theorem dX6_sample_145 : decode cX6_sample 145 = .ok (.laload, 1) := by decide +kernel
theorem dX6_sample_146 : decode cX6_sample 146 = .ok (.goto 18, 3) := by decide +kernel
theorem dX6_sample_164 : decode cX6_sample 164 = .ok (.lreturn, 1) := by decide +kernel
theorem dX6_sample_165 : decode cX6_sample 165 = .ok (.aload_n 0, 1) := by decide +kernel
theorem dX6_sample_166 : decode cX6_sample 166 = .ok (.getfield 7, 3) := by decide +kernel
theorem dX6_sample_169 : decode cX6_sample 169 = .ok (.bipush 101, 2) := by decide +kernel
theorem dX6_sample_171 : decode cX6_sample 171 = .ok (.iload_n 1, 1) := by decide +kernel
theorem dX6_sample_172 : decode cX6_sample 172 = .ok (.iadd, 1) := by decide +kernel
theorem dX6_sample_173 : decode cX6_sample 173 = .ok (.laload, 1) := by decide +kernel
theorem dX6_sample_174 : decode cX6_sample 174 = .ok (.lreturn, 1) := by decide +kernel
theorem dX6_save_0 : decode cX6_save 0 = .ok (.aload_n 0, 1) := by decide +kernel
theorem dX6_save_1 : decode cX6_save 1 = .ok (.iload_n 1, 1) := by decide +kernel
theorem dX6_save_2 : decode cX6_save 2 = .ok (.i2l, 1) := by decide +kernel
theorem dX6_save_3 : decode cX6_save 3 = .ok (.lconst 0, 1) := by decide +kernel
theorem dX6_save_4 : decode cX6_save 4 = .ok (.lconst 1, 1) := by decide +kernel
theorem dX6_save_5 : decode cX6_save 5 = .ok (.invokestatic 84, 3) := by decide +kernel
theorem dX6_save_8 : decode cX6_save 8 = .ok (.ifCond .eq 7, 3) := by decide +kernel
theorem dX6_save_11 : decode cX6_save 11 = .ok (.iconst 0, 1) := by decide +kernel
theorem dX6_save_12 : decode cX6_save 12 = .ok (.goto 4, 3) := by decide +kernel
theorem dX6_save_15 : decode cX6_save 15 = .ok (.iconst 1, 1) := by decide +kernel
theorem dX6_save_16 : decode cX6_save 16 = .ok (.putfield 64, 3) := by decide +kernel
theorem dX6_save_19 : decode cX6_save 19 = .ok (.iconst 0, 1) := by decide +kernel
theorem dX6_save_20 : decode cX6_save 20 = .ok (.istore_n 2, 1) := by decide +kernel
theorem dX6_save_21 : decode cX6_save 21 = .ok (.aload_n 0, 1) := by decide +kernel
theorem dX6_save_22 : decode cX6_save 22 = .ok (.getfield 64, 3) := by decide +kernel
theorem dX6_save_25 : decode cX6_save 25 = .ok (.ifCond .ne 34, 3) := by decide +kernel
theorem dX6_save_28 : decode cX6_save 28 = .ok (.iload_n 2, 1) := by decide +kernel
theorem dX6_save_29 : decode cX6_save 29 = .ok (.sipush 609, 3) := by decide +kernel
theorem dX6_save_32 : decode cX6_save 32 = .ok (.if_icmp .ge 27, 3) := by decide +kernel
theorem dX6_save_35 : decode cX6_save 35 = .ok (.aload_n 0, 1) := by decide +kernel
theorem dX6_save_36 : decode cX6_save 36 = .ok (.getfield 16, 3) := by decide +kernel
theorem dX6_save_39 : decode cX6_save 39 = .ok (.sipush 609, 3) := by decide +kernel
theorem dX6_save_42 : decode cX6_save 42 = .ok (.iload_n 1, 1) := by decide +kernel
theorem dX6_save_43 : decode cX6_save 43 = .ok (.imul, 1) := by decide +kernel
theorem dX6_save_44 : decode cX6_save 44 = .ok (.iload_n 2, 1) := by decide +kernel
theorem dX6_save_45 : decode cX6_save 45 = .ok (.iadd, 1) := by decide +kernel
theorem dX6_save_46 : decode cX6_save 46 = .ok (.aload_n 0, 1) := by decide +kernel
theorem dX6_save_47 : decode cX6_save 47 = .ok (.getfield 7, 3) := by decide +kernel
theorem dX6_save_50 : decode cX6_save 50 = .ok (.iload_n 2, 1) := by decide +kernel
theorem dX6_save_51 : decode cX6_save 51 = .ok (.laload, 1) := by decide +kernel
theorem dX6_save_52 : decode cX6_save 52 = .ok (.lastore, 1) := by decide +kernel
theorem dX6_save_53 : decode cX6_save 53 = .ok (.iinc 2 1, 3) := by decide +kernel
theorem dX6_save_56 : decode cX6_save 56 = .ok (.goto (-35), 3) := by decide +kernel
theorem dX6_save_59 : decode cX6_save 59 = .ok (.aload_n 0, 1) := by decide +kernel
theorem dX6_save_60 : decode cX6_save 60 = .ok (.getfield 64, 3) := by decide +kernel
theorem dX6_save_63 : decode cX6_save 63 = .ok (.ifCond .ne 10, 3) := by decide +kernel
theorem dX6_save_66 : decode cX6_save 66 = .ok (.aload_n 0, 1) := by decide +kernel
theorem dX6_save_67 : decode cX6_save 67 = .ok (.getfield 19, 3) := by decide +kernel
theorem dX6_save_70 : decode cX6_save 70 = .ok (.iload_n 1, 1) := by decide +kernel
theorem dX6_save_71 : decode cX6_save 71 = .ok (.iconst 1, 1) := by decide +kernel
theorem dX6_save_72 : decode cX6_save 72 = .ok (.bastore, 1) := by decide +kernel
theorem dX6_save_73 : decode cX6_save 73 = .ok (.return_, 1) := by decide +kernel
theorem dX6_set_0 : decode cX6_set 0 = .ok (.aload_n 0, 1) := by decide +kernel
theorem dX6_set_1 : decode cX6_set 1 = .ok (.aload_n 0, 1) := by decide +kernel
theorem dX6_set_2 : decode cX6_set 2 = .ok (.iload_n 1, 1) := by decide +kernel
theorem dX6_set_3 : decode cX6_set 3 = .ok (.invokevirtual 205, 3) := by decide +kernel
theorem dX6_set_6 : decode cX6_set 6 = .ok (.ifCond .ne 7, 3) := by decide +kernel
theorem dX6_set_9 : decode cX6_set 9 = .ok (.iconst 1, 1) := by decide +kernel
theorem dX6_set_10 : decode cX6_set 10 = .ok (.goto 22, 3) := by decide +kernel
theorem dX6_set_13 : decode cX6_set 13 = .ok (.iload_n 2, 1) := by decide +kernel
theorem dX6_set_14 : decode cX6_set 14 = .ok (.i2l, 1) := by decide +kernel
theorem dX6_set_15 : decode cX6_set 15 = .ok (.ldc2_w 290, 3) := by decide +kernel
theorem dX6_set_18 : decode cX6_set 18 = .ok (.ldc2_w 292, 3) := by decide +kernel
theorem dX6_set_21 : decode cX6_set 21 = .ok (.invokestatic 84, 3) := by decide +kernel
theorem dX6_set_24 : decode cX6_set 24 = .ok (.ifCond .eq 7, 3) := by decide +kernel
theorem dX6_set_27 : decode cX6_set 27 = .ok (.iconst 0, 1) := by decide +kernel
theorem dX6_set_28 : decode cX6_set 28 = .ok (.goto 4, 3) := by decide +kernel
theorem dX6_set_31 : decode cX6_set 31 = .ok (.iconst 2, 1) := by decide +kernel
theorem dX6_set_32 : decode cX6_set 32 = .ok (.putfield 64, 3) := by decide +kernel
theorem dX6_set_35 : decode cX6_set 35 = .ok (.aload_n 0, 1) := by decide +kernel
theorem dX6_set_36 : decode cX6_set 36 = .ok (.getfield 64, 3) := by decide +kernel
theorem dX6_set_39 : decode cX6_set 39 = .ok (.ifCond .le 5, 3) := by decide +kernel
theorem dX6_set_42 : decode cX6_set 42 = .ok (.lconst 0, 1) := by decide +kernel
theorem dX6_set_43 : decode cX6_set 43 = .ok (.lreturn, 1) := by decide +kernel
theorem dX6_set_44 : decode cX6_set 44 = .ok (.aload_n 0, 1) := by decide +kernel
theorem dX6_set_45 : decode cX6_set 45 = .ok (.iload_n 1, 1) := by decide +kernel
theorem dX6_set_46 : decode cX6_set 46 = .ok (.invokevirtual 202, 3) := by decide +kernel
theorem dX6_set_49 : decode cX6_set 49 = .ok (.ifCond .ne 14, 3) := by decide +kernel
theorem dX6_set_63 : decode cX6_set 63 = .ok (.aload_n 0, 1) := by decide +kernel
theorem dX6_set_64 : decode cX6_set 64 = .ok (.getfield 7, 3) := by decide +kernel
theorem dX6_set_67 : decode cX6_set 67 = .ok (.iconst 5, 1) := by decide +kernel
theorem dX6_set_68 : decode cX6_set 68 = .ok (.iload_n 1, 1) := by decide +kernel
theorem dX6_set_69 : decode cX6_set 69 = .ok (.iadd, 1) := by decide +kernel
theorem dX6_set_70 : decode cX6_set 70 = .ok (.laload, 1) := by decide +kernel
theorem dX6_set_71 : decode cX6_set 71 = .ok (.lstore_n 3, 1) := by decide +kernel
theorem dX6_set_72 : decode cX6_set 72 = .ok (.aload_n 0, 1) := by decide +kernel
theorem dX6_set_73 : decode cX6_set 73 = .ok (.getfield 7, 3) := by decide +kernel
theorem dX6_set_76 : decode cX6_set 76 = .ok (.iconst 5, 1) := by decide +kernel
theorem dX6_set_77 : decode cX6_set 77 = .ok (.iload_n 1, 1) := by decide +kernel
theorem dX6_set_78 : decode cX6_set 78 = .ok (.iadd, 1) := by decide +kernel
theorem dX6_set_79 : decode cX6_set 79 = .ok (.iload_n 2, 1) := by decide +kernel
theorem dX6_set_80 : decode cX6_set 80 = .ok (.i2l, 1) := by decide +kernel
theorem dX6_set_81 : decode cX6_set 81 = .ok (.lastore, 1) := by decide +kernel
theorem dX6_set_82 : decode cX6_set 82 = .ok (.lload_n 3, 1) := by decide +kernel
theorem dX6_set_83 : decode cX6_set 83 = .ok (.lreturn, 1) := by decide +kernel
theorem dX6_setDetail_0 : decode cX6_setDetail 0 = .ok (.aload_n 0, 1) := by decide +kernel
theorem dX6_setDetail_1 : decode cX6_setDetail 1 = .ok (.aload_n 0, 1) := by decide +kernel
theorem dX6_setDetail_2 : decode cX6_setDetail 2 = .ok (.iload_n 1, 1) := by decide +kernel
theorem dX6_setDetail_3 : decode cX6_setDetail 3 = .ok (.invokevirtual 229, 3) := by decide +kernel
theorem dX6_setDetail_6 : decode cX6_setDetail 6 = .ok (.ifCond .ne 7, 3) := by decide +kernel
theorem dX6_setDetail_9 : decode cX6_setDetail 9 = .ok (.iconst 1, 1) := by decide +kernel
theorem dX6_setDetail_10 : decode cX6_setDetail 10 = .ok (.goto 22, 3) := by decide +kernel
theorem dX6_setDetail_32 : decode cX6_setDetail 32 = .ok (.putfield 64, 3) := by decide +kernel
theorem dX6_setDetail_35 : decode cX6_setDetail 35 = .ok (.aload_n 0, 1) := by decide +kernel
theorem dX6_setDetail_36 : decode cX6_setDetail 36 = .ok (.getfield 64, 3) := by decide +kernel
theorem dX6_setDetail_39 : decode cX6_setDetail 39 = .ok (.ifCond .le 5, 3) := by decide +kernel
theorem dX6_setDetail_42 : decode cX6_setDetail 42 = .ok (.lconst 0, 1) := by decide +kernel
theorem dX6_setDetail_43 : decode cX6_setDetail 43 = .ok (.lreturn, 1) := by decide +kernel
theorem dX6_setPredict_0 : decode cX6_setPredict 0 = .ok (.aload_n 0, 1) := by decide +kernel
theorem dX6_setPredict_1 : decode cX6_setPredict 1 = .ok (.iconst 1, 1) := by decide +kernel
theorem dX6_setPredict_2 : decode cX6_setPredict 2 = .ok (.iload_n 1, 1) := by decide +kernel
theorem dX6_setPredict_3 : decode cX6_setPredict 3 = .ok (.iconst 2, 1) := by decide +kernel
theorem dX6_setPredict_4 : decode cX6_setPredict 4 = .ok (.invokevirtual 286, 3) := by decide +kernel
theorem dX6_setPredict_7 : decode cX6_setPredict 7 = .ok (.ireturn, 1) := by decide +kernel
theorem dX6_setSplit_0 : decode cX6_setSplit 0 = .ok (.aload_n 0, 1) := by decide +kernel
theorem dX6_setSplit_1 : decode cX6_setSplit 1 = .ok (.iconst 0, 1) := by decide +kernel
theorem dX6_setSplit_2 : decode cX6_setSplit 2 = .ok (.iload_n 1, 1) := by decide +kernel
theorem dX6_setSplit_3 : decode cX6_setSplit 3 = .ok (.iconst 2, 1) := by decide +kernel
theorem dX6_setSplit_4 : decode cX6_setSplit 4 = .ok (.invokevirtual 286, 3) := by decide +kernel
theorem dX6_setSplit_7 : decode cX6_setSplit 7 = .ok (.ireturn, 1) := by decide +kernel
theorem dX6_setUpdate_0 : decode cX6_setUpdate 0 = .ok (.aload_n 0, 1) := by decide +kernel
theorem dX6_setUpdate_1 : decode cX6_setUpdate 1 = .ok (.iconst 2, 1) := by decide +kernel
theorem dX6_setUpdate_2 : decode cX6_setUpdate 2 = .ok (.iload_n 1, 1) := by decide +kernel
theorem dX6_setUpdate_3 : decode cX6_setUpdate 3 = .ok (.ifCond .eq 7, 3) := by decide +kernel
theorem dX6_setUpdate_6 : decode cX6_setUpdate 6 = .ok (.iconst 1, 1) := by decide +kernel
theorem dX6_setUpdate_7 : decode cX6_setUpdate 7 = .ok (.goto 4, 3) := by decide +kernel
theorem dX6_setUpdate_10 : decode cX6_setUpdate 10 = .ok (.iconst 0, 1) := by decide +kernel
theorem dX6_setUpdate_11 : decode cX6_setUpdate 11 = .ok (.iconst 1, 1) := by decide +kernel
theorem dX6_setUpdate_12 : decode cX6_setUpdate 12 = .ok (.invokevirtual 286, 3) := by decide +kernel
theorem dX6_setUpdate_15 : decode cX6_setUpdate 15 = .ok (.iconst 1, 1) := by decide +kernel
theorem dX6_setUpdate_16 : decode cX6_setUpdate 16 = .ok (.if_icmp .ne 7, 3) := by decide +kernel
theorem dX6_setUpdate_19 : decode cX6_setUpdate 19 = .ok (.iconst 1, 1) := by decide +kernel
theorem dX6_setUpdate_20 : decode cX6_setUpdate 20 = .ok (.goto 4, 3) := by decide +kernel
theorem dX6_setUpdate_24 : decode cX6_setUpdate 24 = .ok (.ireturn, 1) := by decide +kernel
theorem dX6_sets_0 : decode cX6_sets 0 = .ok (.aload_n 0, 1) := by decide +kernel
theorem dX6_sets_1 : decode cX6_sets 1 = .ok (.iload_n 2, 1) := by decide +kernel
theorem dX6_sets_2 : decode cX6_sets 2 = .ok (.i2l, 1) := by decide +kernel
theorem dX6_sets_3 : decode cX6_sets 3 = .ok (.lconst 0, 1) := by decide +kernel
theorem dX6_sets_4 : decode cX6_sets 4 = .ok (.iload_n 3, 1) := by decide +kernel
theorem dX6_sets_5 : decode cX6_sets 5 = .ok (.i2l, 1) := by decide +kernel
theorem dX6_sets_6 : decode cX6_sets 6 = .ok (.invokestatic 84, 3) := by decide +kernel
theorem dX6_sets_9 : decode cX6_sets 9 = .ok (.ifCond .eq 7, 3) := by decide +kernel
theorem dX6_sets_12 : decode cX6_sets 12 = .ok (.iconst 0, 1) := by decide +kernel
theorem dX6_sets_13 : decode cX6_sets 13 = .ok (.goto 4, 3) := by decide +kernel
theorem dX6_sets_16 : decode cX6_sets 16 = .ok (.iconst 1, 1) := by decide +kernel
theorem dX6_sets_17 : decode cX6_sets 17 = .ok (.putfield 64, 3) := by decide +kernel
theorem dX6_sets_20 : decode cX6_sets 20 = .ok (.aload_n 0, 1) := by decide +kernel
theorem dX6_sets_21 : decode cX6_sets 21 = .ok (.getfield 7, 3) := by decide +kernel
theorem dX6_sets_24 : decode cX6_sets 24 = .ok (.iload_n 1, 1) := by decide +kernel
theorem dX6_sets_25 : decode cX6_sets 25 = .ok (.laload, 1) := by decide +kernel
theorem dX6_sets_26 : decode cX6_sets 26 = .ok (.l2i, 1) := by decide +kernel
theorem dX6_sets_27 : decode cX6_sets 27 = .ok (.istore 4, 2) := by decide +kernel
theorem dX6_sets_29 : decode cX6_sets 29 = .ok (.aload_n 0, 1) := by decide +kernel
theorem dX6_sets_30 : decode cX6_sets 30 = .ok (.getfield 64, 3) := by decide +kernel
theorem dX6_sets_33 : decode cX6_sets 33 = .ok (.ifCond .ne 11, 3) := by decide +kernel
theorem dX6_sets_36 : decode cX6_sets 36 = .ok (.aload_n 0, 1) := by decide +kernel
theorem dX6_sets_37 : decode cX6_sets 37 = .ok (.getfield 7, 3) := by decide +kernel
theorem dX6_sets_40 : decode cX6_sets 40 = .ok (.iload_n 1, 1) := by decide +kernel
theorem dX6_sets_41 : decode cX6_sets 41 = .ok (.iload_n 2, 1) := by decide +kernel
theorem dX6_sets_42 : decode cX6_sets 42 = .ok (.i2l, 1) := by decide +kernel
theorem dX6_sets_43 : decode cX6_sets 43 = .ok (.lastore, 1) := by decide +kernel
theorem dX6_sets_44 : decode cX6_sets 44 = .ok (.iload 4, 2) := by decide +kernel
theorem dX6_sets_46 : decode cX6_sets 46 = .ok (.ireturn, 1) := by decide +kernel
theorem dX6_setting_0 : decode cX6_setting 0 = .ok (.aload_n 0, 1) := by decide +kernel
theorem dX6_setting_1 : decode cX6_setting 1 = .ok (.ldc2_w 138, 3) := by decide +kernel
theorem dX6_setting_4 : decode cX6_setting 4 = .ok (.invokevirtual 117, 3) := by decide +kernel
theorem dX6_setting_7 : decode cX6_setting 7 = .ok (.ifCond .eq 31, 3) := by decide +kernel
theorem dX6_setting_38 : decode cX6_setting 38 = .ok (.aload_n 0, 1) := by decide +kernel
theorem dX6_setting_39 : decode cX6_setting 39 = .ok (.ldc2_w 154, 3) := by decide +kernel
theorem dX6_setting_42 : decode cX6_setting 42 = .ok (.invokevirtual 117, 3) := by decide +kernel
theorem dX6_setting_45 : decode cX6_setting 45 = .ok (.ifCond .eq 31, 3) := by decide +kernel
theorem dX6_setting_76 : decode cX6_setting 76 = .ok (.aload_n 0, 1) := by decide +kernel
theorem dX6_setting_77 : decode cX6_setting 77 = .ok (.ldc2_w 162, 3) := by decide +kernel
theorem dX6_setting_80 : decode cX6_setting 80 = .ok (.invokevirtual 117, 3) := by decide +kernel
theorem dX6_setting_83 : decode cX6_setting 83 = .ok (.ifCond .eq 29, 3) := by decide +kernel
theorem dX6_setting_112 : decode cX6_setting 112 = .ok (.aload_n 0, 1) := by decide +kernel
theorem dX6_setting_113 : decode cX6_setting 113 = .ok (.ldc2_w 168, 3) := by decide +kernel
theorem dX6_setting_116 : decode cX6_setting 116 = .ok (.invokevirtual 117, 3) := by decide +kernel
theorem dX6_setting_119 : decode cX6_setting 119 = .ok (.ifCond .eq 29, 3) := by decide +kernel
theorem dX6_setting_148 : decode cX6_setting 148 = .ok (.iconst 0, 1) := by decide +kernel
theorem dX6_setting_149 : decode cX6_setting 149 = .ok (.ireturn, 1) := by decide +kernel
theorem dX6_stateFails_0 : decode cX6_stateFails 0 = .ok (.aload_n 0, 1) := by decide +kernel
theorem dX6_stateFails_1 : decode cX6_stateFails 1 = .ok (.iload_n 2, 1) := by decide +kernel
theorem dX6_stateFails_2 : decode cX6_stateFails 2 = .ok (.putfield 67, 3) := by decide +kernel
theorem dX6_stateFails_5 : decode cX6_stateFails 5 = .ok (.aload_n 0, 1) := by decide +kernel
theorem dX6_stateFails_6 : decode cX6_stateFails 6 = .ok (.iload_n 3, 1) := by decide +kernel
theorem dX6_stateFails_7 : decode cX6_stateFails 7 = .ok (.putfield 70, 3) := by decide +kernel
theorem dX6_stateFails_10 : decode cX6_stateFails 10 = .ok (.aload_n 0, 1) := by decide +kernel
theorem dX6_stateFails_11 : decode cX6_stateFails 11 = .ok (.iload 4, 2) := by decide +kernel
theorem dX6_stateFails_13 : decode cX6_stateFails 13 = .ok (.putfield 30, 3) := by decide +kernel
theorem dX6_stateFails_16 : decode cX6_stateFails 16 = .ok (.aload_n 0, 1) := by decide +kernel
theorem dX6_stateFails_17 : decode cX6_stateFails 17 = .ok (.iload_n 1, 1) := by decide +kernel
theorem dX6_stateFails_18 : decode cX6_stateFails 18 = .ok (.invokevirtual 73, 3) := by decide +kernel
theorem dX6_stateFails_21 : decode cX6_stateFails 21 = .ok (.ireturn, 1) := by decide +kernel
theorem dX6_step_0 : decode cX6_step 0 = .ok (.aload_n 0, 1) := by decide +kernel
theorem dX6_step_1 : decode cX6_step 1 = .ok (.aload_n 0, 1) := by decide +kernel
theorem dX6_step_2 : decode cX6_step 2 = .ok (.iload_n 1, 1) := by decide +kernel
theorem dX6_step_3 : decode cX6_step 3 = .ok (.invokevirtual 229, 3) := by decide +kernel
theorem dX6_step_6 : decode cX6_step 6 = .ok (.ifCond .ne 7, 3) := by decide +kernel
theorem dX6_step_9 : decode cX6_step 9 = .ok (.iconst 1, 1) := by decide +kernel
theorem dX6_step_10 : decode cX6_step 10 = .ok (.goto 20, 3) := by decide +kernel
theorem dX6_step_30 : decode cX6_step 30 = .ok (.putfield 64, 3) := by decide +kernel
theorem dX6_step_33 : decode cX6_step 33 = .ok (.aload_n 0, 1) := by decide +kernel
theorem dX6_step_34 : decode cX6_step 34 = .ok (.getfield 64, 3) := by decide +kernel
theorem dX6_step_37 : decode cX6_step 37 = .ok (.ifCond .le 7, 3) := by decide +kernel
theorem dX6_step_40 : decode cX6_step 40 = .ok (.lconst 0, 1) := by decide +kernel
theorem dX6_step_41 : decode cX6_step 41 = .ok (.goto 9, 3) := by decide +kernel
theorem dX6_step_50 : decode cX6_step 50 = .ok (.lreturn, 1) := by decide +kernel
theorem dX6_steps_0 : decode cX6_steps 0 = .ok (.aload_n 0, 1) := by decide +kernel
theorem dX6_steps_1 : decode cX6_steps 1 = .ok (.getfield 7, 3) := by decide +kernel
theorem dX6_steps_4 : decode cX6_steps 4 = .ok (.iconst 4, 1) := by decide +kernel
theorem dX6_steps_5 : decode cX6_steps 5 = .ok (.laload, 1) := by decide +kernel
theorem dX6_steps_6 : decode cX6_steps 6 = .ok (.l2i, 1) := by decide +kernel
theorem dX6_steps_7 : decode cX6_steps 7 = .ok (.ireturn, 1) := by decide +kernel
theorem dX6_takesBack_0 : decode cX6_takesBack 0 = .ok (.iconst 0, 1) := by decide +kernel
theorem dX6_takesBack_1 : decode cX6_takesBack 1 = .ok (.istore_n 1, 1) := by decide +kernel
theorem dX6_takesBack_2 : decode cX6_takesBack 2 = .ok (.iload_n 1, 1) := by decide +kernel
theorem dX6_takesBack_3 : decode cX6_takesBack 3 = .ok (.sipush 609, 3) := by decide +kernel
theorem dX6_takesBack_6 : decode cX6_takesBack 6 = .ok (.if_icmp .ge 21, 3) := by decide +kernel
theorem dX6_takesBack_9 : decode cX6_takesBack 9 = .ok (.aload_n 0, 1) := by decide +kernel
theorem dX6_takesBack_10 : decode cX6_takesBack 10 = .ok (.getfield 7, 3) := by decide +kernel
theorem dX6_takesBack_13 : decode cX6_takesBack 13 = .ok (.iload_n 1, 1) := by decide +kernel
theorem dX6_takesBack_14 : decode cX6_takesBack 14 = .ok (.aload_n 0, 1) := by decide +kernel
theorem dX6_takesBack_15 : decode cX6_takesBack 15 = .ok (.getfield 13, 3) := by decide +kernel
theorem dX6_takesBack_18 : decode cX6_takesBack 18 = .ok (.iload_n 1, 1) := by decide +kernel
theorem dX6_takesBack_19 : decode cX6_takesBack 19 = .ok (.laload, 1) := by decide +kernel
theorem dX6_takesBack_20 : decode cX6_takesBack 20 = .ok (.lastore, 1) := by decide +kernel
theorem dX6_takesBack_21 : decode cX6_takesBack 21 = .ok (.iinc 1 1, 3) := by decide +kernel
theorem dX6_takesBack_24 : decode cX6_takesBack 24 = .ok (.goto (-22), 3) := by decide +kernel
theorem dX6_takesBack_27 : decode cX6_takesBack 27 = .ok (.return_, 1) := by decide +kernel
theorem dX6_takesText_0 : decode cX6_takesText 0 = .ok (.aload_n 0, 1) := by decide +kernel
theorem dX6_takesText_1 : decode cX6_takesText 1 = .ok (.aload_n 0, 1) := by decide +kernel
theorem dX6_takesText_2 : decode cX6_takesText 2 = .ok (.getfield 46, 3) := by decide +kernel
theorem dX6_takesText_5 : decode cX6_takesText 5 = .ok (.putfield 185, 3) := by decide +kernel
theorem dX6_takesText_8 : decode cX6_takesText 8 = .ok (.aload_n 0, 1) := by decide +kernel
theorem dX6_takesText_9 : decode cX6_takesText 9 = .ok (.aload_n 0, 1) := by decide +kernel
theorem dX6_takesText_10 : decode cX6_takesText 10 = .ok (.getfield 49, 3) := by decide +kernel
theorem dX6_takesText_13 : decode cX6_takesText 13 = .ok (.putfield 188, 3) := by decide +kernel
theorem dX6_takesText_16 : decode cX6_takesText 16 = .ok (.iconst 0, 1) := by decide +kernel
theorem dX6_takesText_17 : decode cX6_takesText 17 = .ok (.istore_n 1, 1) := by decide +kernel
theorem dX6_takesText_18 : decode cX6_takesText 18 = .ok (.iload_n 1, 1) := by decide +kernel
theorem dX6_takesText_19 : decode cX6_takesText 19 = .ok (.aload_n 0, 1) := by decide +kernel
theorem dX6_takesText_20 : decode cX6_takesText 20 = .ok (.getfield 185, 3) := by decide +kernel
theorem dX6_takesText_23 : decode cX6_takesText 23 = .ok (.if_icmp .ge 33, 3) := by decide +kernel
theorem dX6_takesText_26 : decode cX6_takesText 26 = .ok (.aload_n 0, 1) := by decide +kernel
theorem dX6_takesText_27 : decode cX6_takesText 27 = .ok (.getfield 23, 3) := by decide +kernel
theorem dX6_takesText_30 : decode cX6_takesText 30 = .ok (.iload_n 1, 1) := by decide +kernel
theorem dX6_takesText_31 : decode cX6_takesText 31 = .ok (.aload_n 0, 1) := by decide +kernel
theorem dX6_takesText_32 : decode cX6_takesText 32 = .ok (.getfield 40, 3) := by decide +kernel
theorem dX6_takesText_35 : decode cX6_takesText 35 = .ok (.iload_n 1, 1) := by decide +kernel
theorem dX6_takesText_36 : decode cX6_takesText 36 = .ok (.iaload, 1) := by decide +kernel
theorem dX6_takesText_37 : decode cX6_takesText 37 = .ok (.iastore, 1) := by decide +kernel
theorem dX6_takesText_38 : decode cX6_takesText 38 = .ok (.aload_n 0, 1) := by decide +kernel
theorem dX6_takesText_39 : decode cX6_takesText 39 = .ok (.getfield 27, 3) := by decide +kernel
theorem dX6_takesText_42 : decode cX6_takesText 42 = .ok (.iload_n 1, 1) := by decide +kernel
theorem dX6_takesText_43 : decode cX6_takesText 43 = .ok (.aload_n 0, 1) := by decide +kernel
theorem dX6_takesText_44 : decode cX6_takesText 44 = .ok (.getfield 43, 3) := by decide +kernel
theorem dX6_takesText_47 : decode cX6_takesText 47 = .ok (.iload_n 1, 1) := by decide +kernel
theorem dX6_takesText_48 : decode cX6_takesText 48 = .ok (.iaload, 1) := by decide +kernel
theorem dX6_takesText_49 : decode cX6_takesText 49 = .ok (.iastore, 1) := by decide +kernel
theorem dX6_takesText_50 : decode cX6_takesText 50 = .ok (.iinc 1 1, 3) := by decide +kernel
theorem dX6_takesText_53 : decode cX6_takesText 53 = .ok (.goto (-35), 3) := by decide +kernel
theorem dX6_takesText_56 : decode cX6_takesText 56 = .ok (.aload_n 0, 1) := by decide +kernel
theorem dX6_takesText_57 : decode cX6_takesText 57 = .ok (.getfield 7, 3) := by decide +kernel
theorem dX6_takesText_60 : decode cX6_takesText 60 = .ok (.iconst 0, 1) := by decide +kernel
theorem dX6_takesText_61 : decode cX6_takesText 61 = .ok (.aload_n 0, 1) := by decide +kernel
theorem dX6_takesText_62 : decode cX6_takesText 62 = .ok (.getfield 52, 3) := by decide +kernel
theorem dX6_takesText_65 : decode cX6_takesText 65 = .ok (.i2l, 1) := by decide +kernel
theorem dX6_takesText_66 : decode cX6_takesText 66 = .ok (.lastore, 1) := by decide +kernel
theorem dX6_takesText_67 : decode cX6_takesText 67 = .ok (.aload_n 0, 1) := by decide +kernel
theorem dX6_takesText_68 : decode cX6_takesText 68 = .ok (.getfield 7, 3) := by decide +kernel
theorem dX6_takesText_71 : decode cX6_takesText 71 = .ok (.iconst 1, 1) := by decide +kernel
theorem dX6_takesText_72 : decode cX6_takesText 72 = .ok (.aload_n 0, 1) := by decide +kernel
theorem dX6_takesText_73 : decode cX6_takesText 73 = .ok (.getfield 55, 3) := by decide +kernel
theorem dX6_takesText_76 : decode cX6_takesText 76 = .ok (.i2l, 1) := by decide +kernel
theorem dX6_takesText_77 : decode cX6_takesText 77 = .ok (.lastore, 1) := by decide +kernel
theorem dX6_takesText_78 : decode cX6_takesText 78 = .ok (.aload_n 0, 1) := by decide +kernel
theorem dX6_takesText_79 : decode cX6_takesText 79 = .ok (.getfield 7, 3) := by decide +kernel
theorem dX6_takesText_82 : decode cX6_takesText 82 = .ok (.iconst 2, 1) := by decide +kernel
theorem dX6_takesText_83 : decode cX6_takesText 83 = .ok (.aload_n 0, 1) := by decide +kernel
theorem dX6_takesText_84 : decode cX6_takesText 84 = .ok (.getfield 58, 3) := by decide +kernel
theorem dX6_takesText_87 : decode cX6_takesText 87 = .ok (.i2l, 1) := by decide +kernel
theorem dX6_takesText_88 : decode cX6_takesText 88 = .ok (.lastore, 1) := by decide +kernel
theorem dX6_takesText_89 : decode cX6_takesText 89 = .ok (.aload_n 0, 1) := by decide +kernel
theorem dX6_takesText_90 : decode cX6_takesText 90 = .ok (.invokevirtual 191, 3) := by decide +kernel
theorem dX6_takesText_93 : decode cX6_takesText 93 = .ok (.aload_n 0, 1) := by decide +kernel
theorem dX6_takesText_94 : decode cX6_takesText 94 = .ok (.getfield 19, 3) := by decide +kernel
theorem dX6_takesText_97 : decode cX6_takesText 97 = .ok (.iconst 0, 1) := by decide +kernel
theorem dX6_takesText_98 : decode cX6_takesText 98 = .ok (.iconst 0, 1) := by decide +kernel
theorem dX6_takesText_99 : decode cX6_takesText 99 = .ok (.bastore, 1) := by decide +kernel
theorem dX6_takesText_100 : decode cX6_takesText 100 = .ok (.aload_n 0, 1) := by decide +kernel
theorem dX6_takesText_101 : decode cX6_takesText 101 = .ok (.getfield 19, 3) := by decide +kernel
theorem dX6_takesText_104 : decode cX6_takesText 104 = .ok (.iconst 1, 1) := by decide +kernel
theorem dX6_takesText_105 : decode cX6_takesText 105 = .ok (.iconst 0, 1) := by decide +kernel
theorem dX6_takesText_106 : decode cX6_takesText 106 = .ok (.bastore, 1) := by decide +kernel
theorem dX6_takesText_107 : decode cX6_takesText 107 = .ok (.return_, 1) := by decide +kernel
theorem dX6_threshold_0 : decode cX6_threshold 0 = .ok (.aload_n 0, 1) := by decide +kernel
theorem dX6_threshold_1 : decode cX6_threshold 1 = .ok (.iload_n 1, 1) := by decide +kernel
theorem dX6_threshold_2 : decode cX6_threshold 2 = .ok (.i2l, 1) := by decide +kernel
theorem dX6_threshold_3 : decode cX6_threshold 3 = .ok (.lconst 0, 1) := by decide +kernel
theorem dX6_threshold_4 : decode cX6_threshold 4 = .ok (.ldc2_w 292, 3) := by decide +kernel
theorem dX6_threshold_7 : decode cX6_threshold 7 = .ok (.invokestatic 84, 3) := by decide +kernel
theorem dX6_threshold_10 : decode cX6_threshold 10 = .ok (.ifCond .eq 7, 3) := by decide +kernel
theorem dX6_threshold_13 : decode cX6_threshold 13 = .ok (.iconst 0, 1) := by decide +kernel
theorem dX6_threshold_14 : decode cX6_threshold 14 = .ok (.goto 4, 3) := by decide +kernel
theorem dX6_threshold_17 : decode cX6_threshold 17 = .ok (.iconst 1, 1) := by decide +kernel
theorem dX6_threshold_18 : decode cX6_threshold 18 = .ok (.putfield 64, 3) := by decide +kernel
theorem dX6_threshold_21 : decode cX6_threshold 21 = .ok (.aload_n 0, 1) := by decide +kernel
theorem dX6_threshold_22 : decode cX6_threshold 22 = .ok (.getfield 64, 3) := by decide +kernel
theorem dX6_threshold_25 : decode cX6_threshold 25 = .ok (.ifCond .le 5, 3) := by decide +kernel
theorem dX6_threshold_28 : decode cX6_threshold 28 = .ok (.iconst 0, 1) := by decide +kernel
theorem dX6_threshold_29 : decode cX6_threshold 29 = .ok (.ireturn, 1) := by decide +kernel
theorem dX6_threshold_30 : decode cX6_threshold 30 = .ok (.aload_n 0, 1) := by decide +kernel
theorem dX6_threshold_31 : decode cX6_threshold 31 = .ok (.iload_n 1, 1) := by decide +kernel
theorem dX6_threshold_32 : decode cX6_threshold 32 = .ok (.iload_n 2, 1) := by decide +kernel
theorem dX6_threshold_33 : decode cX6_threshold 33 = .ok (.invokevirtual 316, 3) := by decide +kernel
theorem dX6_threshold_36 : decode cX6_threshold 36 = .ok (.aload_n 0, 1) := by decide +kernel
theorem dX6_threshold_37 : decode cX6_threshold 37 = .ok (.invokevirtual 217, 3) := by decide +kernel
theorem dX6_threshold_40 : decode cX6_threshold 40 = .ok (.ireturn, 1) := by decide +kernel
theorem dX6_thrown_0 : decode cX6_thrown 0 = .ok (.aload_n 0, 1) := by decide +kernel
theorem dX6_thrown_1 : decode cX6_thrown 1 = .ok (.getfield 64, 3) := by decide +kernel
theorem dX6_thrown_4 : decode cX6_thrown 4 = .ok (.ireturn, 1) := by decide +kernel
theorem dX6_truncate_0 : decode cX6_truncate 0 = .ok (.aload_n 0, 1) := by decide +kernel
theorem dX6_truncate_1 : decode cX6_truncate 1 = .ok (.iconst 0, 1) := by decide +kernel
theorem dX6_truncate_2 : decode cX6_truncate 2 = .ok (.putfield 64, 3) := by decide +kernel
theorem dX6_truncate_5 : decode cX6_truncate 5 = .ok (.iload_n 1, 1) := by decide +kernel
theorem dX6_truncate_6 : decode cX6_truncate 6 = .ok (.i2l, 1) := by decide +kernel
theorem dX6_truncate_7 : decode cX6_truncate 7 = .ok (.lconst 0, 1) := by decide +kernel
theorem dX6_truncate_8 : decode cX6_truncate 8 = .ok (.aload_n 0, 1) := by decide +kernel
theorem dX6_truncate_9 : decode cX6_truncate 9 = .ok (.getfield 77, 3) := by decide +kernel
theorem dX6_truncate_12 : decode cX6_truncate 12 = .ok (.i2l, 1) := by decide +kernel
theorem dX6_truncate_13 : decode cX6_truncate 13 = .ok (.invokestatic 84, 3) := by decide +kernel
theorem dX6_truncate_16 : decode cX6_truncate 16 = .ok (.ifCond .ne 9, 3) := by decide +kernel
theorem dX6_truncate_19 : decode cX6_truncate 19 = .ok (.aload_n 0, 1) := by decide +kernel
theorem dX6_truncate_20 : decode cX6_truncate 20 = .ok (.iconst 1, 1) := by decide +kernel
theorem dX6_truncate_21 : decode cX6_truncate 21 = .ok (.invokevirtual 73, 3) := by decide +kernel
theorem dX6_truncate_24 : decode cX6_truncate 24 = .ok (.ireturn, 1) := by decide +kernel
theorem dX6_truncate_25 : decode cX6_truncate 25 = .ok (.aload_n 0, 1) := by decide +kernel
theorem dX6_truncate_26 : decode cX6_truncate 26 = .ok (.iload_n 1, 1) := by decide +kernel
theorem dX6_truncate_27 : decode cX6_truncate 27 = .ok (.putfield 77, 3) := by decide +kernel
theorem dX6_truncate_30 : decode cX6_truncate 30 = .ok (.aload_n 0, 1) := by decide +kernel
theorem dX6_truncate_31 : decode cX6_truncate 31 = .ok (.getfield 77, 3) := by decide +kernel
theorem dX6_truncate_34 : decode cX6_truncate 34 = .ok (.ireturn, 1) := by decide +kernel
theorem dX6_valueAt_0 : decode cX6_valueAt 0 = .ok (.aload_n 0, 1) := by decide +kernel
theorem dX6_valueAt_1 : decode cX6_valueAt 1 = .ok (.iload_n 1, 1) := by decide +kernel
theorem dX6_valueAt_2 : decode cX6_valueAt 2 = .ok (.i2l, 1) := by decide +kernel
theorem dX6_valueAt_3 : decode cX6_valueAt 3 = .ok (.aload_n 0, 1) := by decide +kernel
theorem dX6_valueAt_4 : decode cX6_valueAt 4 = .ok (.getfield 23, 3) := by decide +kernel
theorem dX6_valueAt_7 : decode cX6_valueAt 7 = .ok (.iconst 0, 1) := by decide +kernel
theorem dX6_valueAt_8 : decode cX6_valueAt 8 = .ok (.iaload, 1) := by decide +kernel
theorem dX6_valueAt_9 : decode cX6_valueAt 9 = .ok (.i2l, 1) := by decide +kernel
theorem dX6_valueAt_10 : decode cX6_valueAt 10 = .ok (.aload_n 0, 1) := by decide +kernel
theorem dX6_valueAt_11 : decode cX6_valueAt 11 = .ok (.getfield 23, 3) := by decide +kernel
theorem dX6_valueAt_14 : decode cX6_valueAt 14 = .ok (.aload_n 0, 1) := by decide +kernel
theorem dX6_valueAt_15 : decode cX6_valueAt 15 = .ok (.getfield 185, 3) := by decide +kernel
theorem dX6_valueAt_18 : decode cX6_valueAt 18 = .ok (.iconst 1, 1) := by decide +kernel
theorem dX6_valueAt_19 : decode cX6_valueAt 19 = .ok (.isub, 1) := by decide +kernel
theorem dX6_valueAt_20 : decode cX6_valueAt 20 = .ok (.iaload, 1) := by decide +kernel
theorem dX6_valueAt_21 : decode cX6_valueAt 21 = .ok (.i2l, 1) := by decide +kernel
theorem dX6_valueAt_22 : decode cX6_valueAt 22 = .ok (.invokestatic 84, 3) := by decide +kernel
theorem dX6_valueAt_25 : decode cX6_valueAt 25 = .ok (.ifCond .eq 7, 3) := by decide +kernel
theorem dX6_valueAt_28 : decode cX6_valueAt 28 = .ok (.iconst 0, 1) := by decide +kernel
theorem dX6_valueAt_29 : decode cX6_valueAt 29 = .ok (.goto 4, 3) := by decide +kernel
theorem dX6_valueAt_32 : decode cX6_valueAt 32 = .ok (.iconst 1, 1) := by decide +kernel
theorem dX6_valueAt_33 : decode cX6_valueAt 33 = .ok (.putfield 64, 3) := by decide +kernel
theorem dX6_valueAt_36 : decode cX6_valueAt 36 = .ok (.aload_n 0, 1) := by decide +kernel
theorem dX6_valueAt_37 : decode cX6_valueAt 37 = .ok (.getfield 64, 3) := by decide +kernel
theorem dX6_valueAt_40 : decode cX6_valueAt 40 = .ok (.ifCond .le 5, 3) := by decide +kernel
theorem dX6_valueAt_43 : decode cX6_valueAt 43 = .ok (.lconst 0, 1) := by decide +kernel
theorem dX6_valueAt_44 : decode cX6_valueAt 44 = .ok (.lreturn, 1) := by decide +kernel
theorem dX6_valueAt_45 : decode cX6_valueAt 45 = .ok (.iconst 0, 1) := by decide +kernel
theorem dX6_valueAt_46 : decode cX6_valueAt 46 = .ok (.istore_n 2, 1) := by decide +kernel
theorem dX6_valueAt_47 : decode cX6_valueAt 47 = .ok (.aload_n 0, 1) := by decide +kernel
theorem dX6_valueAt_48 : decode cX6_valueAt 48 = .ok (.iconst 0, 1) := by decide +kernel
theorem dX6_valueAt_49 : decode cX6_valueAt 49 = .ok (.iconst 1, 1) := by decide +kernel
theorem dX6_valueAt_50 : decode cX6_valueAt 50 = .ok (.invokevirtual 225, 3) := by decide +kernel
theorem dX6_valueAt_53 : decode cX6_valueAt 53 = .ok (.istore_n 3, 1) := by decide +kernel
theorem dX6_valueAt_54 : decode cX6_valueAt 54 = .ok (.aload_n 0, 1) := by decide +kernel
theorem dX6_valueAt_55 : decode cX6_valueAt 55 = .ok (.getfield 23, 3) := by decide +kernel
theorem dX6_valueAt_58 : decode cX6_valueAt 58 = .ok (.iload_n 3, 1) := by decide +kernel
theorem dX6_valueAt_59 : decode cX6_valueAt 59 = .ok (.iaload, 1) := by decide +kernel
theorem dX6_valueAt_60 : decode cX6_valueAt 60 = .ok (.iload_n 1, 1) := by decide +kernel
theorem dX6_valueAt_61 : decode cX6_valueAt 61 = .ok (.if_icmp .ge 15, 3) := by decide +kernel
theorem dX6_valueAt_76 : decode cX6_valueAt 76 = .ok (.aload_n 0, 1) := by decide +kernel
theorem dX6_valueAt_77 : decode cX6_valueAt 77 = .ok (.getfield 7, 3) := by decide +kernel
theorem dX6_valueAt_80 : decode cX6_valueAt 80 = .ok (.iconst 5, 1) := by decide +kernel
theorem dX6_valueAt_81 : decode cX6_valueAt 81 = .ok (.iload_n 2, 1) := by decide +kernel
theorem dX6_valueAt_82 : decode cX6_valueAt 82 = .ok (.iadd, 1) := by decide +kernel
theorem dX6_valueAt_83 : decode cX6_valueAt 83 = .ok (.laload, 1) := by decide +kernel
theorem dX6_valueAt_84 : decode cX6_valueAt 84 = .ok (.aload_n 0, 1) := by decide +kernel
theorem dX6_valueAt_85 : decode cX6_valueAt 85 = .ok (.getfield 7, 3) := by decide +kernel
theorem dX6_valueAt_88 : decode cX6_valueAt 88 = .ok (.iconst 5, 1) := by decide +kernel
theorem dX6_valueAt_89 : decode cX6_valueAt 89 = .ok (.iload_n 3, 1) := by decide +kernel
theorem dX6_valueAt_90 : decode cX6_valueAt 90 = .ok (.iadd, 1) := by decide +kernel
theorem dX6_valueAt_91 : decode cX6_valueAt 91 = .ok (.laload, 1) := by decide +kernel
theorem dX6_valueAt_92 : decode cX6_valueAt 92 = .ok (.aload_n 0, 1) := by decide +kernel
theorem dX6_valueAt_93 : decode cX6_valueAt 93 = .ok (.getfield 7, 3) := by decide +kernel
theorem dX6_valueAt_96 : decode cX6_valueAt 96 = .ok (.iconst 5, 1) := by decide +kernel
theorem dX6_valueAt_97 : decode cX6_valueAt 97 = .ok (.iload_n 2, 1) := by decide +kernel
theorem dX6_valueAt_98 : decode cX6_valueAt 98 = .ok (.iadd, 1) := by decide +kernel
theorem dX6_valueAt_99 : decode cX6_valueAt 99 = .ok (.laload, 1) := by decide +kernel
theorem dX6_valueAt_100 : decode cX6_valueAt 100 = .ok (.lsub, 1) := by decide +kernel
theorem dX6_valueAt_101 : decode cX6_valueAt 101 = .ok (.iload_n 1, 1) := by decide +kernel
theorem dX6_valueAt_102 : decode cX6_valueAt 102 = .ok (.aload_n 0, 1) := by decide +kernel
theorem dX6_valueAt_103 : decode cX6_valueAt 103 = .ok (.getfield 23, 3) := by decide +kernel
theorem dX6_valueAt_106 : decode cX6_valueAt 106 = .ok (.iload_n 2, 1) := by decide +kernel
theorem dX6_valueAt_107 : decode cX6_valueAt 107 = .ok (.iaload, 1) := by decide +kernel
theorem dX6_valueAt_108 : decode cX6_valueAt 108 = .ok (.isub, 1) := by decide +kernel
theorem dX6_valueAt_109 : decode cX6_valueAt 109 = .ok (.i2l, 1) := by decide +kernel
theorem dX6_valueAt_110 : decode cX6_valueAt 110 = .ok (.lmul, 1) := by decide +kernel
theorem dX6_valueAt_111 : decode cX6_valueAt 111 = .ok (.aload_n 0, 1) := by decide +kernel
theorem dX6_valueAt_112 : decode cX6_valueAt 112 = .ok (.getfield 23, 3) := by decide +kernel
theorem dX6_valueAt_115 : decode cX6_valueAt 115 = .ok (.iload_n 3, 1) := by decide +kernel
theorem dX6_valueAt_116 : decode cX6_valueAt 116 = .ok (.iaload, 1) := by decide +kernel
theorem dX6_valueAt_117 : decode cX6_valueAt 117 = .ok (.aload_n 0, 1) := by decide +kernel
theorem dX6_valueAt_118 : decode cX6_valueAt 118 = .ok (.getfield 23, 3) := by decide +kernel
theorem dX6_valueAt_121 : decode cX6_valueAt 121 = .ok (.iload_n 2, 1) := by decide +kernel
theorem dX6_valueAt_122 : decode cX6_valueAt 122 = .ok (.iaload, 1) := by decide +kernel
theorem dX6_valueAt_123 : decode cX6_valueAt 123 = .ok (.isub, 1) := by decide +kernel
theorem dX6_valueAt_124 : decode cX6_valueAt 124 = .ok (.i2l, 1) := by decide +kernel
theorem dX6_valueAt_125 : decode cX6_valueAt 125 = .ok (.invokestatic 232, 3) := by decide +kernel
theorem dX6_valueAt_128 : decode cX6_valueAt 128 = .ok (.ladd, 1) := by decide +kernel
theorem dX6_valueAt_129 : decode cX6_valueAt 129 = .ok (.lreturn, 1) := by decide +kernel
theorem dX6_weights_0 : decode cX6_weights 0 = .ok (.lconst 0, 1) := by decide +kernel
theorem dX6_weights_1 : decode cX6_weights 1 = .ok (.lstore_n 1, 1) := by decide +kernel
theorem dX6_weights_2 : decode cX6_weights 2 = .ok (.iconst 0, 1) := by decide +kernel
theorem dX6_weights_3 : decode cX6_weights 3 = .ok (.istore_n 3, 1) := by decide +kernel
theorem dX6_weights_4 : decode cX6_weights 4 = .ok (.iload_n 3, 1) := by decide +kernel
theorem dX6_weights_5 : decode cX6_weights 5 = .ok (.aload_n 0, 1) := by decide +kernel
theorem dX6_weights_6 : decode cX6_weights 6 = .ok (.getfield 185, 3) := by decide +kernel
theorem dX6_weights_9 : decode cX6_weights 9 = .ok (.if_icmp .ge 33, 3) := by decide +kernel
theorem dX6_weights_12 : decode cX6_weights 12 = .ok (.lload_n 1, 1) := by decide +kernel
theorem dX6_weights_13 : decode cX6_weights 13 = .ok (.aload_n 0, 1) := by decide +kernel
theorem dX6_weights_14 : decode cX6_weights 14 = .ok (.iload_n 3, 1) := by decide +kernel
theorem dX6_weights_15 : decode cX6_weights 15 = .ok (.invokevirtual 202, 3) := by decide +kernel
theorem dX6_weights_18 : decode cX6_weights 18 = .ok (.ifCond .eq 15, 3) := by decide +kernel
theorem dX6_weights_21 : decode cX6_weights 21 = .ok (.aload_n 0, 1) := by decide +kernel
theorem dX6_weights_22 : decode cX6_weights 22 = .ok (.getfield 7, 3) := by decide +kernel
theorem dX6_weights_25 : decode cX6_weights 25 = .ok (.bipush 53, 2) := by decide +kernel
theorem dX6_weights_27 : decode cX6_weights 27 = .ok (.iload_n 3, 1) := by decide +kernel
theorem dX6_weights_28 : decode cX6_weights 28 = .ok (.iadd, 1) := by decide +kernel
theorem dX6_weights_29 : decode cX6_weights 29 = .ok (.laload, 1) := by decide +kernel
theorem dX6_weights_30 : decode cX6_weights 30 = .ok (.goto 4, 3) := by decide +kernel
theorem dX6_weights_34 : decode cX6_weights 34 = .ok (.ladd, 1) := by decide +kernel
theorem dX6_weights_35 : decode cX6_weights 35 = .ok (.lstore_n 1, 1) := by decide +kernel
theorem dX6_weights_36 : decode cX6_weights 36 = .ok (.iinc 3 1, 3) := by decide +kernel
theorem dX6_weights_39 : decode cX6_weights 39 = .ok (.goto (-35), 3) := by decide +kernel
theorem dX6_weights_42 : decode cX6_weights 42 = .ok (.lload_n 1, 1) := by decide +kernel
theorem dX6_weights_43 : decode cX6_weights 43 = .ok (.lreturn, 1) := by decide +kernel
theorem dX6_whole_0 : decode cX6_whole 0 = .ok (.aload_n 0, 1) := by decide +kernel
theorem dX6_whole_1 : decode cX6_whole 1 = .ok (.getfield 7, 3) := by decide +kernel
theorem dX6_whole_4 : decode cX6_whole 4 = .ok (.iconst 3, 1) := by decide +kernel
theorem dX6_whole_5 : decode cX6_whole 5 = .ok (.laload, 1) := by decide +kernel
theorem dX6_whole_6 : decode cX6_whole 6 = .ok (.lstore_n 1, 1) := by decide +kernel
theorem dX6_whole_7 : decode cX6_whole 7 = .ok (.iconst 0, 1) := by decide +kernel
theorem dX6_whole_8 : decode cX6_whole 8 = .ok (.istore_n 3, 1) := by decide +kernel
theorem dX6_whole_9 : decode cX6_whole 9 = .ok (.iload_n 3, 1) := by decide +kernel
theorem dX6_whole_10 : decode cX6_whole 10 = .ok (.aload_n 0, 1) := by decide +kernel
theorem dX6_whole_11 : decode cX6_whole 11 = .ok (.getfield 185, 3) := by decide +kernel
theorem dX6_whole_14 : decode cX6_whole 14 = .ok (.if_icmp .ge 42, 3) := by decide +kernel
theorem dX6_whole_17 : decode cX6_whole 17 = .ok (.lload_n 1, 1) := by decide +kernel
theorem dX6_whole_18 : decode cX6_whole 18 = .ok (.aload_n 0, 1) := by decide +kernel
theorem dX6_whole_19 : decode cX6_whole 19 = .ok (.iload_n 3, 1) := by decide +kernel
theorem dX6_whole_20 : decode cX6_whole 20 = .ok (.invokevirtual 202, 3) := by decide +kernel
theorem dX6_whole_23 : decode cX6_whole 23 = .ok (.ifCond .eq 24, 3) := by decide +kernel
theorem dX6_whole_26 : decode cX6_whole 26 = .ok (.aload_n 0, 1) := by decide +kernel
theorem dX6_whole_27 : decode cX6_whole 27 = .ok (.getfield 7, 3) := by decide +kernel
theorem dX6_whole_30 : decode cX6_whole 30 = .ok (.bipush 53, 2) := by decide +kernel
theorem dX6_whole_32 : decode cX6_whole 32 = .ok (.iload_n 3, 1) := by decide +kernel
theorem dX6_whole_33 : decode cX6_whole 33 = .ok (.iadd, 1) := by decide +kernel
theorem dX6_whole_34 : decode cX6_whole 34 = .ok (.laload, 1) := by decide +kernel
theorem dX6_whole_35 : decode cX6_whole 35 = .ok (.aload_n 0, 1) := by decide +kernel
theorem dX6_whole_36 : decode cX6_whole 36 = .ok (.getfield 7, 3) := by decide +kernel
theorem dX6_whole_39 : decode cX6_whole 39 = .ok (.iconst 5, 1) := by decide +kernel
theorem dX6_whole_40 : decode cX6_whole 40 = .ok (.iload_n 3, 1) := by decide +kernel
theorem dX6_whole_41 : decode cX6_whole 41 = .ok (.iadd, 1) := by decide +kernel
theorem dX6_whole_42 : decode cX6_whole 42 = .ok (.laload, 1) := by decide +kernel
theorem dX6_whole_43 : decode cX6_whole 43 = .ok (.lmul, 1) := by decide +kernel
theorem dX6_whole_44 : decode cX6_whole 44 = .ok (.goto 4, 3) := by decide +kernel
theorem dX6_whole_48 : decode cX6_whole 48 = .ok (.ladd, 1) := by decide +kernel
theorem dX6_whole_49 : decode cX6_whole 49 = .ok (.lstore_n 1, 1) := by decide +kernel
theorem dX6_whole_50 : decode cX6_whole 50 = .ok (.iinc 3 1, 3) := by decide +kernel
theorem dX6_whole_53 : decode cX6_whole 53 = .ok (.goto (-44), 3) := by decide +kernel
theorem dX6_whole_56 : decode cX6_whole 56 = .ok (.lload_n 1, 1) := by decide +kernel
theorem dX6_whole_57 : decode cX6_whole 57 = .ok (.lreturn, 1) := by decide +kernel
theorem dX6_word_0 : decode cX6_word 0 = .ok (.lconst 0, 1) := by decide +kernel
theorem dX6_word_1 : decode cX6_word 1 = .ok (.lstore_n 1, 1) := by decide +kernel
theorem dX6_word_2 : decode cX6_word 2 = .ok (.aload_n 0, 1) := by decide +kernel
theorem dX6_word_3 : decode cX6_word 3 = .ok (.invokevirtual 102, 3) := by decide +kernel
theorem dX6_word_6 : decode cX6_word 6 = .ok (.iconst (-1), 1) := by decide +kernel
theorem dX6_word_7 : decode cX6_word 7 = .ok (.if_icmp .ne 10, 3) := by decide +kernel
theorem dX6_word_10 : decode cX6_word 10 = .ok (.aload_n 0, 1) := by decide +kernel
theorem dX6_word_11 : decode cX6_word 11 = .ok (.getfield 88, 3) := by decide +kernel
theorem dX6_word_14 : decode cX6_word 14 = .ok (.goto 7, 3) := by decide +kernel
theorem dX6_word_21 : decode cX6_word 21 = .ok (.istore_n 3, 1) := by decide +kernel
theorem dX6_word_22 : decode cX6_word 22 = .ok (.aload_n 0, 1) := by decide +kernel
theorem dX6_word_23 : decode cX6_word 23 = .ok (.getfield 88, 3) := by decide +kernel
theorem dX6_word_26 : decode cX6_word 26 = .ok (.istore 4, 2) := by decide +kernel
theorem dX6_word_28 : decode cX6_word 28 = .ok (.iload 4, 2) := by decide +kernel
theorem dX6_word_30 : decode cX6_word 30 = .ok (.iload_n 3, 1) := by decide +kernel
theorem dX6_word_31 : decode cX6_word 31 = .ok (.if_icmp .ge 43, 3) := by decide +kernel
theorem dX6_word_74 : decode cX6_word 74 = .ok (.lload_n 1, 1) := by decide +kernel
theorem dX6_word_75 : decode cX6_word 75 = .ok (.lreturn, 1) := by decide +kernel
theorem dX6_wrong_0 : decode cX6_wrong 0 = .ok (.aload_n 0, 1) := by decide +kernel
theorem dX6_wrong_1 : decode cX6_wrong 1 = .ok (.getfield 91, 3) := by decide +kernel
theorem dX6_wrong_4 : decode cX6_wrong 4 = .ok (.ifCond .eq 4, 3) := by decide +kernel
theorem dX6_wrong_8 : decode cX6_wrong 8 = .ok (.aload_n 0, 1) := by decide +kernel
theorem dX6_wrong_9 : decode cX6_wrong 9 = .ok (.iconst 1, 1) := by decide +kernel
theorem dX6_wrong_10 : decode cX6_wrong 10 = .ok (.putfield 91, 3) := by decide +kernel
theorem dX6_wrong_13 : decode cX6_wrong 13 = .ok (.aload_n 0, 1) := by decide +kernel
theorem dX6_wrong_14 : decode cX6_wrong 14 = .ok (.iload_n 1, 1) := by decide +kernel
theorem dX6_wrong_15 : decode cX6_wrong 15 = .ok (.putfield 95, 3) := by decide +kernel
theorem dX6_wrong_18 : decode cX6_wrong 18 = .ok (.aload_n 0, 1) := by decide +kernel
theorem dX6_wrong_19 : decode cX6_wrong 19 = .ok (.iload_n 2, 1) := by decide +kernel
theorem dX6_wrong_20 : decode cX6_wrong 20 = .ok (.putfield 37, 3) := by decide +kernel
theorem dX6_wrong_23 : decode cX6_wrong 23 = .ok (.return_, 1) := by decide +kernel
theorem dX6_zeros_0 : decode cX6_zeros 0 = .ok (.iconst 0, 1) := by decide +kernel
theorem dX6_zeros_1 : decode cX6_zeros 1 = .ok (.istore_n 1, 1) := by decide +kernel
theorem dX6_zeros_2 : decode cX6_zeros 2 = .ok (.iconst 0, 1) := by decide +kernel
theorem dX6_zeros_3 : decode cX6_zeros 3 = .ok (.istore_n 2, 1) := by decide +kernel
theorem dX6_zeros_4 : decode cX6_zeros 4 = .ok (.iload_n 2, 1) := by decide +kernel
theorem dX6_zeros_5 : decode cX6_zeros 5 = .ok (.aload_n 0, 1) := by decide +kernel
theorem dX6_zeros_6 : decode cX6_zeros 6 = .ok (.invokevirtual 199, 3) := by decide +kernel
theorem dX6_zeros_9 : decode cX6_zeros 9 = .ok (.if_icmp .ge 28, 3) := by decide +kernel
theorem dX6_zeros_37 : decode cX6_zeros 37 = .ok (.iload_n 1, 1) := by decide +kernel
theorem dX6_zeros_38 : decode cX6_zeros 38 = .ok (.ireturn, 1) := by decide +kernel
