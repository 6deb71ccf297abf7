set_option maxRecDepth 20000 in
theorem gw0 : Cond.selects RX8 yX8_goesOn yX8_goesOn ∈ GT := gt_of 0 rfl rfl
set_option maxRecDepth 20000 in
theorem gw1 : Cond.selects RX8 yX8_beginsThread yX8_beginsThread ∈ GT := gt_of 1 rfl rfl
set_option maxRecDepth 20000 in
theorem gw2 : Cond.selects RX8 yX8_windsOn yX8_windsOn ∈ GT := gt_of 2 rfl rfl
set_option maxRecDepth 20000 in
theorem gw3 : Cond.selects RX0 yX0_crossed yX0_crossed ∈ GT := gt_of 3 rfl rfl
set_option maxRecDepth 20000 in
theorem gw4 : Cond.selects RX0 yX0_placeAt yX0_placeAt ∈ GT := gt_of 4 rfl rfl
set_option maxRecDepth 20000 in
theorem gw5 : Cond.selects RX0 yX0_crossesOneOf yX0_crossesOneOf ∈ GT := gt_of 5 rfl rfl
set_option maxRecDepth 20000 in
theorem gw6 : Cond.selects RX9 yX9_draw yX9_draw ∈ GT := gt_of 6 rfl rfl
set_option maxRecDepth 20000 in
theorem gw7 : Cond.selects RX9 yX9_join yX9_join ∈ GT := gt_of 7 rfl rfl
set_option maxRecDepth 20000 in
theorem gw8 : Cond.selects RX9 yX9_areJoined yX9_areJoined ∈ GT := gt_of 8 rfl rfl
set_option maxRecDepth 20000 in
theorem gw9 : Cond.selects RX9 yX9_crossedUpwards yX9_crossedUpwards ∈ GT := gt_of 9 rfl rfl
set_option maxRecDepth 20000 in
theorem gw10 : Cond.selects RX9 yX9_groupOf yX9_groupOf ∈ GT := gt_of 10 rfl rfl
set_option maxRecDepth 20000 in
theorem gw11 : Cond.selects RX9 yX9_oddNails yX9_oddNails ∈ GT := gt_of 11 rfl rfl
set_option maxRecDepth 20000 in
theorem gw12 : Cond.selects RX6 yX6_fits yX6_fits ∈ GT := gt_of 12 rfl rfl
set_option maxRecDepth 20000 in
theorem gw13 : Cond.selects RX4 yX4_isAtRest yX4_isAtRest ∈ GT := gt_of 13 rfl rfl
set_option maxRecDepth 20000 in
theorem gw14 : Cond.selects RX1 yX1_countBetween yX1_countBetween ∈ GT := gt_of 14 rfl rfl
set_option maxRecDepth 20000 in
theorem gw15 : Cond.selects RX1 yX1_crossingsAmong yX1_crossingsAmong ∈ GT := gt_of 15 rfl rfl
set_option maxRecDepth 20000 in
theorem gw16 : Cond.selects RX11 yX11_readText yX11_readText ∈ GT := gt_of 16 rfl rfl
set_option maxRecDepth 20000 in
theorem gw17 : Cond.selects RX11 yX11_clearLevel yX11_clearLevel ∈ GT := gt_of 17 rfl rfl
set_option maxRecDepth 20000 in
theorem gw18 : Cond.selects RX11 yX11_readParts yX11_readParts ∈ GT := gt_of 18 rfl rfl
set_option maxRecDepth 20000 in
theorem gw19 : Cond.selects RX11 yX11_mayLay yX11_mayLay ∈ GT := gt_of 19 rfl rfl
set_option maxRecDepth 20000 in
theorem gw20 : Cond.selects RX11 yX11_mayWind yX11_mayWind ∈ GT := gt_of 20 rfl rfl
set_option maxRecDepth 20000 in
theorem gw21 : Cond.selects RX11 yX11_stretchesOf yX11_stretchesOf ∈ GT := gt_of 21 rfl rfl
set_option maxRecDepth 20000 in
theorem gw22 : Cond.selects RX11 yX11_many yX11_many ∈ GT := gt_of 22 rfl rfl
set_option maxRecDepth 20000 in
theorem gw23 : Cond.selects RX11 yX11_laid yX11_laid ∈ GT := gt_of 23 rfl rfl
set_option maxRecDepth 20000 in
theorem gw24 : Cond.selects RX11 yX11_kindOf yX11_kindOf ∈ GT := gt_of 24 rfl rfl
set_option maxRecDepth 20000 in
theorem gw25 : Cond.selects RX11 yX11_crossedBy yX11_crossedBy ∈ GT := gt_of 25 rfl rfl
set_option maxRecDepth 20000 in
theorem gw26 : Cond.selects RX11 yX11_longOf yX11_longOf ∈ GT := gt_of 26 rfl rfl
set_option maxRecDepth 20000 in
theorem gw27 : Cond.selects RX11 yX11_windOn yX11_windOn ∈ GT := gt_of 27 rfl rfl
set_option maxRecDepth 20000 in
theorem gw28 : Cond.selects RX11 yX11_isThread yX11_isThread ∈ GT := gt_of 28 rfl rfl
set_option maxRecDepth 20000 in
theorem gw29 : Cond.selects RX11 yX11_mayGo yX11_mayGo ∈ GT := gt_of 29 rfl rfl
set_option maxRecDepth 20000 in
theorem gw30 : Cond.selects RX11 yX11_canUnwind yX11_canUnwind ∈ GT := gt_of 30 rfl rfl
set_option maxRecDepth 20000 in
theorem gw31 : Cond.selects RX11 yX11_lastOf yX11_lastOf ∈ GT := gt_of 31 rfl rfl
set_option maxRecDepth 20000 in
theorem gw32 : Cond.selects RX11 yX11_overOf yX11_overOf ∈ GT := gt_of 32 rfl rfl
set_option maxRecDepth 20000 in
theorem gw33 : Cond.selects RX11 yX11_aboveOf yX11_aboveOf ∈ GT := gt_of 33 rfl rfl
set_option maxRecDepth 20000 in
theorem gw34 : Cond.selects RX11 yX11_keepAct yX11_keepAct ∈ GT := gt_of 34 rfl rfl
set_option maxRecDepth 20000 in
theorem gw35 : Cond.selects RX11 yX11_unwindOn yX11_unwindOn ∈ GT := gt_of 35 rfl rfl
set_option maxRecDepth 20000 in
theorem gw36 : Cond.selects RX11 yX11_takeOff yX11_takeOff ∈ GT := gt_of 36 rfl rfl
set_option maxRecDepth 20000 in
theorem gw37 : Cond.selects RX11 yX11_cutOn yX11_cutOn ∈ GT := gt_of 37 rfl rfl
set_option maxRecDepth 20000 in
theorem gw38 : Cond.selects RX11 yX11_renameOn yX11_renameOn ∈ GT := gt_of 38 rfl rfl
set_option maxRecDepth 20000 in
theorem gw39 : Cond.selects RX11 yX11_crossesOfTwo yX11_crossesOfTwo ∈ GT := gt_of 39 rfl rfl
set_option maxRecDepth 20000 in
theorem gw40 : Cond.selects RX11 yX11_crossesOf yX11_crossesOf ∈ GT := gt_of 40 rfl rfl
set_option maxRecDepth 20000 in
theorem gw41 : Cond.selects RX11 yX11_partsOn yX11_partsOn ∈ GT := gt_of 41 rfl rfl
set_option maxRecDepth 20000 in
theorem gw42 : Cond.selects RX11 yX11_findLines yX11_findLines ∈ GT := gt_of 42 rfl rfl
set_option maxRecDepth 20000 in
theorem gw43 : Cond.selects RX11 yX11_linesAt yX11_linesAt ∈ GT := gt_of 43 rfl rfl
set_option maxRecDepth 20000 in
theorem gw44 : Cond.selects RX11 yX11_partOf yX11_partOf ∈ GT := gt_of 44 rfl rfl
set_option maxRecDepth 20000 in
theorem gw45 : Cond.selects RX11 yX11_layTrial yX11_layTrial ∈ GT := gt_of 45 rfl rfl
set_option maxRecDepth 20000 in
theorem gw46 : Cond.selects RX11 yX11_tryThing yX11_tryThing ∈ GT := gt_of 46 rfl rfl
set_option maxRecDepth 20000 in
theorem gw47 : Cond.selects RX11 yX11_isRest yX11_isRest ∈ GT := gt_of 47 rfl rfl
set_option maxRecDepth 20000 in
theorem gw48 : Cond.selects RX11 yX11_gain yX11_gain ∈ GT := gt_of 48 rfl rfl
set_option maxRecDepth 20000 in
theorem gw49 : Cond.selects RX11 yX11_choose yX11_choose ∈ GT := gt_of 49 rfl rfl
set_option maxRecDepth 20000 in
theorem gw50 : Cond.selects RX11 yX11_usedNails yX11_usedNails ∈ GT := gt_of 50 rfl rfl
set_option maxRecDepth 20000 in
theorem gw51 : Cond.initialized RL ∈ GT := gt_of 51 rfl rfl
set_option maxRecDepth 20000 in
theorem gw52 : Cond.initialized RX10 ∈ GT := gt_of 52 rfl rfl
set_option maxRecDepth 20000 in
theorem gw53 : Cond.initialized RX8 ∈ GT := gt_of 53 rfl rfl
set_option maxRecDepth 20000 in
theorem gw54 : Cond.initialized RX0 ∈ GT := gt_of 54 rfl rfl
set_option maxRecDepth 20000 in
theorem gw55 : Cond.initialized RX3 ∈ GT := gt_of 55 rfl rfl
set_option maxRecDepth 20000 in
theorem gw56 : Cond.initialized RX7 ∈ GT := gt_of 56 rfl rfl
set_option maxRecDepth 20000 in
theorem gw57 : Cond.initialized RX6 ∈ GT := gt_of 57 rfl rfl
set_option maxRecDepth 20000 in
theorem gw58 : Cond.initialized RX9 ∈ GT := gt_of 58 rfl rfl
set_option maxRecDepth 20000 in
theorem gw59 : Cond.initialized RX4 ∈ GT := gt_of 59 rfl rfl
set_option maxRecDepth 20000 in
theorem gw60 : Cond.initialized RX1 ∈ GT := gt_of 60 rfl rfl
set_option maxRecDepth 20000 in
theorem gw61 : Cond.initialized RX11 ∈ GT := gt_of 61 rfl rfl
set_option maxRecDepth 20000 in
theorem gw62 : Cond.initialized RX5 ∈ GT := gt_of 62 rfl rfl
set_option maxRecDepth 20000 in
theorem gw63 : Cond.initialized RJ9 ∈ GT := gt_of 63 rfl rfl
set_option maxRecDepth 20000 in
theorem gw64 : Cond.initialized RJ10 ∈ GT := gt_of 64 rfl rfl
set_option maxRecDepth 20000 in
theorem gw65 : Cond.initialized RJ13 ∈ GT := gt_of 65 rfl rfl
set_option maxRecDepth 20000 in
theorem gw66 : Cond.initialized RJ6 ∈ GT := gt_of 66 rfl rfl
set_option maxRecDepth 20000 in
theorem gw67 : Cond.initialized RX2 ∈ GT := gt_of 67 rfl rfl
set_option maxRecDepth 20000 in
theorem gw68 : Cond.classLink RL 7 RX10 ∈ GT := gt_of 68 rfl rfl
set_option maxRecDepth 20000 in
theorem gw69 : Cond.instantiable RX10 10 ∈ GT := gt_of 69 rfl rfl
set_option maxRecDepth 20000 in
theorem gw70 : Cond.methodLink RL 9 yX10_init ∈ GT := gt_of 70 rfl rfl
set_option maxRecDepth 20000 in
theorem gw71 : Cond.instanceMethod yX10_init ∈ GT := gt_of 71 rfl rfl
set_option maxRecDepth 20000 in
theorem gw72 : Cond.code yX10_init cX10_init 1 none ∈ GT := gt_of 72 rfl rfl
set_option maxRecDepth 20000 in
theorem gw73 : Cond.methodLink RX10 1 Lib.objectInit ∈ GT := gt_of 73 rfl rfl
set_option maxRecDepth 20000 in
theorem gw74 : Cond.instanceMethod Lib.objectInit ∈ GT := gt_of 74 rfl rfl
set_option maxRecDepth 20000 in
theorem gw75 : Cond.code Lib.objectInit ⟨#[0xb1]⟩ 1 none ∈ GT := gt_of 75 rfl rfl
set_option maxRecDepth 20000 in
theorem gw76 : Cond.classLink RX10 7 RX8 ∈ GT := gt_of 76 rfl rfl
set_option maxRecDepth 20000 in
theorem gw77 : Cond.instantiable RX8 4 ∈ GT := gt_of 77 rfl rfl
set_option maxRecDepth 20000 in
theorem gw78 : Cond.methodLink RX10 9 yX8_init ∈ GT := gt_of 78 rfl rfl
set_option maxRecDepth 20000 in
theorem gw79 : Cond.instanceMethod yX8_init ∈ GT := gt_of 79 rfl rfl
set_option maxRecDepth 20000 in
theorem gw80 : Cond.code yX8_init cX8_init 1 none ∈ GT := gt_of 80 rfl rfl
set_option maxRecDepth 20000 in
theorem gw81 : Cond.methodLink RX8 3 Lib.objectInit ∈ GT := gt_of 81 rfl rfl
set_option maxRecDepth 20000 in
theorem gw82 : Cond.fieldLink RX8 9 "NailThreads$Text" "letters" "[I" ∈ GT := gt_of 82 rfl rfl
set_option maxRecDepth 20000 in
theorem gw83 : Cond.fieldLink RX8 15 "NailThreads$Text" "length" "I" ∈ GT := gt_of 83 rfl rfl
set_option maxRecDepth 20000 in
theorem gw84 : Cond.fieldLink RX8 19 "NailThreads$Text" "place" "I" ∈ GT := gt_of 84 rfl rfl
set_option maxRecDepth 20000 in
theorem gw85 : Cond.fieldLink RX8 22 "NailThreads$Text" "kind" "I" ∈ GT := gt_of 85 rfl rfl
set_option maxRecDepth 20000 in
theorem gw95 : Cond.arrayClass .int ∈ GT := gt_of 95 rfl rfl
set_option maxRecDepth 20000 in
theorem gw96 : Cond.classLink RX10 16 RX0 ∈ GT := gt_of 96 rfl rfl
set_option maxRecDepth 20000 in
theorem gw97 : Cond.instantiable RX0 7 ∈ GT := gt_of 97 rfl rfl
set_option maxRecDepth 20000 in
theorem gw98 : Cond.methodLink RX10 18 yX0_init ∈ GT := gt_of 98 rfl rfl
set_option maxRecDepth 20000 in
theorem gw99 : Cond.instanceMethod yX0_init ∈ GT := gt_of 99 rfl rfl
set_option maxRecDepth 20000 in
theorem gw100 : Cond.code yX0_init cX0_init 1 none ∈ GT := gt_of 100 rfl rfl
set_option maxRecDepth 20000 in
theorem gw101 : Cond.methodLink RX0 3 Lib.objectInit ∈ GT := gt_of 101 rfl rfl
set_option maxRecDepth 20000 in
theorem gw102 : Cond.fieldLink RX0 9 "NailThreads$Board" "kinds" "[I" ∈ GT := gt_of 102 rfl rfl
set_option maxRecDepth 20000 in
theorem gw103 : Cond.fieldLink RX0 15 "NailThreads$Board" "nails" "[I" ∈ GT := gt_of 103 rfl rfl
set_option maxRecDepth 20000 in
theorem gw104 : Cond.fieldLink RX0 18 "NailThreads$Board" "counts" "[I" ∈ GT := gt_of 104 rfl rfl
set_option maxRecDepth 20000 in
theorem gw105 : Cond.fieldLink RX0 21 "NailThreads$Board" "lying" "[I" ∈ GT := gt_of 105 rfl rfl
set_option maxRecDepth 20000 in
theorem gw106 : Cond.fieldLink RX0 24 "NailThreads$Board" "threads" "I" ∈ GT := gt_of 106 rfl rfl
set_option maxRecDepth 20000 in
theorem gw107 : Cond.fieldLink RX0 28 "NailThreads$Board" "size" "I" ∈ GT := gt_of 107 rfl rfl
set_option maxRecDepth 20000 in
theorem gw108 : Cond.fieldLink RX0 31 "NailThreads$Board" "crosses" "I" ∈ GT := gt_of 108 rfl rfl
set_option maxRecDepth 20000 in
theorem gw124 : Cond.classLink RX10 26 RX3 ∈ GT := gt_of 124 rfl rfl
set_option maxRecDepth 20000 in
theorem gw125 : Cond.instantiable RX3 3 ∈ GT := gt_of 125 rfl rfl
set_option maxRecDepth 20000 in
theorem gw126 : Cond.methodLink RX10 28 yX3_init ∈ GT := gt_of 126 rfl rfl
set_option maxRecDepth 20000 in
theorem gw127 : Cond.instanceMethod yX3_init ∈ GT := gt_of 127 rfl rfl
set_option maxRecDepth 20000 in
theorem gw128 : Cond.code yX3_init cX3_init 2 none ∈ GT := gt_of 128 rfl rfl
set_option maxRecDepth 20000 in
theorem gw129 : Cond.methodLink RX3 3 Lib.objectInit ∈ GT := gt_of 129 rfl rfl
set_option maxRecDepth 20000 in
theorem gw130 : Cond.classLink RX3 9 RX0 ∈ GT := gt_of 130 rfl rfl
set_option maxRecDepth 20000 in
theorem gw132 : Cond.methodLink RX3 17 yX0_init ∈ GT := gt_of 132 rfl rfl
set_option maxRecDepth 20000 in
theorem gw133 : Cond.fieldLink RX3 11 "NailThreads$History" "boards" "[LNailThreads$Board;" ∈ GT := gt_of 133 rfl rfl
set_option maxRecDepth 20000 in
theorem gw134 : Cond.fieldLink RX3 18 "NailThreads$History" "first" "I" ∈ GT := gt_of 134 rfl rfl
set_option maxRecDepth 20000 in
theorem gw135 : Cond.fieldLink RX3 22 "NailThreads$History" "size" "I" ∈ GT := gt_of 135 rfl rfl
set_option maxRecDepth 20000 in
theorem gw143 : Cond.classLink RX10 33 RX7 ∈ GT := gt_of 143 rfl rfl
set_option maxRecDepth 20000 in
theorem gw144 : Cond.instantiable RX7 2 ∈ GT := gt_of 144 rfl rfl
set_option maxRecDepth 20000 in
theorem gw145 : Cond.methodLink RX10 35 yX7_init ∈ GT := gt_of 145 rfl rfl
set_option maxRecDepth 20000 in
theorem gw146 : Cond.instanceMethod yX7_init ∈ GT := gt_of 146 rfl rfl
set_option maxRecDepth 20000 in
theorem gw147 : Cond.code yX7_init cX7_init 2 none ∈ GT := gt_of 147 rfl rfl
set_option maxRecDepth 20000 in
theorem gw148 : Cond.methodLink RX7 3 Lib.objectInit ∈ GT := gt_of 148 rfl rfl
set_option maxRecDepth 20000 in
theorem gw149 : Cond.classLink RX7 9 RX0 ∈ GT := gt_of 149 rfl rfl
set_option maxRecDepth 20000 in
theorem gw150 : Cond.methodLink RX7 21 yX0_init ∈ GT := gt_of 150 rfl rfl
set_option maxRecDepth 20000 in
theorem gw151 : Cond.fieldLink RX7 11 "NailThreads$Shelf" "boards" "[LNailThreads$Board;" ∈ GT := gt_of 151 rfl rfl
set_option maxRecDepth 20000 in
theorem gw152 : Cond.fieldLink RX7 17 "NailThreads$Shelf" "isKept" "[Z" ∈ GT := gt_of 152 rfl rfl
set_option maxRecDepth 20000 in
theorem gw158 : Cond.arrayClass .boolean ∈ GT := gt_of 158 rfl rfl
set_option maxRecDepth 20000 in
theorem gw159 : Cond.classLink RX10 40 RX6 ∈ GT := gt_of 159 rfl rfl
set_option maxRecDepth 20000 in
theorem gw160 : Cond.instantiable RX6 4 ∈ GT := gt_of 160 rfl rfl
set_option maxRecDepth 20000 in
theorem gw161 : Cond.methodLink RX10 42 yX6_init ∈ GT := gt_of 161 rfl rfl
set_option maxRecDepth 20000 in
theorem gw162 : Cond.instanceMethod yX6_init ∈ GT := gt_of 162 rfl rfl
set_option maxRecDepth 20000 in
theorem gw163 : Cond.code yX6_init cX6_init 1 none ∈ GT := gt_of 163 rfl rfl
set_option maxRecDepth 20000 in
theorem gw164 : Cond.methodLink RX6 3 Lib.objectInit ∈ GT := gt_of 164 rfl rfl
set_option maxRecDepth 20000 in
theorem gw165 : Cond.fieldLink RX6 9 "NailThreads$Seen" "times" "[I" ∈ GT := gt_of 165 rfl rfl
set_option maxRecDepth 20000 in
theorem gw166 : Cond.fieldLink RX6 15 "NailThreads$Seen" "nails" "[I" ∈ GT := gt_of 166 rfl rfl
set_option maxRecDepth 20000 in
theorem gw167 : Cond.fieldLink RX6 18 "NailThreads$Seen" "was" "[I" ∈ GT := gt_of 167 rfl rfl
set_option maxRecDepth 20000 in
theorem gw168 : Cond.fieldLink RX6 21 "NailThreads$Seen" "size" "I" ∈ GT := gt_of 168 rfl rfl
set_option maxRecDepth 20000 in
theorem gw178 : Cond.classLink RX10 47 RX9 ∈ GT := gt_of 178 rfl rfl
set_option maxRecDepth 20000 in
theorem gw179 : Cond.instantiable RX9 1 ∈ GT := gt_of 179 rfl rfl
set_option maxRecDepth 20000 in
theorem gw180 : Cond.methodLink RX10 49 yX9_init ∈ GT := gt_of 180 rfl rfl
set_option maxRecDepth 20000 in
theorem gw181 : Cond.instanceMethod yX9_init ∈ GT := gt_of 181 rfl rfl
set_option maxRecDepth 20000 in
theorem gw182 : Cond.code yX9_init cX9_init 1 none ∈ GT := gt_of 182 rfl rfl
set_option maxRecDepth 20000 in
theorem gw183 : Cond.methodLink RX9 3 Lib.objectInit ∈ GT := gt_of 183 rfl rfl
set_option maxRecDepth 20000 in
theorem gw184 : Cond.fieldLink RX9 9 "NailThreads$Web" "joined" "[I" ∈ GT := gt_of 184 rfl rfl
set_option maxRecDepth 20000 in
theorem gw188 : Cond.classLink RX10 54 RX4 ∈ GT := gt_of 188 rfl rfl
set_option maxRecDepth 20000 in
theorem gw189 : Cond.instantiable RX4 2 ∈ GT := gt_of 189 rfl rfl
set_option maxRecDepth 20000 in
theorem gw190 : Cond.methodLink RX10 56 yX4_init ∈ GT := gt_of 190 rfl rfl
set_option maxRecDepth 20000 in
theorem gw191 : Cond.instanceMethod yX4_init ∈ GT := gt_of 191 rfl rfl
set_option maxRecDepth 20000 in
theorem gw192 : Cond.code yX4_init cX4_init 1 none ∈ GT := gt_of 192 rfl rfl
set_option maxRecDepth 20000 in
theorem gw193 : Cond.methodLink RX4 3 Lib.objectInit ∈ GT := gt_of 193 rfl rfl
set_option maxRecDepth 20000 in
theorem gw194 : Cond.fieldLink RX4 11 "NailThreads$Rests" "ofOne" "[I" ∈ GT := gt_of 194 rfl rfl
set_option maxRecDepth 20000 in
theorem gw195 : Cond.fieldLink RX4 15 "NailThreads$Rests" "ofOther" "[I" ∈ GT := gt_of 195 rfl rfl
set_option maxRecDepth 20000 in
theorem gw201 : Cond.classLink RX10 61 RX1 ∈ GT := gt_of 201 rfl rfl
set_option maxRecDepth 20000 in
theorem gw202 : Cond.instantiable RX1 1 ∈ GT := gt_of 202 rfl rfl
set_option maxRecDepth 20000 in
theorem gw203 : Cond.methodLink RX10 63 yX1_init ∈ GT := gt_of 203 rfl rfl
set_option maxRecDepth 20000 in
theorem gw204 : Cond.instanceMethod yX1_init ∈ GT := gt_of 204 rfl rfl
set_option maxRecDepth 20000 in
theorem gw205 : Cond.code yX1_init cX1_init 1 none ∈ GT := gt_of 205 rfl rfl
set_option maxRecDepth 20000 in
theorem gw206 : Cond.methodLink RX1 3 Lib.objectInit ∈ GT := gt_of 206 rfl rfl
set_option maxRecDepth 20000 in
theorem gw207 : Cond.fieldLink RX1 9 "NailThreads$Chances" "between" "[I" ∈ GT := gt_of 207 rfl rfl
set_option maxRecDepth 20000 in
theorem gw211 : Cond.fieldLink RX10 10 "NailThreads" "text" "LNailThreads$Text;" ∈ GT := gt_of 211 rfl rfl
set_option maxRecDepth 20000 in
theorem gw212 : Cond.fieldLink RX10 19 "NailThreads" "now" "LNailThreads$Board;" ∈ GT := gt_of 212 rfl rfl
set_option maxRecDepth 20000 in
theorem gw213 : Cond.fieldLink RX10 23 "NailThreads" "trial" "LNailThreads$Board;" ∈ GT := gt_of 213 rfl rfl
set_option maxRecDepth 20000 in
theorem gw214 : Cond.fieldLink RX10 29 "NailThreads" "acts" "LNailThreads$History;" ∈ GT := gt_of 214 rfl rfl
set_option maxRecDepth 20000 in
theorem gw215 : Cond.fieldLink RX10 36 "NailThreads" "shelf" "LNailThreads$Shelf;" ∈ GT := gt_of 215 rfl rfl
set_option maxRecDepth 20000 in
theorem gw216 : Cond.fieldLink RX10 43 "NailThreads" "seen" "LNailThreads$Seen;" ∈ GT := gt_of 216 rfl rfl
set_option maxRecDepth 20000 in
theorem gw217 : Cond.fieldLink RX10 50 "NailThreads" "web" "LNailThreads$Web;" ∈ GT := gt_of 217 rfl rfl
set_option maxRecDepth 20000 in
theorem gw218 : Cond.fieldLink RX10 57 "NailThreads" "pairs" "LNailThreads$Rests;" ∈ GT := gt_of 218 rfl rfl
set_option maxRecDepth 20000 in
theorem gw219 : Cond.fieldLink RX10 64 "NailThreads" "chances" "LNailThreads$Chances;" ∈ GT := gt_of 219 rfl rfl
set_option maxRecDepth 20000 in
theorem gw220 : Cond.fieldLink RX10 68 "NailThreads" "theSeed" "J" ∈ GT := gt_of 220 rfl rfl
set_option maxRecDepth 20000 in
theorem gw242 : Cond.methodLink RL 13 yX10_write ∈ GT := gt_of 242 rfl rfl
set_option maxRecDepth 20000 in
theorem gw243 : Cond.instanceMethod yX10_write ∈ GT := gt_of 243 rfl rfl
set_option maxRecDepth 20000 in
theorem gw244 : Cond.selects RX10 yX10_write yX10_write ∈ GT := gt_of 244 rfl rfl
set_option maxRecDepth 20000 in
theorem gw245 : Cond.code yX10_write cX10_write 2 (some .int) ∈ GT := gt_of 245 rfl rfl
set_option maxRecDepth 20000 in
theorem gw246 : Cond.methodLink RX10 72 yX10_isOutside ∈ GT := gt_of 246 rfl rfl
set_option maxRecDepth 20000 in
theorem gw247 : Cond.static yX10_isOutside ∈ GT := gt_of 247 rfl rfl
set_option maxRecDepth 20000 in
theorem gw248 : Cond.code yX10_isOutside cX10_isOutside 3 (some .boolean) ∈ GT := gt_of 248 rfl rfl
set_option maxRecDepth 20000 in
theorem gw249 : Cond.methodLink RX10 76 yX8_add ∈ GT := gt_of 249 rfl rfl
set_option maxRecDepth 20000 in
theorem gw250 : Cond.instanceMethod yX8_add ∈ GT := gt_of 250 rfl rfl
set_option maxRecDepth 20000 in
theorem gw251 : Cond.selects RX8 yX8_add yX8_add ∈ GT := gt_of 251 rfl rfl
set_option maxRecDepth 20000 in
theorem gw252 : Cond.code yX8_add cX8_add 2 (some .boolean) ∈ GT := gt_of 252 rfl rfl
set_option maxRecDepth 20000 in
theorem gw253 : Cond.methodLink RX10 80 yX8_length ∈ GT := gt_of 253 rfl rfl
set_option maxRecDepth 20000 in
theorem gw254 : Cond.instanceMethod yX8_length ∈ GT := gt_of 254 rfl rfl
set_option maxRecDepth 20000 in
theorem gw255 : Cond.selects RX8 yX8_length yX8_length ∈ GT := gt_of 255 rfl rfl
set_option maxRecDepth 20000 in
theorem gw256 : Cond.code yX8_length cX8_length 1 (some .int) ∈ GT := gt_of 256 rfl rfl
set_option maxRecDepth 20000 in
theorem gw257 : Cond.methodLink RL 18 yX10_wipe ∈ GT := gt_of 257 rfl rfl
set_option maxRecDepth 20000 in
theorem gw258 : Cond.instanceMethod yX10_wipe ∈ GT := gt_of 258 rfl rfl
set_option maxRecDepth 20000 in
theorem gw259 : Cond.selects RX10 yX10_wipe yX10_wipe ∈ GT := gt_of 259 rfl rfl
set_option maxRecDepth 20000 in
theorem gw260 : Cond.code yX10_wipe cX10_wipe 2 (some .int) ∈ GT := gt_of 260 rfl rfl
set_option maxRecDepth 20000 in
theorem gw261 : Cond.methodLink RX10 84 yX8_clear ∈ GT := gt_of 261 rfl rfl
set_option maxRecDepth 20000 in
theorem gw262 : Cond.instanceMethod yX8_clear ∈ GT := gt_of 262 rfl rfl
set_option maxRecDepth 20000 in
theorem gw263 : Cond.selects RX8 yX8_clear yX8_clear ∈ GT := gt_of 263 rfl rfl
set_option maxRecDepth 20000 in
theorem gw264 : Cond.code yX8_clear cX8_clear 1 none ∈ GT := gt_of 264 rfl rfl
set_option maxRecDepth 20000 in
theorem gw265 : Cond.methodLink RL 23 yX10_fault ∈ GT := gt_of 265 rfl rfl
set_option maxRecDepth 20000 in
theorem gw266 : Cond.instanceMethod yX10_fault ∈ GT := gt_of 266 rfl rfl
set_option maxRecDepth 20000 in
theorem gw267 : Cond.selects RX10 yX10_fault yX10_fault ∈ GT := gt_of 267 rfl rfl
set_option maxRecDepth 20000 in
theorem gw268 : Cond.code yX10_fault cX10_fault 1 (some .int) ∈ GT := gt_of 268 rfl rfl
set_option maxRecDepth 20000 in
theorem gw269 : Cond.methodLink RX10 87 yX8_readOnto ∈ GT := gt_of 269 rfl rfl
set_option maxRecDepth 20000 in
theorem gw270 : Cond.instanceMethod yX8_readOnto ∈ GT := gt_of 270 rfl rfl
set_option maxRecDepth 20000 in
theorem gw271 : Cond.selects RX8 yX8_readOnto yX8_readOnto ∈ GT := gt_of 271 rfl rfl
set_option maxRecDepth 20000 in
theorem gw272 : Cond.code yX8_readOnto cX8_readOnto 3 (some .int) ∈ GT := gt_of 272 rfl rfl
set_option maxRecDepth 20000 in
theorem gw273 : Cond.methodLink RX8 25 yX0_clear ∈ GT := gt_of 273 rfl rfl
set_option maxRecDepth 20000 in
theorem gw274 : Cond.instanceMethod yX0_clear ∈ GT := gt_of 274 rfl rfl
set_option maxRecDepth 20000 in
theorem gw275 : Cond.selects RX0 yX0_clear yX0_clear ∈ GT := gt_of 275 rfl rfl
set_option maxRecDepth 20000 in
theorem gw276 : Cond.code yX0_clear cX0_clear 1 none ∈ GT := gt_of 276 rfl rfl
set_option maxRecDepth 20000 in
theorem gw277 : Cond.methodLink RX8 30 yX8_goesOn ∈ GT := gt_of 277 rfl rfl
set_option maxRecDepth 20000 in
theorem gw279 : Cond.instanceMethod yX8_goesOn ∈ GT := gt_of 279 rfl rfl
set_option maxRecDepth 20000 in
theorem gw280 : Cond.code yX8_goesOn cX8_goesOn 3 (some .boolean) ∈ GT := gt_of 280 rfl rfl
set_option maxRecDepth 20000 in
theorem gw281 : Cond.methodLink RX8 34 yX8_beginsThread ∈ GT := gt_of 281 rfl rfl
set_option maxRecDepth 20000 in
theorem gw283 : Cond.instanceMethod yX8_beginsThread ∈ GT := gt_of 283 rfl rfl
set_option maxRecDepth 20000 in
theorem gw284 : Cond.code yX8_beginsThread cX8_beginsThread 3 (some .boolean) ∈ GT := gt_of 284 rfl rfl
set_option maxRecDepth 20000 in
theorem gw285 : Cond.methodLink RX8 52 yX0_threads ∈ GT := gt_of 285 rfl rfl
set_option maxRecDepth 20000 in
theorem gw286 : Cond.instanceMethod yX0_threads ∈ GT := gt_of 286 rfl rfl
set_option maxRecDepth 20000 in
theorem gw287 : Cond.selects RX0 yX0_threads yX0_threads ∈ GT := gt_of 287 rfl rfl
set_option maxRecDepth 20000 in
theorem gw288 : Cond.code yX0_threads cX0_threads 1 (some .int) ∈ GT := gt_of 288 rfl rfl
set_option maxRecDepth 20000 in
theorem gw290 : Cond.methodLink RX8 41 yX8_isNail ∈ GT := gt_of 290 rfl rfl
set_option maxRecDepth 20000 in
theorem gw291 : Cond.static yX8_isNail ∈ GT := gt_of 291 rfl rfl
set_option maxRecDepth 20000 in
theorem gw292 : Cond.code yX8_isNail cX8_isNail 1 (some .boolean) ∈ GT := gt_of 292 rfl rfl
set_option maxRecDepth 20000 in
theorem gw293 : Cond.methodLink RX8 45 yX0_tie ∈ GT := gt_of 293 rfl rfl
set_option maxRecDepth 20000 in
theorem gw294 : Cond.instanceMethod yX0_tie ∈ GT := gt_of 294 rfl rfl
set_option maxRecDepth 20000 in
theorem gw295 : Cond.selects RX0 yX0_tie yX0_tie ∈ GT := gt_of 295 rfl rfl
set_option maxRecDepth 20000 in
theorem gw296 : Cond.code yX0_tie cX0_tie 3 (some .boolean) ∈ GT := gt_of 296 rfl rfl
set_option maxRecDepth 20000 in
theorem gw297 : Cond.methodLink RX8 49 yX8_windsOn ∈ GT := gt_of 297 rfl rfl
set_option maxRecDepth 20000 in
theorem gw299 : Cond.instanceMethod yX8_windsOn ∈ GT := gt_of 299 rfl rfl
set_option maxRecDepth 20000 in
theorem gw300 : Cond.code yX8_windsOn cX8_windsOn 4 (some .boolean) ∈ GT := gt_of 300 rfl rfl
set_option maxRecDepth 20000 in
theorem gw301 : Cond.methodLink RX8 56 yX0_stretchesOf ∈ GT := gt_of 301 rfl rfl
set_option maxRecDepth 20000 in
theorem gw302 : Cond.instanceMethod yX0_stretchesOf ∈ GT := gt_of 302 rfl rfl
set_option maxRecDepth 20000 in
theorem gw303 : Cond.selects RX0 yX0_stretchesOf yX0_stretchesOf ∈ GT := gt_of 303 rfl rfl
set_option maxRecDepth 20000 in
theorem gw304 : Cond.code yX0_stretchesOf cX0_stretchesOf 2 (some .int) ∈ GT := gt_of 304 rfl rfl
set_option maxRecDepth 20000 in
theorem gw305 : Cond.methodLink RX0 40 yX0_hasThread ∈ GT := gt_of 305 rfl rfl
set_option maxRecDepth 20000 in
theorem gw306 : Cond.instanceMethod yX0_hasThread ∈ GT := gt_of 306 rfl rfl
set_option maxRecDepth 20000 in
theorem gw307 : Cond.selects RX0 yX0_hasThread yX0_hasThread ∈ GT := gt_of 307 rfl rfl
set_option maxRecDepth 20000 in
theorem gw308 : Cond.code yX0_hasThread cX0_hasThread 2 (some .boolean) ∈ GT := gt_of 308 rfl rfl
set_option maxRecDepth 20000 in
theorem gw309 : Cond.methodLink RX8 60 yX0_mayWind ∈ GT := gt_of 309 rfl rfl
set_option maxRecDepth 20000 in
theorem gw310 : Cond.instanceMethod yX0_mayWind ∈ GT := gt_of 310 rfl rfl
set_option maxRecDepth 20000 in
theorem gw311 : Cond.selects RX0 yX0_mayWind yX0_mayWind ∈ GT := gt_of 311 rfl rfl
set_option maxRecDepth 20000 in
theorem gw312 : Cond.code yX0_mayWind cX0_mayWind 4 (some .boolean) ∈ GT := gt_of 312 rfl rfl
set_option maxRecDepth 20000 in
theorem gw314 : Cond.methodLink RX0 64 yX5_apart ∈ GT := gt_of 314 rfl rfl
set_option maxRecDepth 20000 in
theorem gw315 : Cond.static yX5_apart ∈ GT := gt_of 315 rfl rfl
set_option maxRecDepth 20000 in
theorem gw316 : Cond.code yX5_apart cX5_apart 3 (some .int) ∈ GT := gt_of 316 rfl rfl
set_option maxRecDepth 20000 in
theorem gw317 : Cond.methodLink RX5 9 yJ9_floorMod_7cf53 ∈ GT := gt_of 317 rfl rfl
set_option maxRecDepth 20000 in
theorem gw318 : Cond.static yJ9_floorMod_7cf53 ∈ GT := gt_of 318 rfl rfl
set_option maxRecDepth 20000 in
theorem gw319 : Cond.code yJ9_floorMod_7cf53 cJ9_floorMod_7cf53 3 (some .int) ∈ GT := gt_of 319 rfl rfl
set_option maxRecDepth 20000 in
theorem gw320 : Cond.methodLink RX5 15 yJ9_min_7cf53 ∈ GT := gt_of 320 rfl rfl
set_option maxRecDepth 20000 in
theorem gw321 : Cond.static yJ9_min_7cf53 ∈ GT := gt_of 321 rfl rfl
set_option maxRecDepth 20000 in
theorem gw322 : Cond.code yJ9_min_7cf53 cJ9_min_7cf53 2 (some .int) ∈ GT := gt_of 322 rfl rfl
set_option maxRecDepth 20000 in
theorem gw323 : Cond.methodLink RX0 67 yX0_crossed ∈ GT := gt_of 323 rfl rfl
set_option maxRecDepth 20000 in
theorem gw325 : Cond.instanceMethod yX0_crossed ∈ GT := gt_of 325 rfl rfl
set_option maxRecDepth 20000 in
theorem gw326 : Cond.code yX0_crossed cX0_crossed 7 (some .int) ∈ GT := gt_of 326 rfl rfl
set_option maxRecDepth 20000 in
theorem gw327 : Cond.methodLink RX0 44 yX0_threadAt ∈ GT := gt_of 327 rfl rfl
set_option maxRecDepth 20000 in
theorem gw328 : Cond.instanceMethod yX0_threadAt ∈ GT := gt_of 328 rfl rfl
set_option maxRecDepth 20000 in
theorem gw329 : Cond.selects RX0 yX0_threadAt yX0_threadAt ∈ GT := gt_of 329 rfl rfl
set_option maxRecDepth 20000 in
theorem gw330 : Cond.code yX0_threadAt cX0_threadAt 2 (some .int) ∈ GT := gt_of 330 rfl rfl
set_option maxRecDepth 20000 in
theorem gw331 : Cond.methodLink RX0 48 yX0_fromAt ∈ GT := gt_of 331 rfl rfl
set_option maxRecDepth 20000 in
theorem gw332 : Cond.instanceMethod yX0_fromAt ∈ GT := gt_of 332 rfl rfl
set_option maxRecDepth 20000 in
theorem gw333 : Cond.selects RX0 yX0_fromAt yX0_fromAt ∈ GT := gt_of 333 rfl rfl
set_option maxRecDepth 20000 in
theorem gw334 : Cond.code yX0_fromAt cX0_fromAt 2 (some .int) ∈ GT := gt_of 334 rfl rfl
set_option maxRecDepth 20000 in
theorem gw335 : Cond.methodLink RX0 51 yX0_toAt ∈ GT := gt_of 335 rfl rfl
set_option maxRecDepth 20000 in
theorem gw336 : Cond.instanceMethod yX0_toAt ∈ GT := gt_of 336 rfl rfl
set_option maxRecDepth 20000 in
theorem gw337 : Cond.selects RX0 yX0_toAt yX0_toAt ∈ GT := gt_of 337 rfl rfl
set_option maxRecDepth 20000 in
theorem gw338 : Cond.code yX0_toAt cX0_toAt 2 (some .int) ∈ GT := gt_of 338 rfl rfl
set_option maxRecDepth 20000 in
theorem gw339 : Cond.methodLink RX0 84 yX5_doCross ∈ GT := gt_of 339 rfl rfl
set_option maxRecDepth 20000 in
theorem gw340 : Cond.static yX5_doCross ∈ GT := gt_of 340 rfl rfl
set_option maxRecDepth 20000 in
theorem gw341 : Cond.code yX5_doCross cX5_doCross 6 (some .boolean) ∈ GT := gt_of 341 rfl rfl
set_option maxRecDepth 20000 in
theorem gw342 : Cond.methodLink RX0 71 yX0_lengthOf ∈ GT := gt_of 342 rfl rfl
set_option maxRecDepth 20000 in
theorem gw343 : Cond.instanceMethod yX0_lengthOf ∈ GT := gt_of 343 rfl rfl
set_option maxRecDepth 20000 in
theorem gw344 : Cond.selects RX0 yX0_lengthOf yX0_lengthOf ∈ GT := gt_of 344 rfl rfl
set_option maxRecDepth 20000 in
theorem gw345 : Cond.code yX0_lengthOf cX0_lengthOf 4 (some .int) ∈ GT := gt_of 345 rfl rfl
set_option maxRecDepth 20000 in
theorem gw346 : Cond.methodLink RX0 54 yX5_lengthBetween ∈ GT := gt_of 346 rfl rfl
set_option maxRecDepth 20000 in
theorem gw347 : Cond.static yX5_lengthBetween ∈ GT := gt_of 347 rfl rfl
set_option maxRecDepth 20000 in
theorem gw348 : Cond.code yX5_lengthBetween cX5_lengthBetween 3 (some .int) ∈ GT := gt_of 348 rfl rfl
set_option maxRecDepth 20000 in
theorem gw349 : Cond.fieldLink RX5 18 "NailThreads$Ring" "LENGTHS" "[I" ∈ GT := gt_of 349 rfl rfl
set_option maxRecDepth 20000 in
theorem gw351 : Cond.methodLink RX8 63 yX0_windOn ∈ GT := gt_of 351 rfl rfl
set_option maxRecDepth 20000 in
theorem gw352 : Cond.instanceMethod yX0_windOn ∈ GT := gt_of 352 rfl rfl
set_option maxRecDepth 20000 in
theorem gw353 : Cond.selects RX0 yX0_windOn yX0_windOn ∈ GT := gt_of 353 rfl rfl
set_option maxRecDepth 20000 in
theorem gw354 : Cond.code yX0_windOn cX0_windOn 5 (some .int) ∈ GT := gt_of 354 rfl rfl
set_option maxRecDepth 20000 in
theorem gw355 : Cond.methodLink RX0 110 yX0_packed ∈ GT := gt_of 355 rfl rfl
set_option maxRecDepth 20000 in
theorem gw356 : Cond.static yX0_packed ∈ GT := gt_of 356 rfl rfl
set_option maxRecDepth 20000 in
theorem gw357 : Cond.code yX0_packed cX0_packed 4 (some .int) ∈ GT := gt_of 357 rfl rfl
set_option maxRecDepth 20000 in
theorem gw358 : Cond.methodLink RL 27 yX10_board ∈ GT := gt_of 358 rfl rfl
set_option maxRecDepth 20000 in
theorem gw359 : Cond.instanceMethod yX10_board ∈ GT := gt_of 359 rfl rfl
set_option maxRecDepth 20000 in
theorem gw360 : Cond.selects RX10 yX10_board yX10_board ∈ GT := gt_of 360 rfl rfl
set_option maxRecDepth 20000 in
theorem gw361 : Cond.code yX10_board cX10_board 1 (some .int) ∈ GT := gt_of 361 rfl rfl
set_option maxRecDepth 20000 in
theorem gw362 : Cond.methodLink RX10 91 yX0_becomeLike ∈ GT := gt_of 362 rfl rfl
set_option maxRecDepth 20000 in
theorem gw363 : Cond.instanceMethod yX0_becomeLike ∈ GT := gt_of 363 rfl rfl
set_option maxRecDepth 20000 in
theorem gw364 : Cond.selects RX0 yX0_becomeLike yX0_becomeLike ∈ GT := gt_of 364 rfl rfl
set_option maxRecDepth 20000 in
theorem gw365 : Cond.code yX0_becomeLike cX0_becomeLike 3 none ∈ GT := gt_of 365 rfl rfl
set_option maxRecDepth 20000 in
theorem gw366 : Cond.methodLink RX0 34 arraycopyName ∈ GT := gt_of 366 rfl rfl
set_option maxRecDepth 20000 in
theorem gw367 : Cond.static arraycopyName ∈ GT := gt_of 367 rfl rfl
set_option maxRecDepth 20000 in
theorem gw368 : Cond.native arraycopyName ∈ GT := gt_of 368 rfl rfl
set_option maxRecDepth 20000 in
theorem gw369 : Cond.methodLink RX10 95 yX3_clear ∈ GT := gt_of 369 rfl rfl
set_option maxRecDepth 20000 in
theorem gw370 : Cond.instanceMethod yX3_clear ∈ GT := gt_of 370 rfl rfl
set_option maxRecDepth 20000 in
theorem gw371 : Cond.selects RX3 yX3_clear yX3_clear ∈ GT := gt_of 371 rfl rfl
set_option maxRecDepth 20000 in
theorem gw372 : Cond.code yX3_clear cX3_clear 1 none ∈ GT := gt_of 372 rfl rfl
set_option maxRecDepth 20000 in
theorem gw373 : Cond.methodLink RX10 96 yX7_clear ∈ GT := gt_of 373 rfl rfl
set_option maxRecDepth 20000 in
theorem gw374 : Cond.instanceMethod yX7_clear ∈ GT := gt_of 374 rfl rfl
set_option maxRecDepth 20000 in
theorem gw375 : Cond.selects RX7 yX7_clear yX7_clear ∈ GT := gt_of 375 rfl rfl
set_option maxRecDepth 20000 in
theorem gw376 : Cond.code yX7_clear cX7_clear 2 none ∈ GT := gt_of 376 rfl rfl
set_option maxRecDepth 20000 in
theorem gw377 : Cond.methodLink RX10 97 yX0_threads ∈ GT := gt_of 377 rfl rfl
set_option maxRecDepth 20000 in
theorem gw378 : Cond.methodLink RL 31 yX10_thread ∈ GT := gt_of 378 rfl rfl
set_option maxRecDepth 20000 in
theorem gw379 : Cond.instanceMethod yX10_thread ∈ GT := gt_of 379 rfl rfl
set_option maxRecDepth 20000 in
theorem gw380 : Cond.selects RX10 yX10_thread yX10_thread ∈ GT := gt_of 380 rfl rfl
set_option maxRecDepth 20000 in
theorem gw381 : Cond.code yX10_thread cX10_thread 3 (some .int) ∈ GT := gt_of 381 rfl rfl
set_option maxRecDepth 20000 in
theorem gw382 : Cond.methodLink RX10 100 yX0_hasThread ∈ GT := gt_of 382 rfl rfl
set_option maxRecDepth 20000 in
theorem gw383 : Cond.methodLink RX10 103 yX0_nailOf ∈ GT := gt_of 383 rfl rfl
set_option maxRecDepth 20000 in
theorem gw384 : Cond.instanceMethod yX0_nailOf ∈ GT := gt_of 384 rfl rfl
set_option maxRecDepth 20000 in
theorem gw385 : Cond.selects RX0 yX0_nailOf yX0_nailOf ∈ GT := gt_of 385 rfl rfl
set_option maxRecDepth 20000 in
theorem gw386 : Cond.code yX0_nailOf cX0_nailOf 2 (some .int) ∈ GT := gt_of 386 rfl rfl
set_option maxRecDepth 20000 in
theorem gw387 : Cond.methodLink RX10 107 yX0_kindOf ∈ GT := gt_of 387 rfl rfl
set_option maxRecDepth 20000 in
theorem gw388 : Cond.instanceMethod yX0_kindOf ∈ GT := gt_of 388 rfl rfl
set_option maxRecDepth 20000 in
theorem gw389 : Cond.selects RX0 yX0_kindOf yX0_kindOf ∈ GT := gt_of 389 rfl rfl
set_option maxRecDepth 20000 in
theorem gw390 : Cond.code yX0_kindOf cX0_kindOf 2 (some .int) ∈ GT := gt_of 390 rfl rfl
set_option maxRecDepth 20000 in
theorem gw391 : Cond.methodLink RX10 110 yX0_stretchesOf ∈ GT := gt_of 391 rfl rfl
set_option maxRecDepth 20000 in
theorem gw392 : Cond.methodLink RX10 113 yX0_lengthOf ∈ GT := gt_of 392 rfl rfl
set_option maxRecDepth 20000 in
theorem gw393 : Cond.methodLink RX10 116 yX0_openNails ∈ GT := gt_of 393 rfl rfl
set_option maxRecDepth 20000 in
theorem gw394 : Cond.instanceMethod yX0_openNails ∈ GT := gt_of 394 rfl rfl
set_option maxRecDepth 20000 in
theorem gw395 : Cond.selects RX0 yX0_openNails yX0_openNails ∈ GT := gt_of 395 rfl rfl
set_option maxRecDepth 20000 in
theorem gw396 : Cond.code yX0_openNails cX0_openNails 4 (some .int) ∈ GT := gt_of 396 rfl rfl
set_option maxRecDepth 20000 in
theorem gw397 : Cond.methodLink RX0 74 yX0_mayWind ∈ GT := gt_of 397 rfl rfl
set_option maxRecDepth 20000 in
theorem gw398 : Cond.methodLink RX10 119 yX0_mayUnwind ∈ GT := gt_of 398 rfl rfl
set_option maxRecDepth 20000 in
theorem gw399 : Cond.instanceMethod yX0_mayUnwind ∈ GT := gt_of 399 rfl rfl
set_option maxRecDepth 20000 in
theorem gw400 : Cond.selects RX0 yX0_mayUnwind yX0_mayUnwind ∈ GT := gt_of 400 rfl rfl
set_option maxRecDepth 20000 in
theorem gw401 : Cond.code yX0_mayUnwind cX0_mayUnwind 3 (some .boolean) ∈ GT := gt_of 401 rfl rfl
set_option maxRecDepth 20000 in
theorem gw402 : Cond.methodLink RX0 104 yX0_lastOf ∈ GT := gt_of 402 rfl rfl
set_option maxRecDepth 20000 in
theorem gw403 : Cond.instanceMethod yX0_lastOf ∈ GT := gt_of 403 rfl rfl
set_option maxRecDepth 20000 in
theorem gw404 : Cond.selects RX0 yX0_lastOf yX0_lastOf ∈ GT := gt_of 404 rfl rfl
set_option maxRecDepth 20000 in
theorem gw405 : Cond.code yX0_lastOf cX0_lastOf 3 (some .int) ∈ GT := gt_of 405 rfl rfl
set_option maxRecDepth 20000 in
theorem gw406 : Cond.methodLink RX0 101 yX0_placeAt ∈ GT := gt_of 406 rfl rfl
set_option maxRecDepth 20000 in
theorem gw408 : Cond.instanceMethod yX0_placeAt ∈ GT := gt_of 408 rfl rfl
set_option maxRecDepth 20000 in
theorem gw409 : Cond.code yX0_placeAt cX0_placeAt 2 (some .int) ∈ GT := gt_of 409 rfl rfl
set_option maxRecDepth 20000 in
theorem gw410 : Cond.methodLink RL 36 yX10_stretch ∈ GT := gt_of 410 rfl rfl
set_option maxRecDepth 20000 in
theorem gw411 : Cond.instanceMethod yX10_stretch ∈ GT := gt_of 411 rfl rfl
set_option maxRecDepth 20000 in
theorem gw412 : Cond.selects RX10 yX10_stretch yX10_stretch ∈ GT := gt_of 412 rfl rfl
set_option maxRecDepth 20000 in
theorem gw413 : Cond.code yX10_stretch cX10_stretch 3 (some .int) ∈ GT := gt_of 413 rfl rfl
set_option maxRecDepth 20000 in
theorem gw414 : Cond.methodLink RX10 122 yX0_hasStretch ∈ GT := gt_of 414 rfl rfl
set_option maxRecDepth 20000 in
theorem gw415 : Cond.instanceMethod yX0_hasStretch ∈ GT := gt_of 415 rfl rfl
set_option maxRecDepth 20000 in
theorem gw416 : Cond.selects RX0 yX0_hasStretch yX0_hasStretch ∈ GT := gt_of 416 rfl rfl
set_option maxRecDepth 20000 in
theorem gw417 : Cond.code yX0_hasStretch cX0_hasStretch 2 (some .boolean) ∈ GT := gt_of 417 rfl rfl
set_option maxRecDepth 20000 in
theorem gw418 : Cond.methodLink RX10 125 yX0_threadAt ∈ GT := gt_of 418 rfl rfl
set_option maxRecDepth 20000 in
theorem gw419 : Cond.methodLink RX10 128 yX0_fromAt ∈ GT := gt_of 419 rfl rfl
set_option maxRecDepth 20000 in
theorem gw420 : Cond.methodLink RX10 131 yX0_toAt ∈ GT := gt_of 420 rfl rfl
set_option maxRecDepth 20000 in
theorem gw421 : Cond.methodLink RX10 134 yX0_crossingFrom ∈ GT := gt_of 421 rfl rfl
set_option maxRecDepth 20000 in
theorem gw422 : Cond.instanceMethod yX0_crossingFrom ∈ GT := gt_of 422 rfl rfl
set_option maxRecDepth 20000 in
theorem gw423 : Cond.selects RX0 yX0_crossingFrom yX0_crossingFrom ∈ GT := gt_of 423 rfl rfl
set_option maxRecDepth 20000 in
theorem gw424 : Cond.code yX0_crossingFrom cX0_crossingFrom 3 (some .int) ∈ GT := gt_of 424 rfl rfl
set_option maxRecDepth 20000 in
theorem gw425 : Cond.methodLink RX10 138 yX0_aboveOf ∈ GT := gt_of 425 rfl rfl
set_option maxRecDepth 20000 in
theorem gw426 : Cond.instanceMethod yX0_aboveOf ∈ GT := gt_of 426 rfl rfl
set_option maxRecDepth 20000 in
theorem gw427 : Cond.selects RX0 yX0_aboveOf yX0_aboveOf ∈ GT := gt_of 427 rfl rfl
set_option maxRecDepth 20000 in
theorem gw428 : Cond.code yX0_aboveOf cX0_aboveOf 5 (some .int) ∈ GT := gt_of 428 rfl rfl
set_option maxRecDepth 20000 in
theorem gw429 : Cond.methodLink RX0 88 yX0_hasStretch ∈ GT := gt_of 429 rfl rfl
set_option maxRecDepth 20000 in
theorem gw430 : Cond.methodLink RX0 91 yX0_crossesOneOf ∈ GT := gt_of 430 rfl rfl
set_option maxRecDepth 20000 in
theorem gw432 : Cond.instanceMethod yX0_crossesOneOf ∈ GT := gt_of 432 rfl rfl
set_option maxRecDepth 20000 in
theorem gw433 : Cond.code yX0_crossesOneOf cX0_crossesOneOf 5 (some .boolean) ∈ GT := gt_of 433 rfl rfl
set_option maxRecDepth 20000 in
theorem gw434 : Cond.methodLink RX0 95 yJ13_bitCount_95d88 ∈ GT := gt_of 434 rfl rfl
set_option maxRecDepth 20000 in
theorem gw435 : Cond.static yJ13_bitCount_95d88 ∈ GT := gt_of 435 rfl rfl
set_option maxRecDepth 20000 in
theorem gw436 : Cond.code yJ13_bitCount_95d88 cJ13_bitCount_95d88 2 (some .int) ∈ GT := gt_of 436 rfl rfl
set_option maxRecDepth 20000 in
theorem gw437 : Cond.constantLong RJ13 314 (6148914691236517205) ∈ GT := gt_of 437 rfl rfl
set_option maxRecDepth 20000 in
theorem gw438 : Cond.constantLong RJ13 316 (3689348814741910323) ∈ GT := gt_of 438 rfl rfl
set_option maxRecDepth 20000 in
theorem gw439 : Cond.constantLong RJ13 318 (1085102592571150095) ∈ GT := gt_of 439 rfl rfl
set_option maxRecDepth 20000 in
theorem gw440 : Cond.methodLink RL 40 yX10_wind ∈ GT := gt_of 440 rfl rfl
set_option maxRecDepth 20000 in
theorem gw441 : Cond.instanceMethod yX10_wind ∈ GT := gt_of 441 rfl rfl
set_option maxRecDepth 20000 in
theorem gw442 : Cond.selects RX10 yX10_wind yX10_wind ∈ GT := gt_of 442 rfl rfl
set_option maxRecDepth 20000 in
theorem gw443 : Cond.code yX10_wind cX10_wind 3 (some .int) ∈ GT := gt_of 443 rfl rfl
set_option maxRecDepth 20000 in
theorem gw444 : Cond.methodLink RX10 141 yX0_mayWind ∈ GT := gt_of 444 rfl rfl
set_option maxRecDepth 20000 in
theorem gw445 : Cond.methodLink RX10 145 yX3_add ∈ GT := gt_of 445 rfl rfl
set_option maxRecDepth 20000 in
theorem gw446 : Cond.instanceMethod yX3_add ∈ GT := gt_of 446 rfl rfl
set_option maxRecDepth 20000 in
theorem gw447 : Cond.selects RX3 yX3_add yX3_add ∈ GT := gt_of 447 rfl rfl
set_option maxRecDepth 20000 in
theorem gw448 : Cond.code yX3_add cX3_add 2 none ∈ GT := gt_of 448 rfl rfl
set_option maxRecDepth 20000 in
theorem gw449 : Cond.methodLink RX3 25 yX0_becomeLike ∈ GT := gt_of 449 rfl rfl
set_option maxRecDepth 20000 in
theorem gw450 : Cond.methodLink RX10 147 yX0_windOn ∈ GT := gt_of 450 rfl rfl
set_option maxRecDepth 20000 in
theorem gw451 : Cond.methodLink RL 44 yX10_unwind ∈ GT := gt_of 451 rfl rfl
set_option maxRecDepth 20000 in
theorem gw452 : Cond.instanceMethod yX10_unwind ∈ GT := gt_of 452 rfl rfl
set_option maxRecDepth 20000 in
theorem gw453 : Cond.selects RX10 yX10_unwind yX10_unwind ∈ GT := gt_of 453 rfl rfl
set_option maxRecDepth 20000 in
theorem gw454 : Cond.code yX10_unwind cX10_unwind 2 (some .int) ∈ GT := gt_of 454 rfl rfl
set_option maxRecDepth 20000 in
theorem gw455 : Cond.methodLink RX10 150 yX0_unwindLast ∈ GT := gt_of 455 rfl rfl
set_option maxRecDepth 20000 in
theorem gw456 : Cond.instanceMethod yX0_unwindLast ∈ GT := gt_of 456 rfl rfl
set_option maxRecDepth 20000 in
theorem gw457 : Cond.selects RX0 yX0_unwindLast yX0_unwindLast ∈ GT := gt_of 457 rfl rfl
set_option maxRecDepth 20000 in
theorem gw458 : Cond.code yX0_unwindLast cX0_unwindLast 4 (some .int) ∈ GT := gt_of 458 rfl rfl
set_option maxRecDepth 20000 in
theorem gw459 : Cond.methodLink RL 48 yX10_cut ∈ GT := gt_of 459 rfl rfl
set_option maxRecDepth 20000 in
theorem gw460 : Cond.instanceMethod yX10_cut ∈ GT := gt_of 460 rfl rfl
set_option maxRecDepth 20000 in
theorem gw461 : Cond.selects RX10 yX10_cut yX10_cut ∈ GT := gt_of 461 rfl rfl
set_option maxRecDepth 20000 in
theorem gw462 : Cond.code yX10_cut cX10_cut 2 (some .int) ∈ GT := gt_of 462 rfl rfl
set_option maxRecDepth 20000 in
theorem gw463 : Cond.methodLink RX10 153 yX0_mayCut ∈ GT := gt_of 463 rfl rfl
set_option maxRecDepth 20000 in
theorem gw464 : Cond.instanceMethod yX0_mayCut ∈ GT := gt_of 464 rfl rfl
set_option maxRecDepth 20000 in
theorem gw465 : Cond.selects RX0 yX0_mayCut yX0_mayCut ∈ GT := gt_of 465 rfl rfl
set_option maxRecDepth 20000 in
theorem gw466 : Cond.code yX0_mayCut cX0_mayCut 2 (some .boolean) ∈ GT := gt_of 466 rfl rfl
set_option maxRecDepth 20000 in
theorem gw467 : Cond.methodLink RX0 119 yX0_stretchesOf ∈ GT := gt_of 467 rfl rfl
set_option maxRecDepth 20000 in
theorem gw468 : Cond.methodLink RX10 156 yX0_cutOff ∈ GT := gt_of 468 rfl rfl
set_option maxRecDepth 20000 in
theorem gw469 : Cond.instanceMethod yX0_cutOff ∈ GT := gt_of 469 rfl rfl
set_option maxRecDepth 20000 in
theorem gw470 : Cond.selects RX0 yX0_cutOff yX0_cutOff ∈ GT := gt_of 470 rfl rfl
set_option maxRecDepth 20000 in
theorem gw471 : Cond.code yX0_cutOff cX0_cutOff 5 (some .int) ∈ GT := gt_of 471 rfl rfl
set_option maxRecDepth 20000 in
theorem gw472 : Cond.methodLink RL 52 yX10_turn ∈ GT := gt_of 472 rfl rfl
set_option maxRecDepth 20000 in
theorem gw473 : Cond.instanceMethod yX10_turn ∈ GT := gt_of 473 rfl rfl
set_option maxRecDepth 20000 in
theorem gw474 : Cond.selects RX10 yX10_turn yX10_turn ∈ GT := gt_of 474 rfl rfl
set_option maxRecDepth 20000 in
theorem gw475 : Cond.code yX10_turn cX10_turn 1 (some .int) ∈ GT := gt_of 475 rfl rfl
set_option maxRecDepth 20000 in
theorem gw476 : Cond.methodLink RX10 159 yX0_turnByOne ∈ GT := gt_of 476 rfl rfl
set_option maxRecDepth 20000 in
theorem gw477 : Cond.instanceMethod yX0_turnByOne ∈ GT := gt_of 477 rfl rfl
set_option maxRecDepth 20000 in
theorem gw478 : Cond.selects RX0 yX0_turnByOne yX0_turnByOne ∈ GT := gt_of 478 rfl rfl
set_option maxRecDepth 20000 in
theorem gw479 : Cond.code yX0_turnByOne cX0_turnByOne 2 none ∈ GT := gt_of 479 rfl rfl
set_option maxRecDepth 20000 in
theorem gw480 : Cond.methodLink RX0 113 yX5_stepsOn ∈ GT := gt_of 480 rfl rfl
set_option maxRecDepth 20000 in
theorem gw481 : Cond.static yX5_stepsOn ∈ GT := gt_of 481 rfl rfl
set_option maxRecDepth 20000 in
theorem gw482 : Cond.code yX5_stepsOn cX5_stepsOn 2 (some .int) ∈ GT := gt_of 482 rfl rfl
set_option maxRecDepth 20000 in
theorem gw483 : Cond.methodLink RX10 162 yX0_size ∈ GT := gt_of 483 rfl rfl
set_option maxRecDepth 20000 in
theorem gw484 : Cond.instanceMethod yX0_size ∈ GT := gt_of 484 rfl rfl
set_option maxRecDepth 20000 in
theorem gw485 : Cond.selects RX0 yX0_size yX0_size ∈ GT := gt_of 485 rfl rfl
set_option maxRecDepth 20000 in
theorem gw486 : Cond.code yX0_size cX0_size 1 (some .int) ∈ GT := gt_of 486 rfl rfl
set_option maxRecDepth 20000 in
theorem gw487 : Cond.methodLink RL 56 yX10_behind ∈ GT := gt_of 487 rfl rfl
set_option maxRecDepth 20000 in
theorem gw488 : Cond.instanceMethod yX10_behind ∈ GT := gt_of 488 rfl rfl
set_option maxRecDepth 20000 in
theorem gw489 : Cond.selects RX10 yX10_behind yX10_behind ∈ GT := gt_of 489 rfl rfl
set_option maxRecDepth 20000 in
theorem gw490 : Cond.code yX10_behind cX10_behind 1 (some .int) ∈ GT := gt_of 490 rfl rfl
set_option maxRecDepth 20000 in
theorem gw491 : Cond.methodLink RX10 165 yX0_turnOver ∈ GT := gt_of 491 rfl rfl
set_option maxRecDepth 20000 in
theorem gw492 : Cond.instanceMethod yX0_turnOver ∈ GT := gt_of 492 rfl rfl
set_option maxRecDepth 20000 in
theorem gw493 : Cond.selects RX0 yX0_turnOver yX0_turnOver ∈ GT := gt_of 493 rfl rfl
set_option maxRecDepth 20000 in
theorem gw494 : Cond.code yX0_turnOver cX0_turnOver 4 none ∈ GT := gt_of 494 rfl rfl
set_option maxRecDepth 20000 in
theorem gw495 : Cond.methodLink RL 60 yX10_undo ∈ GT := gt_of 495 rfl rfl
set_option maxRecDepth 20000 in
theorem gw496 : Cond.instanceMethod yX10_undo ∈ GT := gt_of 496 rfl rfl
set_option maxRecDepth 20000 in
theorem gw497 : Cond.selects RX10 yX10_undo yX10_undo ∈ GT := gt_of 497 rfl rfl
set_option maxRecDepth 20000 in
theorem gw498 : Cond.code yX10_undo cX10_undo 1 (some .int) ∈ GT := gt_of 498 rfl rfl
set_option maxRecDepth 20000 in
theorem gw499 : Cond.methodLink RX10 168 yX3_takeBack ∈ GT := gt_of 499 rfl rfl
set_option maxRecDepth 20000 in
theorem gw500 : Cond.instanceMethod yX3_takeBack ∈ GT := gt_of 500 rfl rfl
set_option maxRecDepth 20000 in
theorem gw501 : Cond.selects RX3 yX3_takeBack yX3_takeBack ∈ GT := gt_of 501 rfl rfl
set_option maxRecDepth 20000 in
theorem gw502 : Cond.code yX3_takeBack cX3_takeBack 2 (some .boolean) ∈ GT := gt_of 502 rfl rfl
set_option maxRecDepth 20000 in
theorem gw503 : Cond.methodLink RX10 172 yX3_size ∈ GT := gt_of 503 rfl rfl
set_option maxRecDepth 20000 in
theorem gw504 : Cond.instanceMethod yX3_size ∈ GT := gt_of 504 rfl rfl
set_option maxRecDepth 20000 in
theorem gw505 : Cond.selects RX3 yX3_size yX3_size ∈ GT := gt_of 505 rfl rfl
set_option maxRecDepth 20000 in
theorem gw506 : Cond.code yX3_size cX3_size 1 (some .int) ∈ GT := gt_of 506 rfl rfl
set_option maxRecDepth 20000 in
theorem gw507 : Cond.methodLink RL 64 yX10_crossings ∈ GT := gt_of 507 rfl rfl
set_option maxRecDepth 20000 in
theorem gw508 : Cond.instanceMethod yX10_crossings ∈ GT := gt_of 508 rfl rfl
set_option maxRecDepth 20000 in
theorem gw509 : Cond.selects RX10 yX10_crossings yX10_crossings ∈ GT := gt_of 509 rfl rfl
set_option maxRecDepth 20000 in
theorem gw510 : Cond.code yX10_crossings cX10_crossings 3 (some .int) ∈ GT := gt_of 510 rfl rfl
set_option maxRecDepth 20000 in
theorem gw511 : Cond.methodLink RX10 173 yX0_crossingsOf ∈ GT := gt_of 511 rfl rfl
set_option maxRecDepth 20000 in
theorem gw512 : Cond.instanceMethod yX0_crossingsOf ∈ GT := gt_of 512 rfl rfl
set_option maxRecDepth 20000 in
theorem gw513 : Cond.selects RX0 yX0_crossingsOf yX0_crossingsOf ∈ GT := gt_of 513 rfl rfl
set_option maxRecDepth 20000 in
theorem gw514 : Cond.code yX0_crossingsOf cX0_crossingsOf 5 (some .int) ∈ GT := gt_of 514 rfl rfl
set_option maxRecDepth 20000 in
theorem gw515 : Cond.methodLink RL 68 yX10_parts ∈ GT := gt_of 515 rfl rfl
set_option maxRecDepth 20000 in
theorem gw516 : Cond.instanceMethod yX10_parts ∈ GT := gt_of 516 rfl rfl
set_option maxRecDepth 20000 in
theorem gw517 : Cond.selects RX10 yX10_parts yX10_parts ∈ GT := gt_of 517 rfl rfl
set_option maxRecDepth 20000 in
theorem gw518 : Cond.code yX10_parts cX10_parts 1 (some .int) ∈ GT := gt_of 518 rfl rfl
set_option maxRecDepth 20000 in
theorem gw519 : Cond.methodLink RX10 176 yX9_partsOf ∈ GT := gt_of 519 rfl rfl
set_option maxRecDepth 20000 in
theorem gw520 : Cond.instanceMethod yX9_partsOf ∈ GT := gt_of 520 rfl rfl
set_option maxRecDepth 20000 in
theorem gw521 : Cond.selects RX9 yX9_partsOf yX9_partsOf ∈ GT := gt_of 521 rfl rfl
set_option maxRecDepth 20000 in
theorem gw522 : Cond.code yX9_partsOf cX9_partsOf 5 (some .int) ∈ GT := gt_of 522 rfl rfl
set_option maxRecDepth 20000 in
theorem gw523 : Cond.methodLink RX9 36 yX9_draw ∈ GT := gt_of 523 rfl rfl
set_option maxRecDepth 20000 in
theorem gw525 : Cond.instanceMethod yX9_draw ∈ GT := gt_of 525 rfl rfl
set_option maxRecDepth 20000 in
theorem gw526 : Cond.code yX9_draw cX9_draw 3 none ∈ GT := gt_of 526 rfl rfl
set_option maxRecDepth 20000 in
theorem gw527 : Cond.methodLink RX9 15 yX0_size ∈ GT := gt_of 527 rfl rfl
set_option maxRecDepth 20000 in
theorem gw528 : Cond.methodLink RX9 21 yX0_fromAt ∈ GT := gt_of 528 rfl rfl
set_option maxRecDepth 20000 in
theorem gw529 : Cond.methodLink RX9 25 yX0_toAt ∈ GT := gt_of 529 rfl rfl
set_option maxRecDepth 20000 in
theorem gw530 : Cond.methodLink RX9 28 yX9_join ∈ GT := gt_of 530 rfl rfl
set_option maxRecDepth 20000 in
theorem gw532 : Cond.instanceMethod yX9_join ∈ GT := gt_of 532 rfl rfl
set_option maxRecDepth 20000 in
theorem gw533 : Cond.code yX9_join cX9_join 3 none ∈ GT := gt_of 533 rfl rfl
set_option maxRecDepth 20000 in
theorem gw535 : Cond.methodLink RX9 40 yX9_areJoined ∈ GT := gt_of 535 rfl rfl
set_option maxRecDepth 20000 in
theorem gw537 : Cond.instanceMethod yX9_areJoined ∈ GT := gt_of 537 rfl rfl
set_option maxRecDepth 20000 in
theorem gw538 : Cond.code yX9_areJoined cX9_areJoined 3 (some .boolean) ∈ GT := gt_of 538 rfl rfl
set_option maxRecDepth 20000 in
theorem gw539 : Cond.methodLink RX9 44 yX9_crossedUpwards ∈ GT := gt_of 539 rfl rfl
set_option maxRecDepth 20000 in
theorem gw541 : Cond.instanceMethod yX9_crossedUpwards ∈ GT := gt_of 541 rfl rfl
set_option maxRecDepth 20000 in
theorem gw542 : Cond.code yX9_crossedUpwards cX9_crossedUpwards 5 (some .int) ∈ GT := gt_of 542 rfl rfl
set_option maxRecDepth 20000 in
theorem gw543 : Cond.methodLink RX9 48 yJ6_bitCount_0f7a4 ∈ GT := gt_of 543 rfl rfl
set_option maxRecDepth 20000 in
theorem gw544 : Cond.static yJ6_bitCount_0f7a4 ∈ GT := gt_of 544 rfl rfl
set_option maxRecDepth 20000 in
theorem gw545 : Cond.code yJ6_bitCount_0f7a4 cJ6_bitCount_0f7a4 1 (some .int) ∈ GT := gt_of 545 rfl rfl
set_option maxRecDepth 20000 in
theorem gw546 : Cond.constant RJ6 265 (1431655765) ∈ GT := gt_of 546 rfl rfl
set_option maxRecDepth 20000 in
theorem gw547 : Cond.constant RJ6 266 (858993459) ∈ GT := gt_of 547 rfl rfl
set_option maxRecDepth 20000 in
theorem gw548 : Cond.constant RJ6 267 (252645135) ∈ GT := gt_of 548 rfl rfl
set_option maxRecDepth 20000 in
theorem gw549 : Cond.methodLink RL 72 yX10_strokes ∈ GT := gt_of 549 rfl rfl
set_option maxRecDepth 20000 in
theorem gw550 : Cond.instanceMethod yX10_strokes ∈ GT := gt_of 550 rfl rfl
set_option maxRecDepth 20000 in
theorem gw551 : Cond.selects RX10 yX10_strokes yX10_strokes ∈ GT := gt_of 551 rfl rfl
set_option maxRecDepth 20000 in
theorem gw552 : Cond.code yX10_strokes cX10_strokes 1 (some .int) ∈ GT := gt_of 552 rfl rfl
set_option maxRecDepth 20000 in
theorem gw553 : Cond.methodLink RX10 179 yX9_strokesOf ∈ GT := gt_of 553 rfl rfl
set_option maxRecDepth 20000 in
theorem gw554 : Cond.instanceMethod yX9_strokesOf ∈ GT := gt_of 554 rfl rfl
set_option maxRecDepth 20000 in
theorem gw555 : Cond.selects RX9 yX9_strokesOf yX9_strokesOf ∈ GT := gt_of 555 rfl rfl
set_option maxRecDepth 20000 in
theorem gw556 : Cond.code yX9_strokesOf cX9_strokesOf 6 (some .int) ∈ GT := gt_of 556 rfl rfl
set_option maxRecDepth 20000 in
theorem gw557 : Cond.methodLink RX9 53 yX9_groupOf ∈ GT := gt_of 557 rfl rfl
set_option maxRecDepth 20000 in
theorem gw559 : Cond.instanceMethod yX9_groupOf ∈ GT := gt_of 559 rfl rfl
set_option maxRecDepth 20000 in
theorem gw560 : Cond.code yX9_groupOf cX9_groupOf 5 (some .int) ∈ GT := gt_of 560 rfl rfl
set_option maxRecDepth 20000 in
theorem gw561 : Cond.methodLink RX9 56 yX9_oddNails ∈ GT := gt_of 561 rfl rfl
set_option maxRecDepth 20000 in
theorem gw563 : Cond.instanceMethod yX9_oddNails ∈ GT := gt_of 563 rfl rfl
set_option maxRecDepth 20000 in
theorem gw564 : Cond.code yX9_oddNails cX9_oddNails 4 (some .int) ∈ GT := gt_of 564 rfl rfl
set_option maxRecDepth 20000 in
theorem gw565 : Cond.methodLink RX9 59 yJ9_max_7cf53 ∈ GT := gt_of 565 rfl rfl
set_option maxRecDepth 20000 in
theorem gw566 : Cond.static yJ9_max_7cf53 ∈ GT := gt_of 566 rfl rfl
set_option maxRecDepth 20000 in
theorem gw567 : Cond.code yJ9_max_7cf53 cJ9_max_7cf53 2 (some .int) ∈ GT := gt_of 567 rfl rfl
set_option maxRecDepth 20000 in
theorem gw568 : Cond.methodLink RL 76 yX10_next ∈ GT := gt_of 568 rfl rfl
set_option maxRecDepth 20000 in
theorem gw569 : Cond.instanceMethod yX10_next ∈ GT := gt_of 569 rfl rfl
set_option maxRecDepth 20000 in
theorem gw570 : Cond.selects RX10 yX10_next yX10_next ∈ GT := gt_of 570 rfl rfl
set_option maxRecDepth 20000 in
theorem gw571 : Cond.code yX10_next cX10_next 4 (some .int) ∈ GT := gt_of 571 rfl rfl
set_option maxRecDepth 20000 in
theorem gw572 : Cond.methodLink RX10 182 yX0_bestNail ∈ GT := gt_of 572 rfl rfl
set_option maxRecDepth 20000 in
theorem gw573 : Cond.instanceMethod yX0_bestNail ∈ GT := gt_of 573 rfl rfl
set_option maxRecDepth 20000 in
theorem gw574 : Cond.selects RX0 yX0_bestNail yX0_bestNail ∈ GT := gt_of 574 rfl rfl
set_option maxRecDepth 20000 in
theorem gw575 : Cond.code yX0_bestNail cX0_bestNail 6 (some .int) ∈ GT := gt_of 575 rfl rfl
set_option maxRecDepth 20000 in
theorem gw576 : Cond.methodLink RX0 78 yX0_nailOf ∈ GT := gt_of 576 rfl rfl
set_option maxRecDepth 20000 in
theorem gw577 : Cond.methodLink RX0 81 yX0_crossedBetween ∈ GT := gt_of 577 rfl rfl
set_option maxRecDepth 20000 in
theorem gw578 : Cond.instanceMethod yX0_crossedBetween ∈ GT := gt_of 578 rfl rfl
set_option maxRecDepth 20000 in
theorem gw579 : Cond.selects RX0 yX0_crossedBetween yX0_crossedBetween ∈ GT := gt_of 579 rfl rfl
set_option maxRecDepth 20000 in
theorem gw580 : Cond.code yX0_crossedBetween cX0_crossedBetween 3 (some .int) ∈ GT := gt_of 580 rfl rfl
set_option maxRecDepth 20000 in
theorem gw581 : Cond.methodLink RX10 185 yX0_crossedBetween ∈ GT := gt_of 581 rfl rfl
set_option maxRecDepth 20000 in
theorem gw582 : Cond.methodLink RL 80 yX10_star ∈ GT := gt_of 582 rfl rfl
set_option maxRecDepth 20000 in
theorem gw583 : Cond.instanceMethod yX10_star ∈ GT := gt_of 583 rfl rfl
set_option maxRecDepth 20000 in
theorem gw584 : Cond.selects RX10 yX10_star yX10_star ∈ GT := gt_of 584 rfl rfl
set_option maxRecDepth 20000 in
theorem gw585 : Cond.code yX10_star cX10_star 6 (some .int) ∈ GT := gt_of 585 rfl rfl
set_option maxRecDepth 20000 in
theorem gw586 : Cond.methodLink RX10 188 yX0_windStar ∈ GT := gt_of 586 rfl rfl
set_option maxRecDepth 20000 in
theorem gw587 : Cond.instanceMethod yX0_windStar ∈ GT := gt_of 587 rfl rfl
set_option maxRecDepth 20000 in
theorem gw588 : Cond.selects RX0 yX0_windStar yX0_windStar ∈ GT := gt_of 588 rfl rfl
set_option maxRecDepth 20000 in
theorem gw589 : Cond.code yX0_windStar cX0_windStar 7 (some .int) ∈ GT := gt_of 589 rfl rfl
set_option maxRecDepth 20000 in
theorem gw590 : Cond.methodLink RX0 116 yX0_windOn ∈ GT := gt_of 590 rfl rfl
set_option maxRecDepth 20000 in
theorem gw591 : Cond.methodLink RL 87 yX10_judge ∈ GT := gt_of 591 rfl rfl
set_option maxRecDepth 20000 in
theorem gw592 : Cond.instanceMethod yX10_judge ∈ GT := gt_of 592 rfl rfl
set_option maxRecDepth 20000 in
theorem gw593 : Cond.selects RX10 yX10_judge yX10_judge ∈ GT := gt_of 593 rfl rfl
set_option maxRecDepth 20000 in
theorem gw594 : Cond.code yX10_judge cX10_judge 4 (some .int) ∈ GT := gt_of 594 rfl rfl
set_option maxRecDepth 20000 in
theorem gw595 : Cond.methodLink RX10 192 yX2_isTooLong ∈ GT := gt_of 595 rfl rfl
set_option maxRecDepth 20000 in
theorem gw596 : Cond.static yX2_isTooLong ∈ GT := gt_of 596 rfl rfl
set_option maxRecDepth 20000 in
theorem gw597 : Cond.code yX2_isTooLong cX2_isTooLong 3 (some .boolean) ∈ GT := gt_of 597 rfl rfl
set_option maxRecDepth 20000 in
theorem gw599 : Cond.fieldLink RX2 13 "NailThreads$Doings" "POWERS" "[J" ∈ GT := gt_of 599 rfl rfl
set_option maxRecDepth 20000 in
theorem gw601 : Cond.methodLink RX10 198 yX2_firstWrong ∈ GT := gt_of 601 rfl rfl
set_option maxRecDepth 20000 in
theorem gw602 : Cond.static yX2_firstWrong ∈ GT := gt_of 602 rfl rfl
set_option maxRecDepth 20000 in
theorem gw603 : Cond.code yX2_firstWrong cX2_firstWrong 7 (some .int) ∈ GT := gt_of 603 rfl rfl
set_option maxRecDepth 20000 in
theorem gw604 : Cond.methodLink RX2 19 yX2_powerAt ∈ GT := gt_of 604 rfl rfl
set_option maxRecDepth 20000 in
theorem gw605 : Cond.static yX2_powerAt ∈ GT := gt_of 605 rfl rfl
set_option maxRecDepth 20000 in
theorem gw606 : Cond.code yX2_powerAt cX2_powerAt 1 (some .long) ∈ GT := gt_of 606 rfl rfl
set_option maxRecDepth 20000 in
theorem gw607 : Cond.constantLong RX2 23 (10000) ∈ GT := gt_of 607 rfl rfl
set_option maxRecDepth 20000 in
theorem gw608 : Cond.methodLink RX2 25 yX2_comesTrue ∈ GT := gt_of 608 rfl rfl
set_option maxRecDepth 20000 in
theorem gw609 : Cond.static yX2_comesTrue ∈ GT := gt_of 609 rfl rfl
set_option maxRecDepth 20000 in
theorem gw610 : Cond.code yX2_comesTrue cX2_comesTrue 3 (some .boolean) ∈ GT := gt_of 610 rfl rfl
set_option maxRecDepth 20000 in
theorem gw611 : Cond.methodLink RX2 29 yX2_winds ∈ GT := gt_of 611 rfl rfl
set_option maxRecDepth 20000 in
theorem gw612 : Cond.static yX2_winds ∈ GT := gt_of 612 rfl rfl
set_option maxRecDepth 20000 in
theorem gw613 : Cond.code yX2_winds cX2_winds 3 (some .boolean) ∈ GT := gt_of 613 rfl rfl
set_option maxRecDepth 20000 in
theorem gw614 : Cond.methodLink RX2 57 yX0_mayWind ∈ GT := gt_of 614 rfl rfl
set_option maxRecDepth 20000 in
theorem gw615 : Cond.methodLink RX2 63 yX0_windOn ∈ GT := gt_of 615 rfl rfl
set_option maxRecDepth 20000 in
theorem gw616 : Cond.methodLink RX2 33 yX2_unwinds ∈ GT := gt_of 616 rfl rfl
set_option maxRecDepth 20000 in
theorem gw617 : Cond.static yX2_unwinds ∈ GT := gt_of 617 rfl rfl
set_option maxRecDepth 20000 in
theorem gw618 : Cond.code yX2_unwinds cX2_unwinds 2 (some .boolean) ∈ GT := gt_of 618 rfl rfl
set_option maxRecDepth 20000 in
theorem gw619 : Cond.methodLink RX2 67 yX0_mayUnwind ∈ GT := gt_of 619 rfl rfl
set_option maxRecDepth 20000 in
theorem gw620 : Cond.methodLink RX2 71 yX0_unwindLast ∈ GT := gt_of 620 rfl rfl
set_option maxRecDepth 20000 in
theorem gw621 : Cond.methodLink RX2 37 yX2_cuts ∈ GT := gt_of 621 rfl rfl
set_option maxRecDepth 20000 in
theorem gw622 : Cond.static yX2_cuts ∈ GT := gt_of 622 rfl rfl
set_option maxRecDepth 20000 in
theorem gw623 : Cond.code yX2_cuts cX2_cuts 2 (some .boolean) ∈ GT := gt_of 623 rfl rfl
set_option maxRecDepth 20000 in
theorem gw624 : Cond.methodLink RX2 75 yX0_mayCut ∈ GT := gt_of 624 rfl rfl
set_option maxRecDepth 20000 in
theorem gw625 : Cond.methodLink RX2 78 yX0_cutOff ∈ GT := gt_of 625 rfl rfl
set_option maxRecDepth 20000 in
theorem gw626 : Cond.methodLink RX2 40 yX2_turns ∈ GT := gt_of 626 rfl rfl
set_option maxRecDepth 20000 in
theorem gw627 : Cond.static yX2_turns ∈ GT := gt_of 627 rfl rfl
set_option maxRecDepth 20000 in
theorem gw628 : Cond.code yX2_turns cX2_turns 1 (some .boolean) ∈ GT := gt_of 628 rfl rfl
set_option maxRecDepth 20000 in
theorem gw629 : Cond.methodLink RX2 81 yX0_turnByOne ∈ GT := gt_of 629 rfl rfl
set_option maxRecDepth 20000 in
theorem gw630 : Cond.methodLink RX2 44 yX2_turnsOver ∈ GT := gt_of 630 rfl rfl
set_option maxRecDepth 20000 in
theorem gw631 : Cond.static yX2_turnsOver ∈ GT := gt_of 631 rfl rfl
set_option maxRecDepth 20000 in
theorem gw632 : Cond.code yX2_turnsOver cX2_turnsOver 1 (some .boolean) ∈ GT := gt_of 632 rfl rfl
set_option maxRecDepth 20000 in
theorem gw633 : Cond.methodLink RX2 84 yX0_turnOver ∈ GT := gt_of 633 rfl rfl
set_option maxRecDepth 20000 in
theorem gw634 : Cond.methodLink RX2 47 yX2_doCross ∈ GT := gt_of 634 rfl rfl
set_option maxRecDepth 20000 in
theorem gw635 : Cond.static yX2_doCross ∈ GT := gt_of 635 rfl rfl
set_option maxRecDepth 20000 in
theorem gw636 : Cond.code yX2_doCross cX2_doCross 4 (some .boolean) ∈ GT := gt_of 636 rfl rfl
set_option maxRecDepth 20000 in
theorem gw637 : Cond.methodLink RX2 87 yX0_hasThread ∈ GT := gt_of 637 rfl rfl
set_option maxRecDepth 20000 in
theorem gw638 : Cond.methodLink RX2 90 yX0_crossingsOf ∈ GT := gt_of 638 rfl rfl
set_option maxRecDepth 20000 in
theorem gw639 : Cond.methodLink RX2 51 yX9_partsOf ∈ GT := gt_of 639 rfl rfl
set_option maxRecDepth 20000 in
theorem gw640 : Cond.methodLink RL 92 yX10_see ∈ GT := gt_of 640 rfl rfl
set_option maxRecDepth 20000 in
theorem gw641 : Cond.instanceMethod yX10_see ∈ GT := gt_of 641 rfl rfl
set_option maxRecDepth 20000 in
theorem gw642 : Cond.selects RX10 yX10_see yX10_see ∈ GT := gt_of 642 rfl rfl
set_option maxRecDepth 20000 in
theorem gw643 : Cond.code yX10_see cX10_see 4 (some .int) ∈ GT := gt_of 643 rfl rfl
set_option maxRecDepth 20000 in
theorem gw644 : Cond.methodLink RX10 202 yX6_add ∈ GT := gt_of 644 rfl rfl
set_option maxRecDepth 20000 in
theorem gw645 : Cond.instanceMethod yX6_add ∈ GT := gt_of 645 rfl rfl
set_option maxRecDepth 20000 in
theorem gw646 : Cond.selects RX6 yX6_add yX6_add ∈ GT := gt_of 646 rfl rfl
set_option maxRecDepth 20000 in
theorem gw647 : Cond.code yX6_add cX6_add 4 (some .boolean) ∈ GT := gt_of 647 rfl rfl
set_option maxRecDepth 20000 in
theorem gw648 : Cond.methodLink RX10 204 yX6_size ∈ GT := gt_of 648 rfl rfl
set_option maxRecDepth 20000 in
theorem gw649 : Cond.instanceMethod yX6_size ∈ GT := gt_of 649 rfl rfl
set_option maxRecDepth 20000 in
theorem gw650 : Cond.selects RX6 yX6_size yX6_size ∈ GT := gt_of 650 rfl rfl
set_option maxRecDepth 20000 in
theorem gw651 : Cond.code yX6_size cX6_size 1 (some .int) ∈ GT := gt_of 651 rfl rfl
set_option maxRecDepth 20000 in
theorem gw652 : Cond.methodLink RL 97 yX10_unsee ∈ GT := gt_of 652 rfl rfl
set_option maxRecDepth 20000 in
theorem gw653 : Cond.instanceMethod yX10_unsee ∈ GT := gt_of 653 rfl rfl
set_option maxRecDepth 20000 in
theorem gw654 : Cond.selects RX10 yX10_unsee yX10_unsee ∈ GT := gt_of 654 rfl rfl
set_option maxRecDepth 20000 in
theorem gw655 : Cond.code yX10_unsee cX10_unsee 2 (some .int) ∈ GT := gt_of 655 rfl rfl
set_option maxRecDepth 20000 in
theorem gw656 : Cond.methodLink RX10 205 yX6_clear ∈ GT := gt_of 656 rfl rfl
set_option maxRecDepth 20000 in
theorem gw657 : Cond.instanceMethod yX6_clear ∈ GT := gt_of 657 rfl rfl
set_option maxRecDepth 20000 in
theorem gw658 : Cond.selects RX6 yX6_clear yX6_clear ∈ GT := gt_of 658 rfl rfl
set_option maxRecDepth 20000 in
theorem gw659 : Cond.code yX6_clear cX6_clear 1 none ∈ GT := gt_of 659 rfl rfl
set_option maxRecDepth 20000 in
theorem gw660 : Cond.methodLink RL 101 yX10_stars ∈ GT := gt_of 660 rfl rfl
set_option maxRecDepth 20000 in
theorem gw661 : Cond.instanceMethod yX10_stars ∈ GT := gt_of 661 rfl rfl
set_option maxRecDepth 20000 in
theorem gw662 : Cond.selects RX10 yX10_stars yX10_stars ∈ GT := gt_of 662 rfl rfl
set_option maxRecDepth 20000 in
theorem gw663 : Cond.code yX10_stars cX10_stars 2 (some .int) ∈ GT := gt_of 663 rfl rfl
set_option maxRecDepth 20000 in
theorem gw664 : Cond.methodLink RX10 206 yX6_howMany ∈ GT := gt_of 664 rfl rfl
set_option maxRecDepth 20000 in
theorem gw665 : Cond.instanceMethod yX6_howMany ∈ GT := gt_of 665 rfl rfl
set_option maxRecDepth 20000 in
theorem gw666 : Cond.selects RX6 yX6_howMany yX6_howMany ∈ GT := gt_of 666 rfl rfl
set_option maxRecDepth 20000 in
theorem gw667 : Cond.code yX6_howMany cX6_howMany 4 (some .int) ∈ GT := gt_of 667 rfl rfl
set_option maxRecDepth 20000 in
theorem gw668 : Cond.methodLink RX6 31 yX6_fits ∈ GT := gt_of 668 rfl rfl
set_option maxRecDepth 20000 in
theorem gw670 : Cond.instanceMethod yX6_fits ∈ GT := gt_of 670 rfl rfl
set_option maxRecDepth 20000 in
theorem gw671 : Cond.code yX6_fits cX6_fits 5 (some .boolean) ∈ GT := gt_of 671 rfl rfl
set_option maxRecDepth 20000 in
theorem gw672 : Cond.methodLink RX6 25 yX5_stepsOn ∈ GT := gt_of 672 rfl rfl
set_option maxRecDepth 20000 in
theorem gw673 : Cond.methodLink RX10 209 yX6_firstStar ∈ GT := gt_of 673 rfl rfl
set_option maxRecDepth 20000 in
theorem gw674 : Cond.instanceMethod yX6_firstStar ∈ GT := gt_of 674 rfl rfl
set_option maxRecDepth 20000 in
theorem gw675 : Cond.selects RX6 yX6_firstStar yX6_firstStar ∈ GT := gt_of 675 rfl rfl
set_option maxRecDepth 20000 in
theorem gw676 : Cond.code yX6_firstStar cX6_firstStar 3 (some .int) ∈ GT := gt_of 676 rfl rfl
set_option maxRecDepth 20000 in
theorem gw677 : Cond.methodLink RL 105 yX10_share ∈ GT := gt_of 677 rfl rfl
set_option maxRecDepth 20000 in
theorem gw678 : Cond.instanceMethod yX10_share ∈ GT := gt_of 678 rfl rfl
set_option maxRecDepth 20000 in
theorem gw679 : Cond.selects RX10 yX10_share yX10_share ∈ GT := gt_of 679 rfl rfl
set_option maxRecDepth 20000 in
theorem gw680 : Cond.code yX10_share cX10_share 3 (some .int) ∈ GT := gt_of 680 rfl rfl
set_option maxRecDepth 20000 in
theorem gw681 : Cond.methodLink RX10 212 yX1_twiceShare ∈ GT := gt_of 681 rfl rfl
set_option maxRecDepth 20000 in
theorem gw682 : Cond.static yX1_twiceShare ∈ GT := gt_of 682 rfl rfl
set_option maxRecDepth 20000 in
theorem gw683 : Cond.code yX1_twiceShare cX1_twiceShare 5 (some .int) ∈ GT := gt_of 683 rfl rfl
set_option maxRecDepth 20000 in
theorem gw684 : Cond.methodLink RX1 28 yX0_threads ∈ GT := gt_of 684 rfl rfl
set_option maxRecDepth 20000 in
theorem gw685 : Cond.methodLink RX1 34 yX0_crossingsOf ∈ GT := gt_of 685 rfl rfl
set_option maxRecDepth 20000 in
theorem gw686 : Cond.methodLink RX10 216 yX1_toldFraction ∈ GT := gt_of 686 rfl rfl
set_option maxRecDepth 20000 in
theorem gw687 : Cond.static yX1_toldFraction ∈ GT := gt_of 687 rfl rfl
set_option maxRecDepth 20000 in
theorem gw688 : Cond.code yX1_toldFraction cX1_toldFraction 4 (some .int) ∈ GT := gt_of 688 rfl rfl
set_option maxRecDepth 20000 in
theorem gw689 : Cond.methodLink RX1 15 yX1_commonDivisor ∈ GT := gt_of 689 rfl rfl
set_option maxRecDepth 20000 in
theorem gw690 : Cond.static yX1_commonDivisor ∈ GT := gt_of 690 rfl rfl
set_option maxRecDepth 20000 in
theorem gw691 : Cond.code yX1_commonDivisor cX1_commonDivisor 6 (some .int) ∈ GT := gt_of 691 rfl rfl
set_option maxRecDepth 20000 in
theorem gw692 : Cond.methodLink RX1 24 yJ9_abs_0f7a4 ∈ GT := gt_of 692 rfl rfl
set_option maxRecDepth 20000 in
theorem gw693 : Cond.static yJ9_abs_0f7a4 ∈ GT := gt_of 693 rfl rfl
set_option maxRecDepth 20000 in
theorem gw694 : Cond.code yJ9_abs_0f7a4 cJ9_abs_0f7a4 1 (some .int) ∈ GT := gt_of 694 rfl rfl
set_option maxRecDepth 20000 in
theorem gw695 : Cond.methodLink RX1 19 yJ9_max_7cf53 ∈ GT := gt_of 695 rfl rfl
set_option maxRecDepth 20000 in
theorem gw696 : Cond.methodLink RL 110 yX10_rests ∈ GT := gt_of 696 rfl rfl
set_option maxRecDepth 20000 in
theorem gw697 : Cond.instanceMethod yX10_rests ∈ GT := gt_of 697 rfl rfl
set_option maxRecDepth 20000 in
theorem gw698 : Cond.selects RX10 yX10_rests yX10_rests ∈ GT := gt_of 698 rfl rfl
set_option maxRecDepth 20000 in
theorem gw699 : Cond.code yX10_rests cX10_rests 4 (some .int) ∈ GT := gt_of 699 rfl rfl
set_option maxRecDepth 20000 in
theorem gw700 : Cond.methodLink RX10 220 yX4_tryAll ∈ GT := gt_of 700 rfl rfl
set_option maxRecDepth 20000 in
theorem gw701 : Cond.instanceMethod yX4_tryAll ∈ GT := gt_of 701 rfl rfl
set_option maxRecDepth 20000 in
theorem gw702 : Cond.selects RX4 yX4_tryAll yX4_tryAll ∈ GT := gt_of 702 rfl rfl
set_option maxRecDepth 20000 in
theorem gw703 : Cond.code yX4_tryAll cX4_tryAll 6 none ∈ GT := gt_of 703 rfl rfl
set_option maxRecDepth 20000 in
theorem gw704 : Cond.methodLink RX4 18 yX0_becomeLike ∈ GT := gt_of 704 rfl rfl
set_option maxRecDepth 20000 in
theorem gw705 : Cond.methodLink RX4 24 yX0_windStar ∈ GT := gt_of 705 rfl rfl
set_option maxRecDepth 20000 in
theorem gw706 : Cond.methodLink RX4 28 yX0_worthOf ∈ GT := gt_of 706 rfl rfl
set_option maxRecDepth 20000 in
theorem gw707 : Cond.instanceMethod yX0_worthOf ∈ GT := gt_of 707 rfl rfl
set_option maxRecDepth 20000 in
theorem gw708 : Cond.selects RX0 yX0_worthOf yX0_worthOf ∈ GT := gt_of 708 rfl rfl
set_option maxRecDepth 20000 in
theorem gw709 : Cond.code yX0_worthOf cX0_worthOf 3 (some .int) ∈ GT := gt_of 709 rfl rfl
set_option maxRecDepth 20000 in
theorem gw710 : Cond.methodLink RX0 107 yX0_crossingFrom ∈ GT := gt_of 710 rfl rfl
set_option maxRecDepth 20000 in
theorem gw711 : Cond.methodLink RX10 224 yX4_howMany ∈ GT := gt_of 711 rfl rfl
set_option maxRecDepth 20000 in
theorem gw712 : Cond.instanceMethod yX4_howMany ∈ GT := gt_of 712 rfl rfl
set_option maxRecDepth 20000 in
theorem gw713 : Cond.selects RX4 yX4_howMany yX4_howMany ∈ GT := gt_of 713 rfl rfl
set_option maxRecDepth 20000 in
theorem gw714 : Cond.code yX4_howMany cX4_howMany 3 (some .int) ∈ GT := gt_of 714 rfl rfl
set_option maxRecDepth 20000 in
theorem gw715 : Cond.methodLink RX4 32 yX4_isAtRest ∈ GT := gt_of 715 rfl rfl
set_option maxRecDepth 20000 in
theorem gw717 : Cond.instanceMethod yX4_isAtRest ∈ GT := gt_of 717 rfl rfl
set_option maxRecDepth 20000 in
theorem gw718 : Cond.code yX4_isAtRest cX4_isAtRest 2 (some .boolean) ∈ GT := gt_of 718 rfl rfl
set_option maxRecDepth 20000 in
theorem gw719 : Cond.methodLink RX10 225 yX4_firstPair ∈ GT := gt_of 719 rfl rfl
set_option maxRecDepth 20000 in
theorem gw720 : Cond.instanceMethod yX4_firstPair ∈ GT := gt_of 720 rfl rfl
set_option maxRecDepth 20000 in
theorem gw721 : Cond.selects RX4 yX4_firstPair yX4_firstPair ∈ GT := gt_of 721 rfl rfl
set_option maxRecDepth 20000 in
theorem gw722 : Cond.code yX4_firstPair cX4_firstPair 2 (some .int) ∈ GT := gt_of 722 rfl rfl
set_option maxRecDepth 20000 in
theorem gw723 : Cond.methodLink RL 114 yX10_snaps ∈ GT := gt_of 723 rfl rfl
set_option maxRecDepth 20000 in
theorem gw724 : Cond.instanceMethod yX10_snaps ∈ GT := gt_of 724 rfl rfl
set_option maxRecDepth 20000 in
theorem gw725 : Cond.selects RX10 yX10_snaps yX10_snaps ∈ GT := gt_of 725 rfl rfl
set_option maxRecDepth 20000 in
theorem gw726 : Cond.code yX10_snaps cX10_snaps 4 (some .int) ∈ GT := gt_of 726 rfl rfl
set_option maxRecDepth 20000 in
theorem gw727 : Cond.methodLink RX10 228 yX1_weightOfSnaps ∈ GT := gt_of 727 rfl rfl
set_option maxRecDepth 20000 in
theorem gw728 : Cond.instanceMethod yX1_weightOfSnaps ∈ GT := gt_of 728 rfl rfl
set_option maxRecDepth 20000 in
theorem gw729 : Cond.selects RX1 yX1_weightOfSnaps yX1_weightOfSnaps ∈ GT := gt_of 729 rfl rfl
set_option maxRecDepth 20000 in
theorem gw730 : Cond.code yX1_weightOfSnaps cX1_weightOfSnaps 6 (some .int) ∈ GT := gt_of 730 rfl rfl
set_option maxRecDepth 20000 in
theorem gw731 : Cond.methodLink RX1 37 yX1_countBetween ∈ GT := gt_of 731 rfl rfl
set_option maxRecDepth 20000 in
theorem gw733 : Cond.instanceMethod yX1_countBetween ∈ GT := gt_of 733 rfl rfl
set_option maxRecDepth 20000 in
theorem gw734 : Cond.code yX1_countBetween cX1_countBetween 4 none ∈ GT := gt_of 734 rfl rfl
set_option maxRecDepth 20000 in
theorem gw735 : Cond.methodLink RX1 41 yX1_crossingsAmong ∈ GT := gt_of 735 rfl rfl
set_option maxRecDepth 20000 in
theorem gw737 : Cond.instanceMethod yX1_crossingsAmong ∈ GT := gt_of 737 rfl rfl
set_option maxRecDepth 20000 in
theorem gw738 : Cond.code yX1_crossingsAmong cX1_crossingsAmong 5 (some .int) ∈ GT := gt_of 738 rfl rfl
set_option maxRecDepth 20000 in
theorem gw739 : Cond.methodLink RX1 44 yX1_weightOf ∈ GT := gt_of 739 rfl rfl
set_option maxRecDepth 20000 in
theorem gw740 : Cond.static yX1_weightOf ∈ GT := gt_of 740 rfl rfl
set_option maxRecDepth 20000 in
theorem gw741 : Cond.code yX1_weightOf cX1_weightOf 5 (some .int) ∈ GT := gt_of 741 rfl rfl
set_option maxRecDepth 20000 in
theorem gw742 : Cond.methodLink RX10 232 yX1_allWeight ∈ GT := gt_of 742 rfl rfl
set_option maxRecDepth 20000 in
theorem gw743 : Cond.static yX1_allWeight ∈ GT := gt_of 743 rfl rfl
set_option maxRecDepth 20000 in
theorem gw744 : Cond.code yX1_allWeight cX1_allWeight 3 (some .int) ∈ GT := gt_of 744 rfl rfl
set_option maxRecDepth 20000 in
theorem gw745 : Cond.methodLink RL 119 yX10_seed ∈ GT := gt_of 745 rfl rfl
set_option maxRecDepth 20000 in
theorem gw746 : Cond.instanceMethod yX10_seed ∈ GT := gt_of 746 rfl rfl
set_option maxRecDepth 20000 in
theorem gw747 : Cond.selects RX10 yX10_seed yX10_seed ∈ GT := gt_of 747 rfl rfl
set_option maxRecDepth 20000 in
theorem gw748 : Cond.code yX10_seed cX10_seed 5 (some .long) ∈ GT := gt_of 748 rfl rfl
set_option maxRecDepth 20000 in
theorem gw749 : Cond.methodLink RL 124 yX10_years ∈ GT := gt_of 749 rfl rfl
set_option maxRecDepth 20000 in
theorem gw750 : Cond.instanceMethod yX10_years ∈ GT := gt_of 750 rfl rfl
set_option maxRecDepth 20000 in
theorem gw751 : Cond.selects RX10 yX10_years yX10_years ∈ GT := gt_of 751 rfl rfl
set_option maxRecDepth 20000 in
theorem gw752 : Cond.code yX10_years cX10_years 4 (some .int) ∈ GT := gt_of 752 rfl rfl
set_option maxRecDepth 20000 in
theorem gw753 : Cond.methodLink RX10 235 yX1_drawnFrom ∈ GT := gt_of 753 rfl rfl
set_option maxRecDepth 20000 in
theorem gw754 : Cond.static yX1_drawnFrom ∈ GT := gt_of 754 rfl rfl
set_option maxRecDepth 20000 in
theorem gw755 : Cond.code yX1_drawnFrom cX1_drawnFrom 2 (some .long) ∈ GT := gt_of 755 rfl rfl
set_option maxRecDepth 20000 in
theorem gw756 : Cond.constantLong RX1 48 (6364136223846793005) ∈ GT := gt_of 756 rfl rfl
set_option maxRecDepth 20000 in
theorem gw757 : Cond.constantLong RX1 50 (1442695040888963407) ∈ GT := gt_of 757 rfl rfl
set_option maxRecDepth 20000 in
theorem gw758 : Cond.methodLink RX10 239 yX1_liveYear ∈ GT := gt_of 758 rfl rfl
set_option maxRecDepth 20000 in
theorem gw759 : Cond.static yX1_liveYear ∈ GT := gt_of 759 rfl rfl
set_option maxRecDepth 20000 in
theorem gw760 : Cond.code yX1_liveYear cX1_liveYear 4 none ∈ GT := gt_of 760 rfl rfl
set_option maxRecDepth 20000 in
theorem gw761 : Cond.constantLong RX1 52 (60) ∈ GT := gt_of 761 rfl rfl
set_option maxRecDepth 20000 in
theorem gw762 : Cond.methodLink RX1 54 yX2_winds ∈ GT := gt_of 762 rfl rfl
set_option maxRecDepth 20000 in
theorem gw763 : Cond.methodLink RX1 60 yX2_unwinds ∈ GT := gt_of 763 rfl rfl
set_option maxRecDepth 20000 in
theorem gw764 : Cond.methodLink RX1 64 yX2_cuts ∈ GT := gt_of 764 rfl rfl
set_option maxRecDepth 20000 in
theorem gw765 : Cond.methodLink RX1 67 yX0_turnByOne ∈ GT := gt_of 765 rfl rfl
set_option maxRecDepth 20000 in
theorem gw766 : Cond.methodLink RX1 70 yX0_turnOver ∈ GT := gt_of 766 rfl rfl
set_option maxRecDepth 20000 in
theorem gw767 : Cond.methodLink RX10 243 yX0_allCrossings ∈ GT := gt_of 767 rfl rfl
set_option maxRecDepth 20000 in
theorem gw768 : Cond.instanceMethod yX0_allCrossings ∈ GT := gt_of 768 rfl rfl
set_option maxRecDepth 20000 in
theorem gw769 : Cond.selects RX0 yX0_allCrossings yX0_allCrossings ∈ GT := gt_of 769 rfl rfl
set_option maxRecDepth 20000 in
theorem gw770 : Cond.code yX0_allCrossings cX0_allCrossings 1 (some .int) ∈ GT := gt_of 770 rfl rfl
set_option maxRecDepth 20000 in
theorem gw771 : Cond.methodLink RL 128 yX10_keep ∈ GT := gt_of 771 rfl rfl
set_option maxRecDepth 20000 in
theorem gw772 : Cond.instanceMethod yX10_keep ∈ GT := gt_of 772 rfl rfl
set_option maxRecDepth 20000 in
theorem gw773 : Cond.selects RX10 yX10_keep yX10_keep ∈ GT := gt_of 773 rfl rfl
set_option maxRecDepth 20000 in
theorem gw774 : Cond.code yX10_keep cX10_keep 2 (some .int) ∈ GT := gt_of 774 rfl rfl
set_option maxRecDepth 20000 in
theorem gw775 : Cond.methodLink RX10 246 yX7_put ∈ GT := gt_of 775 rfl rfl
set_option maxRecDepth 20000 in
theorem gw776 : Cond.instanceMethod yX7_put ∈ GT := gt_of 776 rfl rfl
set_option maxRecDepth 20000 in
theorem gw777 : Cond.selects RX7 yX7_put yX7_put ∈ GT := gt_of 777 rfl rfl
set_option maxRecDepth 20000 in
theorem gw778 : Cond.code yX7_put cX7_put 3 none ∈ GT := gt_of 778 rfl rfl
set_option maxRecDepth 20000 in
theorem gw780 : Cond.methodLink RX7 26 yX0_becomeLike ∈ GT := gt_of 780 rfl rfl
set_option maxRecDepth 20000 in
theorem gw781 : Cond.methodLink RL 132 yX10_again ∈ GT := gt_of 781 rfl rfl
set_option maxRecDepth 20000 in
theorem gw782 : Cond.instanceMethod yX10_again ∈ GT := gt_of 782 rfl rfl
set_option maxRecDepth 20000 in
theorem gw783 : Cond.selects RX10 yX10_again yX10_again ∈ GT := gt_of 783 rfl rfl
set_option maxRecDepth 20000 in
theorem gw784 : Cond.code yX10_again cX10_again 2 (some .int) ∈ GT := gt_of 784 rfl rfl
set_option maxRecDepth 20000 in
theorem gw785 : Cond.methodLink RX10 250 yX7_giveBack ∈ GT := gt_of 785 rfl rfl
set_option maxRecDepth 20000 in
theorem gw786 : Cond.instanceMethod yX7_giveBack ∈ GT := gt_of 786 rfl rfl
set_option maxRecDepth 20000 in
theorem gw787 : Cond.selects RX7 yX7_giveBack yX7_giveBack ∈ GT := gt_of 787 rfl rfl
set_option maxRecDepth 20000 in
theorem gw788 : Cond.code yX7_giveBack cX7_giveBack 3 (some .boolean) ∈ GT := gt_of 788 rfl rfl
set_option maxRecDepth 20000 in
theorem gw789 : Cond.methodLink RL 136 yX10_count ∈ GT := gt_of 789 rfl rfl
set_option maxRecDepth 20000 in
theorem gw790 : Cond.instanceMethod yX10_count ∈ GT := gt_of 790 rfl rfl
set_option maxRecDepth 20000 in
theorem gw791 : Cond.selects RX10 yX10_count yX10_count ∈ GT := gt_of 791 rfl rfl
set_option maxRecDepth 20000 in
theorem gw792 : Cond.code yX10_count cX10_count 2 (some .int) ∈ GT := gt_of 792 rfl rfl
set_option maxRecDepth 20000 in
theorem gw793 : Cond.methodLink RX10 254 yX0_endNails ∈ GT := gt_of 793 rfl rfl
set_option maxRecDepth 20000 in
theorem gw794 : Cond.instanceMethod yX0_endNails ∈ GT := gt_of 794 rfl rfl
set_option maxRecDepth 20000 in
theorem gw795 : Cond.selects RX0 yX0_endNails yX0_endNails ∈ GT := gt_of 795 rfl rfl
set_option maxRecDepth 20000 in
theorem gw796 : Cond.code yX0_endNails cX0_endNails 3 (some .int) ∈ GT := gt_of 796 rfl rfl
set_option maxRecDepth 20000 in
theorem gw797 : Cond.methodLink RX10 257 yX0_lengthOfAll ∈ GT := gt_of 797 rfl rfl
set_option maxRecDepth 20000 in
theorem gw798 : Cond.instanceMethod yX0_lengthOfAll ∈ GT := gt_of 798 rfl rfl
set_option maxRecDepth 20000 in
theorem gw799 : Cond.selects RX0 yX0_lengthOfAll yX0_lengthOfAll ∈ GT := gt_of 799 rfl rfl
set_option maxRecDepth 20000 in
theorem gw800 : Cond.code yX0_lengthOfAll cX0_lengthOfAll 3 (some .int) ∈ GT := gt_of 800 rfl rfl
set_option maxRecDepth 20000 in
theorem gw801 : Cond.classLink RL 10 RX11 ∈ GT := gt_of 801 rfl rfl
set_option maxRecDepth 20000 in
theorem gw802 : Cond.instantiable RX11 20 ∈ GT := gt_of 802 rfl rfl
set_option maxRecDepth 20000 in
theorem gw803 : Cond.methodLink RL 12 yX11_init ∈ GT := gt_of 803 rfl rfl
set_option maxRecDepth 20000 in
theorem gw804 : Cond.instanceMethod yX11_init ∈ GT := gt_of 804 rfl rfl
set_option maxRecDepth 20000 in
theorem gw805 : Cond.code yX11_init cX11_init 1 none ∈ GT := gt_of 805 rfl rfl
set_option maxRecDepth 20000 in
theorem gw806 : Cond.methodLink RX11 1 Lib.objectInit ∈ GT := gt_of 806 rfl rfl
set_option maxRecDepth 20000 in
theorem gw807 : Cond.fieldLink RX11 115 "NailThreadsModel" "threads" "I" ∈ GT := gt_of 807 rfl rfl
set_option maxRecDepth 20000 in
theorem gw808 : Cond.fieldLink RX11 7 "NailThreadsModel" "kind" "[I" ∈ GT := gt_of 808 rfl rfl
set_option maxRecDepth 20000 in
theorem gw809 : Cond.fieldLink RX11 13 "NailThreadsModel" "now" "[I" ∈ GT := gt_of 809 rfl rfl
set_option maxRecDepth 20000 in
theorem gw810 : Cond.fieldLink RX11 16 "NailThreadsModel" "readKind" "[I" ∈ GT := gt_of 810 rfl rfl
set_option maxRecDepth 20000 in
theorem gw811 : Cond.fieldLink RX11 86 "NailThreadsModel" "readThreads" "I" ∈ GT := gt_of 811 rfl rfl
set_option maxRecDepth 20000 in
theorem gw812 : Cond.fieldLink RX11 19 "NailThreadsModel" "text" "[I" ∈ GT := gt_of 812 rfl rfl
set_option maxRecDepth 20000 in
theorem gw813 : Cond.fieldLink RX11 74 "NailThreadsModel" "length" "I" ∈ GT := gt_of 813 rfl rfl
set_option maxRecDepth 20000 in
theorem gw814 : Cond.fieldLink RX11 78 "NailThreadsModel" "isReading" "Z" ∈ GT := gt_of 814 rfl rfl
set_option maxRecDepth 20000 in
theorem gw815 : Cond.fieldLink RX11 22 "NailThreadsModel" "isAbove" "[I" ∈ GT := gt_of 815 rfl rfl
set_option maxRecDepth 20000 in
theorem gw816 : Cond.fieldLink RX11 118 "NailThreadsModel" "acts" "I" ∈ GT := gt_of 816 rfl rfl
set_option maxRecDepth 20000 in
theorem gw817 : Cond.fieldLink RX11 185 "NailThreadsModel" "next" "I" ∈ GT := gt_of 817 rfl rfl
set_option maxRecDepth 20000 in
theorem gw818 : Cond.fieldLink RX11 25 "NailThreadsModel" "row" "[I" ∈ GT := gt_of 818 rfl rfl
set_option maxRecDepth 20000 in
theorem gw819 : Cond.fieldLink RX11 28 "NailThreadsModel" "isLine" "[I" ∈ GT := gt_of 819 rfl rfl
set_option maxRecDepth 20000 in
theorem gw820 : Cond.fieldLink RX11 240 "NailThreadsModel" "seen" "I" ∈ GT := gt_of 820 rfl rfl
set_option maxRecDepth 20000 in
theorem gw821 : Cond.fieldLink RX11 31 "NailThreadsModel" "seenTimes" "[I" ∈ GT := gt_of 821 rfl rfl
set_option maxRecDepth 20000 in
theorem gw822 : Cond.fieldLink RX11 34 "NailThreadsModel" "seenNail" "[I" ∈ GT := gt_of 822 rfl rfl
set_option maxRecDepth 20000 in
theorem gw823 : Cond.fieldLink RX11 37 "NailThreadsModel" "seenWas" "[I" ∈ GT := gt_of 823 rfl rfl
set_option maxRecDepth 20000 in
theorem gw824 : Cond.fieldLink RX11 266 "NailThreadsModel" "seed" "J" ∈ GT := gt_of 824 rfl rfl
set_option maxRecDepth 20000 in
theorem gw825 : Cond.fieldLink RX11 40 "NailThreadsModel" "isKept" "[Z" ∈ GT := gt_of 825 rfl rfl
set_option maxRecDepth 20000 in
theorem gw826 : Cond.fieldLink RX11 44 "NailThreadsModel" "kept" "[I" ∈ GT := gt_of 826 rfl rfl
set_option maxRecDepth 20000 in
theorem gw868 : Cond.methodLink RL 17 yX11_write ∈ GT := gt_of 868 rfl rfl
set_option maxRecDepth 20000 in
theorem gw869 : Cond.instanceMethod yX11_write ∈ GT := gt_of 869 rfl rfl
set_option maxRecDepth 20000 in
theorem gw870 : Cond.selects RX11 yX11_write yX11_write ∈ GT := gt_of 870 rfl rfl
set_option maxRecDepth 20000 in
theorem gw871 : Cond.code yX11_write cX11_write 2 (some .int) ∈ GT := gt_of 871 rfl rfl
set_option maxRecDepth 20000 in
theorem gw872 : Cond.constantLong RX11 72 (255) ∈ GT := gt_of 872 rfl rfl
set_option maxRecDepth 20000 in
theorem gw873 : Cond.methodLink RX11 49 yX11_in ∈ GT := gt_of 873 rfl rfl
set_option maxRecDepth 20000 in
theorem gw874 : Cond.static yX11_in ∈ GT := gt_of 874 rfl rfl
set_option maxRecDepth 20000 in
theorem gw875 : Cond.code yX11_in cX11_in 6 (some .boolean) ∈ GT := gt_of 875 rfl rfl
set_option maxRecDepth 20000 in
theorem gw876 : Cond.methodLink RL 22 yX11_wipe ∈ GT := gt_of 876 rfl rfl
set_option maxRecDepth 20000 in
theorem gw877 : Cond.instanceMethod yX11_wipe ∈ GT := gt_of 877 rfl rfl
set_option maxRecDepth 20000 in
theorem gw878 : Cond.selects RX11 yX11_wipe yX11_wipe ∈ GT := gt_of 878 rfl rfl
set_option maxRecDepth 20000 in
theorem gw879 : Cond.code yX11_wipe cX11_wipe 2 (some .int) ∈ GT := gt_of 879 rfl rfl
set_option maxRecDepth 20000 in
theorem gw880 : Cond.methodLink RL 26 yX11_fault ∈ GT := gt_of 880 rfl rfl
set_option maxRecDepth 20000 in
theorem gw881 : Cond.instanceMethod yX11_fault ∈ GT := gt_of 881 rfl rfl
set_option maxRecDepth 20000 in
theorem gw882 : Cond.selects RX11 yX11_fault yX11_fault ∈ GT := gt_of 882 rfl rfl
set_option maxRecDepth 20000 in
theorem gw883 : Cond.code yX11_fault cX11_fault 1 (some .int) ∈ GT := gt_of 883 rfl rfl
set_option maxRecDepth 20000 in
theorem gw884 : Cond.methodLink RX11 112 yX11_readText ∈ GT := gt_of 884 rfl rfl
set_option maxRecDepth 20000 in
theorem gw886 : Cond.instanceMethod yX11_readText ∈ GT := gt_of 886 rfl rfl
set_option maxRecDepth 20000 in
theorem gw887 : Cond.code yX11_readText cX11_readText 2 (some .int) ∈ GT := gt_of 887 rfl rfl
set_option maxRecDepth 20000 in
theorem gw888 : Cond.methodLink RX11 82 yX11_clearLevel ∈ GT := gt_of 888 rfl rfl
set_option maxRecDepth 20000 in
theorem gw890 : Cond.instanceMethod yX11_clearLevel ∈ GT := gt_of 890 rfl rfl
set_option maxRecDepth 20000 in
theorem gw891 : Cond.code yX11_clearLevel cX11_clearLevel 3 none ∈ GT := gt_of 891 rfl rfl
set_option maxRecDepth 20000 in
theorem gw892 : Cond.methodLink RX11 89 yX11_readParts ∈ GT := gt_of 892 rfl rfl
set_option maxRecDepth 20000 in
theorem gw894 : Cond.instanceMethod yX11_readParts ∈ GT := gt_of 894 rfl rfl
set_option maxRecDepth 20000 in
theorem gw895 : Cond.code yX11_readParts cX11_readParts 5 (some .int) ∈ GT := gt_of 895 rfl rfl
set_option maxRecDepth 20000 in
theorem gw896 : Cond.constantLong RX11 93 (48) ∈ GT := gt_of 896 rfl rfl
set_option maxRecDepth 20000 in
theorem gw897 : Cond.constantLong RX11 95 (51) ∈ GT := gt_of 897 rfl rfl
set_option maxRecDepth 20000 in
theorem gw898 : Cond.constantLong RX11 97 (97) ∈ GT := gt_of 898 rfl rfl
set_option maxRecDepth 20000 in
theorem gw899 : Cond.constantLong RX11 99 (108) ∈ GT := gt_of 899 rfl rfl
set_option maxRecDepth 20000 in
theorem gw900 : Cond.methodLink RX11 101 yX11_mayLay ∈ GT := gt_of 900 rfl rfl
set_option maxRecDepth 20000 in
theorem gw902 : Cond.instanceMethod yX11_mayLay ∈ GT := gt_of 902 rfl rfl
set_option maxRecDepth 20000 in
theorem gw903 : Cond.code yX11_mayLay cX11_mayLay 3 (some .boolean) ∈ GT := gt_of 903 rfl rfl
set_option maxRecDepth 20000 in
theorem gw904 : Cond.methodLink RX11 105 yX11_mayWind ∈ GT := gt_of 904 rfl rfl
set_option maxRecDepth 20000 in
theorem gw906 : Cond.instanceMethod yX11_mayWind ∈ GT := gt_of 906 rfl rfl
set_option maxRecDepth 20000 in
theorem gw907 : Cond.code yX11_mayWind cX11_mayWind 6 (some .boolean) ∈ GT := gt_of 907 rfl rfl
set_option maxRecDepth 20000 in
theorem gw908 : Cond.methodLink RX11 133 yX11_isNail ∈ GT := gt_of 908 rfl rfl
set_option maxRecDepth 20000 in
theorem gw909 : Cond.static yX11_isNail ∈ GT := gt_of 909 rfl rfl
set_option maxRecDepth 20000 in
theorem gw910 : Cond.code yX11_isNail cX11_isNail 1 (some .boolean) ∈ GT := gt_of 910 rfl rfl
set_option maxRecDepth 20000 in
theorem gw911 : Cond.constantLong RX11 47 (11) ∈ GT := gt_of 911 rfl rfl
set_option maxRecDepth 20000 in
theorem gw912 : Cond.methodLink RX11 137 yX11_stretchesOf ∈ GT := gt_of 912 rfl rfl
set_option maxRecDepth 20000 in
theorem gw914 : Cond.instanceMethod yX11_stretchesOf ∈ GT := gt_of 914 rfl rfl
set_option maxRecDepth 20000 in
theorem gw915 : Cond.code yX11_stretchesOf cX11_stretchesOf 5 (some .int) ∈ GT := gt_of 915 rfl rfl
set_option maxRecDepth 20000 in
theorem gw916 : Cond.methodLink RX11 121 yX11_many ∈ GT := gt_of 916 rfl rfl
set_option maxRecDepth 20000 in
theorem gw918 : Cond.instanceMethod yX11_many ∈ GT := gt_of 918 rfl rfl
set_option maxRecDepth 20000 in
theorem gw919 : Cond.code yX11_many cX11_many 2 (some .int) ∈ GT := gt_of 919 rfl rfl
set_option maxRecDepth 20000 in
theorem gw920 : Cond.methodLink RX11 124 yX11_laid ∈ GT := gt_of 920 rfl rfl
set_option maxRecDepth 20000 in
theorem gw922 : Cond.instanceMethod yX11_laid ∈ GT := gt_of 922 rfl rfl
set_option maxRecDepth 20000 in
theorem gw923 : Cond.code yX11_laid cX11_laid 3 (some .int) ∈ GT := gt_of 923 rfl rfl
set_option maxRecDepth 20000 in
theorem gw924 : Cond.methodLink RX11 127 yX11_threadOf ∈ GT := gt_of 924 rfl rfl
set_option maxRecDepth 20000 in
theorem gw925 : Cond.static yX11_threadOf ∈ GT := gt_of 925 rfl rfl
set_option maxRecDepth 20000 in
theorem gw926 : Cond.code yX11_threadOf cX11_threadOf 1 (some .int) ∈ GT := gt_of 926 rfl rfl
set_option maxRecDepth 20000 in
theorem gw927 : Cond.methodLink RX11 140 yX11_kindOf ∈ GT := gt_of 927 rfl rfl
set_option maxRecDepth 20000 in
theorem gw929 : Cond.instanceMethod yX11_kindOf ∈ GT := gt_of 929 rfl rfl
set_option maxRecDepth 20000 in
theorem gw930 : Cond.code yX11_kindOf cX11_kindOf 3 (some .int) ∈ GT := gt_of 930 rfl rfl
set_option maxRecDepth 20000 in
theorem gw931 : Cond.methodLink RX11 53 yX11_apart ∈ GT := gt_of 931 rfl rfl
set_option maxRecDepth 20000 in
theorem gw932 : Cond.static yX11_apart ∈ GT := gt_of 932 rfl rfl
set_option maxRecDepth 20000 in
theorem gw933 : Cond.code yX11_apart cX11_apart 3 (some .int) ∈ GT := gt_of 933 rfl rfl
set_option maxRecDepth 20000 in
theorem gw934 : Cond.methodLink RX11 143 yX11_crossedBy ∈ GT := gt_of 934 rfl rfl
set_option maxRecDepth 20000 in
theorem gw936 : Cond.instanceMethod yX11_crossedBy ∈ GT := gt_of 936 rfl rfl
set_option maxRecDepth 20000 in
theorem gw937 : Cond.code yX11_crossedBy cX11_crossedBy 8 (some .int) ∈ GT := gt_of 937 rfl rfl
set_option maxRecDepth 20000 in
theorem gw938 : Cond.methodLink RX11 61 yX11_fromOf ∈ GT := gt_of 938 rfl rfl
set_option maxRecDepth 20000 in
theorem gw939 : Cond.static yX11_fromOf ∈ GT := gt_of 939 rfl rfl
set_option maxRecDepth 20000 in
theorem gw940 : Cond.code yX11_fromOf cX11_fromOf 1 (some .int) ∈ GT := gt_of 940 rfl rfl
set_option maxRecDepth 20000 in
theorem gw941 : Cond.methodLink RX11 65 yX11_toOf ∈ GT := gt_of 941 rfl rfl
set_option maxRecDepth 20000 in
theorem gw942 : Cond.static yX11_toOf ∈ GT := gt_of 942 rfl rfl
set_option maxRecDepth 20000 in
theorem gw943 : Cond.code yX11_toOf cX11_toOf 1 (some .int) ∈ GT := gt_of 943 rfl rfl
set_option maxRecDepth 20000 in
theorem gw944 : Cond.methodLink RX11 68 yX11_cross ∈ GT := gt_of 944 rfl rfl
set_option maxRecDepth 20000 in
theorem gw945 : Cond.static yX11_cross ∈ GT := gt_of 945 rfl rfl
set_option maxRecDepth 20000 in
theorem gw946 : Cond.code yX11_cross cX11_cross 4 (some .boolean) ∈ GT := gt_of 946 rfl rfl
set_option maxRecDepth 20000 in
theorem gw947 : Cond.methodLink RX11 57 yX11_isBetween ∈ GT := gt_of 947 rfl rfl
set_option maxRecDepth 20000 in
theorem gw948 : Cond.static yX11_isBetween ∈ GT := gt_of 948 rfl rfl
set_option maxRecDepth 20000 in
theorem gw949 : Cond.code yX11_isBetween cX11_isBetween 3 (some .boolean) ∈ GT := gt_of 949 rfl rfl
set_option maxRecDepth 20000 in
theorem gw950 : Cond.methodLink RX11 147 yX11_longOf ∈ GT := gt_of 950 rfl rfl
set_option maxRecDepth 20000 in
theorem gw952 : Cond.instanceMethod yX11_longOf ∈ GT := gt_of 952 rfl rfl
set_option maxRecDepth 20000 in
theorem gw953 : Cond.code yX11_longOf cX11_longOf 5 (some .int) ∈ GT := gt_of 953 rfl rfl
set_option maxRecDepth 20000 in
theorem gw954 : Cond.methodLink RX11 130 yX11_longBy ∈ GT := gt_of 954 rfl rfl
set_option maxRecDepth 20000 in
theorem gw955 : Cond.static yX11_longBy ∈ GT := gt_of 955 rfl rfl
set_option maxRecDepth 20000 in
theorem gw956 : Cond.code yX11_longBy cX11_longBy 2 (some .int) ∈ GT := gt_of 956 rfl rfl
set_option maxRecDepth 20000 in
theorem gw957 : Cond.methodLink RX11 108 yX11_windOn ∈ GT := gt_of 957 rfl rfl
set_option maxRecDepth 20000 in
theorem gw959 : Cond.instanceMethod yX11_windOn ∈ GT := gt_of 959 rfl rfl
set_option maxRecDepth 20000 in
theorem gw960 : Cond.code yX11_windOn cX11_windOn 7 (some .int) ∈ GT := gt_of 960 rfl rfl
set_option maxRecDepth 20000 in
theorem gw961 : Cond.methodLink RX11 150 yX11_asOne ∈ GT := gt_of 961 rfl rfl
set_option maxRecDepth 20000 in
theorem gw962 : Cond.static yX11_asOne ∈ GT := gt_of 962 rfl rfl
set_option maxRecDepth 20000 in
theorem gw963 : Cond.code yX11_asOne cX11_asOne 4 (some .int) ∈ GT := gt_of 963 rfl rfl
set_option maxRecDepth 20000 in
theorem gw964 : Cond.methodLink RL 30 yX11_board ∈ GT := gt_of 964 rfl rfl
set_option maxRecDepth 20000 in
theorem gw965 : Cond.instanceMethod yX11_board ∈ GT := gt_of 965 rfl rfl
set_option maxRecDepth 20000 in
theorem gw966 : Cond.selects RX11 yX11_board yX11_board ∈ GT := gt_of 966 rfl rfl
set_option maxRecDepth 20000 in
theorem gw967 : Cond.code yX11_board cX11_board 2 (some .int) ∈ GT := gt_of 967 rfl rfl
set_option maxRecDepth 20000 in
theorem gw968 : Cond.methodLink RL 35 yX11_thread ∈ GT := gt_of 968 rfl rfl
set_option maxRecDepth 20000 in
theorem gw969 : Cond.instanceMethod yX11_thread ∈ GT := gt_of 969 rfl rfl
set_option maxRecDepth 20000 in
theorem gw970 : Cond.selects RX11 yX11_thread yX11_thread ∈ GT := gt_of 970 rfl rfl
set_option maxRecDepth 20000 in
theorem gw971 : Cond.code yX11_thread cX11_thread 3 (some .int) ∈ GT := gt_of 971 rfl rfl
set_option maxRecDepth 20000 in
theorem gw972 : Cond.methodLink RX11 159 yX11_isThread ∈ GT := gt_of 972 rfl rfl
set_option maxRecDepth 20000 in
theorem gw974 : Cond.instanceMethod yX11_isThread ∈ GT := gt_of 974 rfl rfl
set_option maxRecDepth 20000 in
theorem gw975 : Cond.code yX11_isThread cX11_isThread 2 (some .boolean) ∈ GT := gt_of 975 rfl rfl
set_option maxRecDepth 20000 in
theorem gw976 : Cond.methodLink RX11 176 yX11_mayGo ∈ GT := gt_of 976 rfl rfl
set_option maxRecDepth 20000 in
theorem gw978 : Cond.instanceMethod yX11_mayGo ∈ GT := gt_of 978 rfl rfl
set_option maxRecDepth 20000 in
theorem gw979 : Cond.code yX11_mayGo cX11_mayGo 4 (some .int) ∈ GT := gt_of 979 rfl rfl
set_option maxRecDepth 20000 in
theorem gw980 : Cond.methodLink RX11 179 yX11_canUnwind ∈ GT := gt_of 980 rfl rfl
set_option maxRecDepth 20000 in
theorem gw982 : Cond.instanceMethod yX11_canUnwind ∈ GT := gt_of 982 rfl rfl
set_option maxRecDepth 20000 in
theorem gw983 : Cond.code yX11_canUnwind cX11_canUnwind 3 (some .boolean) ∈ GT := gt_of 983 rfl rfl
set_option maxRecDepth 20000 in
theorem gw984 : Cond.methodLink RX11 162 yX11_lastOf ∈ GT := gt_of 984 rfl rfl
set_option maxRecDepth 20000 in
theorem gw986 : Cond.instanceMethod yX11_lastOf ∈ GT := gt_of 986 rfl rfl
set_option maxRecDepth 20000 in
theorem gw987 : Cond.code yX11_lastOf cX11_lastOf 6 (some .int) ∈ GT := gt_of 987 rfl rfl
set_option maxRecDepth 20000 in
theorem gw988 : Cond.methodLink RX11 153 yX11_whichOf ∈ GT := gt_of 988 rfl rfl
set_option maxRecDepth 20000 in
theorem gw989 : Cond.static yX11_whichOf ∈ GT := gt_of 989 rfl rfl
set_option maxRecDepth 20000 in
theorem gw990 : Cond.code yX11_whichOf cX11_whichOf 1 (some .int) ∈ GT := gt_of 990 rfl rfl
set_option maxRecDepth 20000 in
theorem gw991 : Cond.methodLink RX11 165 yX11_overOf ∈ GT := gt_of 991 rfl rfl
set_option maxRecDepth 20000 in
theorem gw993 : Cond.instanceMethod yX11_overOf ∈ GT := gt_of 993 rfl rfl
set_option maxRecDepth 20000 in
theorem gw994 : Cond.code yX11_overOf cX11_overOf 5 (some .int) ∈ GT := gt_of 994 rfl rfl
set_option maxRecDepth 20000 in
theorem gw995 : Cond.methodLink RX11 156 yX11_crossOnes ∈ GT := gt_of 995 rfl rfl
set_option maxRecDepth 20000 in
theorem gw996 : Cond.static yX11_crossOnes ∈ GT := gt_of 996 rfl rfl
set_option maxRecDepth 20000 in
theorem gw997 : Cond.code yX11_crossOnes cX11_crossOnes 2 (some .boolean) ∈ GT := gt_of 997 rfl rfl
set_option maxRecDepth 20000 in
theorem gw998 : Cond.methodLink RL 39 yX11_stretch ∈ GT := gt_of 998 rfl rfl
set_option maxRecDepth 20000 in
theorem gw999 : Cond.instanceMethod yX11_stretch ∈ GT := gt_of 999 rfl rfl
set_option maxRecDepth 20000 in
theorem gw1000 : Cond.selects RX11 yX11_stretch yX11_stretch ∈ GT := gt_of 1000 rfl rfl
set_option maxRecDepth 20000 in
theorem gw1001 : Cond.code yX11_stretch cX11_stretch 4 (some .int) ∈ GT := gt_of 1001 rfl rfl
set_option maxRecDepth 20000 in
theorem gw1002 : Cond.methodLink RX11 182 yX11_aboveOf ∈ GT := gt_of 1002 rfl rfl
set_option maxRecDepth 20000 in
theorem gw1004 : Cond.instanceMethod yX11_aboveOf ∈ GT := gt_of 1004 rfl rfl
set_option maxRecDepth 20000 in
theorem gw1005 : Cond.code yX11_aboveOf cX11_aboveOf 6 (some .int) ∈ GT := gt_of 1005 rfl rfl
set_option maxRecDepth 20000 in
theorem gw1006 : Cond.methodLink RL 43 yX11_wind ∈ GT := gt_of 1006 rfl rfl
set_option maxRecDepth 20000 in
theorem gw1007 : Cond.instanceMethod yX11_wind ∈ GT := gt_of 1007 rfl rfl
set_option maxRecDepth 20000 in
theorem gw1008 : Cond.selects RX11 yX11_wind yX11_wind ∈ GT := gt_of 1008 rfl rfl
set_option maxRecDepth 20000 in
theorem gw1009 : Cond.code yX11_wind cX11_wind 3 (some .int) ∈ GT := gt_of 1009 rfl rfl
set_option maxRecDepth 20000 in
theorem gw1010 : Cond.methodLink RX11 188 yX11_keepAct ∈ GT := gt_of 1010 rfl rfl
set_option maxRecDepth 20000 in
theorem gw1012 : Cond.instanceMethod yX11_keepAct ∈ GT := gt_of 1012 rfl rfl
set_option maxRecDepth 20000 in
theorem gw1013 : Cond.code yX11_keepAct cX11_keepAct 2 none ∈ GT := gt_of 1013 rfl rfl
set_option maxRecDepth 20000 in
theorem gw1014 : Cond.methodLink RL 47 yX11_unwind ∈ GT := gt_of 1014 rfl rfl
set_option maxRecDepth 20000 in
theorem gw1015 : Cond.instanceMethod yX11_unwind ∈ GT := gt_of 1015 rfl rfl
set_option maxRecDepth 20000 in
theorem gw1016 : Cond.selects RX11 yX11_unwind yX11_unwind ∈ GT := gt_of 1016 rfl rfl
set_option maxRecDepth 20000 in
theorem gw1017 : Cond.code yX11_unwind cX11_unwind 2 (some .int) ∈ GT := gt_of 1017 rfl rfl
set_option maxRecDepth 20000 in
theorem gw1018 : Cond.methodLink RX11 191 yX11_unwindOn ∈ GT := gt_of 1018 rfl rfl
set_option maxRecDepth 20000 in
theorem gw1020 : Cond.instanceMethod yX11_unwindOn ∈ GT := gt_of 1020 rfl rfl
set_option maxRecDepth 20000 in
theorem gw1021 : Cond.code yX11_unwindOn cX11_unwindOn 4 none ∈ GT := gt_of 1021 rfl rfl
set_option maxRecDepth 20000 in
theorem gw1022 : Cond.methodLink RX11 168 yX11_takeOff ∈ GT := gt_of 1022 rfl rfl
set_option maxRecDepth 20000 in
theorem gw1024 : Cond.instanceMethod yX11_takeOff ∈ GT := gt_of 1024 rfl rfl
set_option maxRecDepth 20000 in
theorem gw1025 : Cond.code yX11_takeOff cX11_takeOff 5 none ∈ GT := gt_of 1025 rfl rfl
set_option maxRecDepth 20000 in
theorem gw1026 : Cond.methodLink RL 51 yX11_cut ∈ GT := gt_of 1026 rfl rfl
set_option maxRecDepth 20000 in
theorem gw1027 : Cond.instanceMethod yX11_cut ∈ GT := gt_of 1027 rfl rfl
set_option maxRecDepth 20000 in
theorem gw1028 : Cond.selects RX11 yX11_cut yX11_cut ∈ GT := gt_of 1028 rfl rfl
set_option maxRecDepth 20000 in
theorem gw1029 : Cond.code yX11_cut cX11_cut 2 (some .int) ∈ GT := gt_of 1029 rfl rfl
set_option maxRecDepth 20000 in
theorem gw1030 : Cond.methodLink RX11 194 yX11_cutOn ∈ GT := gt_of 1030 rfl rfl
set_option maxRecDepth 20000 in
theorem gw1032 : Cond.instanceMethod yX11_cutOn ∈ GT := gt_of 1032 rfl rfl
set_option maxRecDepth 20000 in
theorem gw1033 : Cond.code yX11_cutOn cX11_cutOn 5 (some .int) ∈ GT := gt_of 1033 rfl rfl
set_option maxRecDepth 20000 in
theorem gw1034 : Cond.methodLink RL 55 yX11_turn ∈ GT := gt_of 1034 rfl rfl
set_option maxRecDepth 20000 in
theorem gw1035 : Cond.instanceMethod yX11_turn ∈ GT := gt_of 1035 rfl rfl
set_option maxRecDepth 20000 in
theorem gw1036 : Cond.selects RX11 yX11_turn yX11_turn ∈ GT := gt_of 1036 rfl rfl
set_option maxRecDepth 20000 in
theorem gw1037 : Cond.code yX11_turn cX11_turn 1 (some .int) ∈ GT := gt_of 1037 rfl rfl
set_option maxRecDepth 20000 in
theorem gw1038 : Cond.methodLink RX11 197 yX11_renameOn ∈ GT := gt_of 1038 rfl rfl
set_option maxRecDepth 20000 in
theorem gw1040 : Cond.instanceMethod yX11_renameOn ∈ GT := gt_of 1040 rfl rfl
set_option maxRecDepth 20000 in
theorem gw1041 : Cond.code yX11_renameOn cX11_renameOn 7 none ∈ GT := gt_of 1041 rfl rfl
set_option maxRecDepth 20000 in
theorem gw1042 : Cond.methodLink RX11 172 yX11_renamed ∈ GT := gt_of 1042 rfl rfl
set_option maxRecDepth 20000 in
theorem gw1043 : Cond.static yX11_renamed ∈ GT := gt_of 1043 rfl rfl
set_option maxRecDepth 20000 in
theorem gw1044 : Cond.code yX11_renamed cX11_renamed 2 (some .int) ∈ GT := gt_of 1044 rfl rfl
set_option maxRecDepth 20000 in
theorem gw1045 : Cond.methodLink RL 59 yX11_behind ∈ GT := gt_of 1045 rfl rfl
set_option maxRecDepth 20000 in
theorem gw1046 : Cond.instanceMethod yX11_behind ∈ GT := gt_of 1046 rfl rfl
set_option maxRecDepth 20000 in
theorem gw1047 : Cond.selects RX11 yX11_behind yX11_behind ∈ GT := gt_of 1047 rfl rfl
set_option maxRecDepth 20000 in
theorem gw1048 : Cond.code yX11_behind cX11_behind 1 (some .int) ∈ GT := gt_of 1048 rfl rfl
set_option maxRecDepth 20000 in
theorem gw1049 : Cond.methodLink RL 63 yX11_undo ∈ GT := gt_of 1049 rfl rfl
set_option maxRecDepth 20000 in
theorem gw1050 : Cond.instanceMethod yX11_undo ∈ GT := gt_of 1050 rfl rfl
set_option maxRecDepth 20000 in
theorem gw1051 : Cond.selects RX11 yX11_undo yX11_undo ∈ GT := gt_of 1051 rfl rfl
set_option maxRecDepth 20000 in
theorem gw1052 : Cond.code yX11_undo cX11_undo 2 (some .int) ∈ GT := gt_of 1052 rfl rfl
set_option maxRecDepth 20000 in
theorem gw1053 : Cond.methodLink RL 67 yX11_crossings ∈ GT := gt_of 1053 rfl rfl
set_option maxRecDepth 20000 in
theorem gw1054 : Cond.instanceMethod yX11_crossings ∈ GT := gt_of 1054 rfl rfl
set_option maxRecDepth 20000 in
theorem gw1055 : Cond.selects RX11 yX11_crossings yX11_crossings ∈ GT := gt_of 1055 rfl rfl
set_option maxRecDepth 20000 in
theorem gw1056 : Cond.code yX11_crossings cX11_crossings 3 (some .int) ∈ GT := gt_of 1056 rfl rfl
set_option maxRecDepth 20000 in
theorem gw1057 : Cond.methodLink RX11 207 yX11_crossesOfTwo ∈ GT := gt_of 1057 rfl rfl
set_option maxRecDepth 20000 in
theorem gw1059 : Cond.instanceMethod yX11_crossesOfTwo ∈ GT := gt_of 1059 rfl rfl
set_option maxRecDepth 20000 in
theorem gw1060 : Cond.code yX11_crossesOfTwo cX11_crossesOfTwo 5 (some .int) ∈ GT := gt_of 1060 rfl rfl
set_option maxRecDepth 20000 in
theorem gw1061 : Cond.methodLink RX11 204 yX11_crossesOf ∈ GT := gt_of 1061 rfl rfl
set_option maxRecDepth 20000 in
theorem gw1063 : Cond.instanceMethod yX11_crossesOf ∈ GT := gt_of 1063 rfl rfl
set_option maxRecDepth 20000 in
theorem gw1064 : Cond.code yX11_crossesOf cX11_crossesOf 7 (some .int) ∈ GT := gt_of 1064 rfl rfl
set_option maxRecDepth 20000 in
theorem gw1065 : Cond.methodLink RX11 201 yX11_has ∈ GT := gt_of 1065 rfl rfl
set_option maxRecDepth 20000 in
theorem gw1066 : Cond.static yX11_has ∈ GT := gt_of 1066 rfl rfl
set_option maxRecDepth 20000 in
theorem gw1067 : Cond.code yX11_has cX11_has 2 (some .boolean) ∈ GT := gt_of 1067 rfl rfl
set_option maxRecDepth 20000 in
theorem gw1068 : Cond.methodLink RL 71 yX11_parts ∈ GT := gt_of 1068 rfl rfl
set_option maxRecDepth 20000 in
theorem gw1069 : Cond.instanceMethod yX11_parts ∈ GT := gt_of 1069 rfl rfl
set_option maxRecDepth 20000 in
theorem gw1070 : Cond.selects RX11 yX11_parts yX11_parts ∈ GT := gt_of 1070 rfl rfl
set_option maxRecDepth 20000 in
theorem gw1071 : Cond.code yX11_parts cX11_parts 1 (some .int) ∈ GT := gt_of 1071 rfl rfl
set_option maxRecDepth 20000 in
theorem gw1072 : Cond.methodLink RX11 213 yX11_partsOn ∈ GT := gt_of 1072 rfl rfl
set_option maxRecDepth 20000 in
theorem gw1074 : Cond.instanceMethod yX11_partsOn ∈ GT := gt_of 1074 rfl rfl
set_option maxRecDepth 20000 in
theorem gw1075 : Cond.code yX11_partsOn cX11_partsOn 5 (some .int) ∈ GT := gt_of 1075 rfl rfl
set_option maxRecDepth 20000 in
theorem gw1076 : Cond.methodLink RX11 210 yX11_findLines ∈ GT := gt_of 1076 rfl rfl
set_option maxRecDepth 20000 in
theorem gw1078 : Cond.instanceMethod yX11_findLines ∈ GT := gt_of 1078 rfl rfl
set_option maxRecDepth 20000 in
theorem gw1079 : Cond.code yX11_findLines cX11_findLines 5 none ∈ GT := gt_of 1079 rfl rfl
set_option maxRecDepth 20000 in
theorem gw1080 : Cond.methodLink RL 75 yX11_strokes ∈ GT := gt_of 1080 rfl rfl
set_option maxRecDepth 20000 in
theorem gw1081 : Cond.instanceMethod yX11_strokes ∈ GT := gt_of 1081 rfl rfl
set_option maxRecDepth 20000 in
theorem gw1082 : Cond.selects RX11 yX11_strokes yX11_strokes ∈ GT := gt_of 1082 rfl rfl
set_option maxRecDepth 20000 in
theorem gw1083 : Cond.code yX11_strokes cX11_strokes 7 (some .int) ∈ GT := gt_of 1083 rfl rfl
set_option maxRecDepth 20000 in
theorem gw1084 : Cond.methodLink RX11 216 yX11_linesAt ∈ GT := gt_of 1084 rfl rfl
set_option maxRecDepth 20000 in
theorem gw1086 : Cond.instanceMethod yX11_linesAt ∈ GT := gt_of 1086 rfl rfl
set_option maxRecDepth 20000 in
theorem gw1087 : Cond.code yX11_linesAt cX11_linesAt 4 (some .int) ∈ GT := gt_of 1087 rfl rfl
set_option maxRecDepth 20000 in
theorem gw1088 : Cond.methodLink RX11 219 yX11_partOf ∈ GT := gt_of 1088 rfl rfl
set_option maxRecDepth 20000 in
theorem gw1090 : Cond.instanceMethod yX11_partOf ∈ GT := gt_of 1090 rfl rfl
set_option maxRecDepth 20000 in
theorem gw1091 : Cond.code yX11_partOf cX11_partOf 6 (some .int) ∈ GT := gt_of 1091 rfl rfl
set_option maxRecDepth 20000 in
theorem gw1092 : Cond.methodLink RL 79 yX11_next ∈ GT := gt_of 1092 rfl rfl
set_option maxRecDepth 20000 in
theorem gw1093 : Cond.instanceMethod yX11_next ∈ GT := gt_of 1093 rfl rfl
set_option maxRecDepth 20000 in
theorem gw1094 : Cond.selects RX11 yX11_next yX11_next ∈ GT := gt_of 1094 rfl rfl
set_option maxRecDepth 20000 in
theorem gw1095 : Cond.code yX11_next cX11_next 7 (some .int) ∈ GT := gt_of 1095 rfl rfl
set_option maxRecDepth 20000 in
theorem gw1096 : Cond.methodLink RL 84 yX11_star ∈ GT := gt_of 1096 rfl rfl
set_option maxRecDepth 20000 in
theorem gw1097 : Cond.instanceMethod yX11_star ∈ GT := gt_of 1097 rfl rfl
set_option maxRecDepth 20000 in
theorem gw1098 : Cond.selects RX11 yX11_star yX11_star ∈ GT := gt_of 1098 rfl rfl
set_option maxRecDepth 20000 in
theorem gw1099 : Cond.code yX11_star cX11_star 10 (some .int) ∈ GT := gt_of 1099 rfl rfl
set_option maxRecDepth 20000 in
theorem gw1100 : Cond.constantLong RX11 222 (12) ∈ GT := gt_of 1100 rfl rfl
set_option maxRecDepth 20000 in
theorem gw1101 : Cond.constantLong RX11 224 (2) ∈ GT := gt_of 1101 rfl rfl
set_option maxRecDepth 20000 in
theorem gw1102 : Cond.methodLink RX11 226 yX11_layTrial ∈ GT := gt_of 1102 rfl rfl
set_option maxRecDepth 20000 in
theorem gw1104 : Cond.instanceMethod yX11_layTrial ∈ GT := gt_of 1104 rfl rfl
set_option maxRecDepth 20000 in
theorem gw1105 : Cond.code yX11_layTrial cX11_layTrial 2 none ∈ GT := gt_of 1105 rfl rfl
set_option maxRecDepth 20000 in
theorem gw1106 : Cond.methodLink RL 91 yX11_judge ∈ GT := gt_of 1106 rfl rfl
set_option maxRecDepth 20000 in
theorem gw1107 : Cond.instanceMethod yX11_judge ∈ GT := gt_of 1107 rfl rfl
set_option maxRecDepth 20000 in
theorem gw1108 : Cond.selects RX11 yX11_judge yX11_judge ∈ GT := gt_of 1108 rfl rfl
set_option maxRecDepth 20000 in
theorem gw1109 : Cond.code yX11_judge cX11_judge 6 (some .int) ∈ GT := gt_of 1109 rfl rfl
set_option maxRecDepth 20000 in
theorem gw1110 : Cond.constantLong RX11 231 (4) ∈ GT := gt_of 1110 rfl rfl
set_option maxRecDepth 20000 in
theorem gw1111 : Cond.methodLink RX11 233 yX11_tenThousandTo ∈ GT := gt_of 1111 rfl rfl
set_option maxRecDepth 20000 in
theorem gw1112 : Cond.static yX11_tenThousandTo ∈ GT := gt_of 1112 rfl rfl
set_option maxRecDepth 20000 in
theorem gw1113 : Cond.code yX11_tenThousandTo cX11_tenThousandTo 4 (some .long) ∈ GT := gt_of 1113 rfl rfl
set_option maxRecDepth 20000 in
theorem gw1114 : Cond.constantLong RX11 229 (10000) ∈ GT := gt_of 1114 rfl rfl
set_option maxRecDepth 20000 in
theorem gw1115 : Cond.methodLink RX11 237 yX11_tryThing ∈ GT := gt_of 1115 rfl rfl
set_option maxRecDepth 20000 in
theorem gw1117 : Cond.instanceMethod yX11_tryThing ∈ GT := gt_of 1117 rfl rfl
set_option maxRecDepth 20000 in
theorem gw1118 : Cond.code yX11_tryThing cX11_tryThing 8 (some .boolean) ∈ GT := gt_of 1118 rfl rfl
set_option maxRecDepth 20000 in
theorem gw1119 : Cond.methodLink RL 96 yX11_see ∈ GT := gt_of 1119 rfl rfl
set_option maxRecDepth 20000 in
theorem gw1120 : Cond.instanceMethod yX11_see ∈ GT := gt_of 1120 rfl rfl
set_option maxRecDepth 20000 in
theorem gw1121 : Cond.selects RX11 yX11_see yX11_see ∈ GT := gt_of 1121 rfl rfl
set_option maxRecDepth 20000 in
theorem gw1122 : Cond.code yX11_see cX11_see 4 (some .int) ∈ GT := gt_of 1122 rfl rfl
set_option maxRecDepth 20000 in
theorem gw1123 : Cond.methodLink RL 100 yX11_unsee ∈ GT := gt_of 1123 rfl rfl
set_option maxRecDepth 20000 in
theorem gw1124 : Cond.instanceMethod yX11_unsee ∈ GT := gt_of 1124 rfl rfl
set_option maxRecDepth 20000 in
theorem gw1125 : Cond.selects RX11 yX11_unsee yX11_unsee ∈ GT := gt_of 1125 rfl rfl
set_option maxRecDepth 20000 in
theorem gw1126 : Cond.code yX11_unsee cX11_unsee 2 (some .int) ∈ GT := gt_of 1126 rfl rfl
set_option maxRecDepth 20000 in
theorem gw1127 : Cond.methodLink RL 104 yX11_stars ∈ GT := gt_of 1127 rfl rfl
set_option maxRecDepth 20000 in
theorem gw1128 : Cond.instanceMethod yX11_stars ∈ GT := gt_of 1128 rfl rfl
set_option maxRecDepth 20000 in
theorem gw1129 : Cond.selects RX11 yX11_stars yX11_stars ∈ GT := gt_of 1129 rfl rfl
set_option maxRecDepth 20000 in
theorem gw1130 : Cond.code yX11_stars cX11_stars 9 (some .int) ∈ GT := gt_of 1130 rfl rfl
set_option maxRecDepth 20000 in
theorem gw1131 : Cond.methodLink RL 109 yX11_share ∈ GT := gt_of 1131 rfl rfl
set_option maxRecDepth 20000 in
theorem gw1132 : Cond.instanceMethod yX11_share ∈ GT := gt_of 1132 rfl rfl
set_option maxRecDepth 20000 in
theorem gw1133 : Cond.selects RX11 yX11_share yX11_share ∈ GT := gt_of 1133 rfl rfl
set_option maxRecDepth 20000 in
theorem gw1134 : Cond.code yX11_share cX11_share 6 (some .int) ∈ GT := gt_of 1134 rfl rfl
set_option maxRecDepth 20000 in
theorem gw1135 : Cond.methodLink RX11 243 yX11_ones ∈ GT := gt_of 1135 rfl rfl
set_option maxRecDepth 20000 in
theorem gw1136 : Cond.static yX11_ones ∈ GT := gt_of 1136 rfl rfl
set_option maxRecDepth 20000 in
theorem gw1137 : Cond.code yX11_ones cX11_ones 3 (some .int) ∈ GT := gt_of 1137 rfl rfl
set_option maxRecDepth 20000 in
theorem gw1138 : Cond.methodLink RX11 246 yX11_factorial ∈ GT := gt_of 1138 rfl rfl
set_option maxRecDepth 20000 in
theorem gw1139 : Cond.static yX11_factorial ∈ GT := gt_of 1139 rfl rfl
set_option maxRecDepth 20000 in
theorem gw1140 : Cond.code yX11_factorial cX11_factorial 3 (some .int) ∈ GT := gt_of 1140 rfl rfl
set_option maxRecDepth 20000 in
theorem gw1141 : Cond.methodLink RX11 249 yX11_common ∈ GT := gt_of 1141 rfl rfl
set_option maxRecDepth 20000 in
theorem gw1142 : Cond.static yX11_common ∈ GT := gt_of 1142 rfl rfl
set_option maxRecDepth 20000 in
theorem gw1143 : Cond.code yX11_common cX11_common 5 (some .int) ∈ GT := gt_of 1143 rfl rfl
set_option maxRecDepth 20000 in
theorem gw1144 : Cond.methodLink RL 113 yX11_rests ∈ GT := gt_of 1144 rfl rfl
set_option maxRecDepth 20000 in
theorem gw1145 : Cond.instanceMethod yX11_rests ∈ GT := gt_of 1145 rfl rfl
set_option maxRecDepth 20000 in
theorem gw1146 : Cond.selects RX11 yX11_rests yX11_rests ∈ GT := gt_of 1146 rfl rfl
set_option maxRecDepth 20000 in
theorem gw1147 : Cond.code yX11_rests cX11_rests 7 (some .int) ∈ GT := gt_of 1147 rfl rfl
set_option maxRecDepth 20000 in
theorem gw1148 : Cond.methodLink RX11 259 yX11_isRest ∈ GT := gt_of 1148 rfl rfl
set_option maxRecDepth 20000 in
theorem gw1150 : Cond.instanceMethod yX11_isRest ∈ GT := gt_of 1150 rfl rfl
set_option maxRecDepth 20000 in
theorem gw1151 : Cond.code yX11_isRest cX11_isRest 5 (some .boolean) ∈ GT := gt_of 1151 rfl rfl
set_option maxRecDepth 20000 in
theorem gw1152 : Cond.methodLink RX11 255 yX11_gain ∈ GT := gt_of 1152 rfl rfl
set_option maxRecDepth 20000 in
theorem gw1154 : Cond.instanceMethod yX11_gain ∈ GT := gt_of 1154 rfl rfl
set_option maxRecDepth 20000 in
theorem gw1155 : Cond.code yX11_gain cX11_gain 8 (some .int) ∈ GT := gt_of 1155 rfl rfl
set_option maxRecDepth 20000 in
theorem gw1156 : Cond.methodLink RX11 252 yX11_choose ∈ GT := gt_of 1156 rfl rfl
set_option maxRecDepth 20000 in
theorem gw1158 : Cond.instanceMethod yX11_choose ∈ GT := gt_of 1158 rfl rfl
set_option maxRecDepth 20000 in
theorem gw1159 : Cond.code yX11_choose cX11_choose 4 none ∈ GT := gt_of 1159 rfl rfl
set_option maxRecDepth 20000 in
theorem gw1160 : Cond.methodLink RL 118 yX11_snaps ∈ GT := gt_of 1160 rfl rfl
set_option maxRecDepth 20000 in
theorem gw1161 : Cond.instanceMethod yX11_snaps ∈ GT := gt_of 1161 rfl rfl
set_option maxRecDepth 20000 in
theorem gw1162 : Cond.selects RX11 yX11_snaps yX11_snaps ∈ GT := gt_of 1162 rfl rfl
set_option maxRecDepth 20000 in
theorem gw1163 : Cond.code yX11_snaps cX11_snaps 9 (some .int) ∈ GT := gt_of 1163 rfl rfl
set_option maxRecDepth 20000 in
theorem gw1164 : Cond.constantLong RX11 262 (99) ∈ GT := gt_of 1164 rfl rfl
set_option maxRecDepth 20000 in
theorem gw1165 : Cond.constantLong RX11 264 (10) ∈ GT := gt_of 1165 rfl rfl
set_option maxRecDepth 20000 in
theorem gw1166 : Cond.methodLink RL 123 yX11_seed ∈ GT := gt_of 1166 rfl rfl
set_option maxRecDepth 20000 in
theorem gw1167 : Cond.instanceMethod yX11_seed ∈ GT := gt_of 1167 rfl rfl
set_option maxRecDepth 20000 in
theorem gw1168 : Cond.selects RX11 yX11_seed yX11_seed ∈ GT := gt_of 1168 rfl rfl
set_option maxRecDepth 20000 in
theorem gw1169 : Cond.code yX11_seed cX11_seed 5 (some .long) ∈ GT := gt_of 1169 rfl rfl
set_option maxRecDepth 20000 in
theorem gw1170 : Cond.methodLink RL 127 yX11_years ∈ GT := gt_of 1170 rfl rfl
set_option maxRecDepth 20000 in
theorem gw1171 : Cond.instanceMethod yX11_years ∈ GT := gt_of 1171 rfl rfl
set_option maxRecDepth 20000 in
theorem gw1172 : Cond.selects RX11 yX11_years yX11_years ∈ GT := gt_of 1172 rfl rfl
set_option maxRecDepth 20000 in
theorem gw1173 : Cond.code yX11_years cX11_years 5 (some .int) ∈ GT := gt_of 1173 rfl rfl
set_option maxRecDepth 20000 in
theorem gw1174 : Cond.constantLong RX11 270 (30) ∈ GT := gt_of 1174 rfl rfl
set_option maxRecDepth 20000 in
theorem gw1175 : Cond.constantLong RX11 272 (6364136223846793005) ∈ GT := gt_of 1175 rfl rfl
set_option maxRecDepth 20000 in
theorem gw1176 : Cond.constantLong RX11 274 (1442695040888963407) ∈ GT := gt_of 1176 rfl rfl
set_option maxRecDepth 20000 in
theorem gw1177 : Cond.constantLong RX11 276 (60) ∈ GT := gt_of 1177 rfl rfl
set_option maxRecDepth 20000 in
theorem gw1178 : Cond.methodLink RL 131 yX11_keep ∈ GT := gt_of 1178 rfl rfl
set_option maxRecDepth 20000 in
theorem gw1179 : Cond.instanceMethod yX11_keep ∈ GT := gt_of 1179 rfl rfl
set_option maxRecDepth 20000 in
theorem gw1180 : Cond.selects RX11 yX11_keep yX11_keep ∈ GT := gt_of 1180 rfl rfl
set_option maxRecDepth 20000 in
theorem gw1181 : Cond.code yX11_keep cX11_keep 3 (some .int) ∈ GT := gt_of 1181 rfl rfl
set_option maxRecDepth 20000 in
theorem gw1182 : Cond.methodLink RL 135 yX11_again ∈ GT := gt_of 1182 rfl rfl
set_option maxRecDepth 20000 in
theorem gw1183 : Cond.instanceMethod yX11_again ∈ GT := gt_of 1183 rfl rfl
set_option maxRecDepth 20000 in
theorem gw1184 : Cond.selects RX11 yX11_again yX11_again ∈ GT := gt_of 1184 rfl rfl
set_option maxRecDepth 20000 in
theorem gw1185 : Cond.code yX11_again cX11_again 3 (some .int) ∈ GT := gt_of 1185 rfl rfl
set_option maxRecDepth 20000 in
theorem gw1186 : Cond.methodLink RL 139 yX11_count ∈ GT := gt_of 1186 rfl rfl
set_option maxRecDepth 20000 in
theorem gw1187 : Cond.instanceMethod yX11_count ∈ GT := gt_of 1187 rfl rfl
set_option maxRecDepth 20000 in
theorem gw1188 : Cond.selects RX11 yX11_count yX11_count ∈ GT := gt_of 1188 rfl rfl
set_option maxRecDepth 20000 in
theorem gw1189 : Cond.code yX11_count cX11_count 2 (some .int) ∈ GT := gt_of 1189 rfl rfl
set_option maxRecDepth 20000 in
theorem gw1190 : Cond.methodLink RX11 278 yX11_usedNails ∈ GT := gt_of 1190 rfl rfl
set_option maxRecDepth 20000 in
theorem gw1192 : Cond.instanceMethod yX11_usedNails ∈ GT := gt_of 1192 rfl rfl
set_option maxRecDepth 20000 in
theorem gw1193 : Cond.code yX11_usedNails cX11_usedNails 3 (some .int) ∈ GT := gt_of 1193 rfl rfl
set_option maxRecDepth 20000 in
theorem gw1194 : Cond.constantLong RL 85 (4294967295) ∈ GT := gt_of 1194 rfl rfl
set_option maxRecDepth 20000 in
theorem gw1195 : Cond.arrayClass .long ∈ GT := gt_of 1195 rfl rfl
