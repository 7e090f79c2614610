theorem inGX0 : ∀ w ∈ u_ws RX0 TX0 4, w ∈ GT := List.forall_mem_cons.mpr ⟨GT_at 226 (by decide +kernel) (by decide +kernel), List.forall_mem_cons.mpr ⟨GT_at 228 (by decide +kernel) (by decide +kernel), List.forall_mem_cons.mpr ⟨GT_at 230 (by decide +kernel) (by decide +kernel), List.forall_mem_cons.mpr ⟨GT_at 232 (by decide +kernel) (by decide +kernel), fun _ h => absurd h List.not_mem_nil⟩⟩⟩⟩
theorem inGX1 : ∀ w ∈ u_ws RX1 TX1 11, w ∈ GT := List.forall_mem_cons.mpr ⟨GT_at 190 (by decide +kernel) (by decide +kernel), List.forall_mem_cons.mpr ⟨GT_at 192 (by decide +kernel) (by decide +kernel), List.forall_mem_cons.mpr ⟨GT_at 194 (by decide +kernel) (by decide +kernel), List.forall_mem_cons.mpr ⟨GT_at 196 (by decide +kernel) (by decide +kernel), List.forall_mem_cons.mpr ⟨GT_at 198 (by decide +kernel) (by decide +kernel), List.forall_mem_cons.mpr ⟨GT_at 200 (by decide +kernel) (by decide +kernel), List.forall_mem_cons.mpr ⟨GT_at 202 (by decide +kernel) (by decide +kernel), List.forall_mem_cons.mpr ⟨GT_at 204 (by decide +kernel) (by decide +kernel), List.forall_mem_cons.mpr ⟨GT_at 206 (by decide +kernel) (by decide +kernel), List.forall_mem_cons.mpr ⟨GT_at 208 (by decide +kernel) (by decide +kernel), List.forall_mem_cons.mpr ⟨GT_at 210 (by decide +kernel) (by decide +kernel), fun _ h => absurd h List.not_mem_nil⟩⟩⟩⟩⟩⟩⟩⟩⟩⟩⟩
theorem inGX2 : ∀ w ∈ u_ws RX2 TX2 3, w ∈ GT := List.forall_mem_cons.mpr ⟨GT_at 112 (by decide +kernel) (by decide +kernel), List.forall_mem_cons.mpr ⟨GT_at 114 (by decide +kernel) (by decide +kernel), List.forall_mem_cons.mpr ⟨GT_at 116 (by decide +kernel) (by decide +kernel), fun _ h => absurd h List.not_mem_nil⟩⟩⟩
theorem inGX3 : ∀ w ∈ u_ws RX3 TX3 11, w ∈ GT := List.forall_mem_cons.mpr ⟨GT_at 141 (by decide +kernel) (by decide +kernel), List.forall_mem_cons.mpr ⟨GT_at 143 (by decide +kernel) (by decide +kernel), List.forall_mem_cons.mpr ⟨GT_at 145 (by decide +kernel) (by decide +kernel), List.forall_mem_cons.mpr ⟨GT_at 147 (by decide +kernel) (by decide +kernel), List.forall_mem_cons.mpr ⟨GT_at 149 (by decide +kernel) (by decide +kernel), List.forall_mem_cons.mpr ⟨GT_at 151 (by decide +kernel) (by decide +kernel), List.forall_mem_cons.mpr ⟨GT_at 153 (by decide +kernel) (by decide +kernel), List.forall_mem_cons.mpr ⟨GT_at 155 (by decide +kernel) (by decide +kernel), List.forall_mem_cons.mpr ⟨GT_at 157 (by decide +kernel) (by decide +kernel), List.forall_mem_cons.mpr ⟨GT_at 159 (by decide +kernel) (by decide +kernel), List.forall_mem_cons.mpr ⟨GT_at 161 (by decide +kernel) (by decide +kernel), fun _ h => absurd h List.not_mem_nil⟩⟩⟩⟩⟩⟩⟩⟩⟩⟩⟩
theorem inGX4 : ∀ w ∈ u_ws RX4 TX4 9, w ∈ GT := List.forall_mem_cons.mpr ⟨GT_at 276 (by decide +kernel) (by decide +kernel), List.forall_mem_cons.mpr ⟨GT_at 278 (by decide +kernel) (by decide +kernel), List.forall_mem_cons.mpr ⟨GT_at 280 (by decide +kernel) (by decide +kernel), List.forall_mem_cons.mpr ⟨GT_at 282 (by decide +kernel) (by decide +kernel), List.forall_mem_cons.mpr ⟨GT_at 284 (by decide +kernel) (by decide +kernel), List.forall_mem_cons.mpr ⟨GT_at 286 (by decide +kernel) (by decide +kernel), List.forall_mem_cons.mpr ⟨GT_at 288 (by decide +kernel) (by decide +kernel), List.forall_mem_cons.mpr ⟨GT_at 290 (by decide +kernel) (by decide +kernel), List.forall_mem_cons.mpr ⟨GT_at 292 (by decide +kernel) (by decide +kernel), fun _ h => absurd h List.not_mem_nil⟩⟩⟩⟩⟩⟩⟩⟩⟩
theorem inGX5 : ∀ w ∈ u_ws RX5 TX5 6, w ∈ GT := List.forall_mem_cons.mpr ⟨GT_at 84 (by decide +kernel) (by decide +kernel), List.forall_mem_cons.mpr ⟨GT_at 86 (by decide +kernel) (by decide +kernel), List.forall_mem_cons.mpr ⟨GT_at 88 (by decide +kernel) (by decide +kernel), List.forall_mem_cons.mpr ⟨GT_at 90 (by decide +kernel) (by decide +kernel), List.forall_mem_cons.mpr ⟨GT_at 92 (by decide +kernel) (by decide +kernel), List.forall_mem_cons.mpr ⟨GT_at 94 (by decide +kernel) (by decide +kernel), fun _ h => absurd h List.not_mem_nil⟩⟩⟩⟩⟩⟩
theorem inGX6 : ∀ w ∈ u_ws RX6 TX6 2, w ∈ GT := List.forall_mem_cons.mpr ⟨GT_at 42 (by decide +kernel) (by decide +kernel), List.forall_mem_cons.mpr ⟨GT_at 44 (by decide +kernel) (by decide +kernel), fun _ h => absurd h List.not_mem_nil⟩⟩
theorem inGX7 : ∀ w ∈ u_ws RX7 TX7 5, w ∈ GT := List.forall_mem_cons.mpr ⟨GT_at 248 (by decide +kernel) (by decide +kernel), List.forall_mem_cons.mpr ⟨GT_at 250 (by decide +kernel) (by decide +kernel), List.forall_mem_cons.mpr ⟨GT_at 252 (by decide +kernel) (by decide +kernel), List.forall_mem_cons.mpr ⟨GT_at 254 (by decide +kernel) (by decide +kernel), List.forall_mem_cons.mpr ⟨GT_at 256 (by decide +kernel) (by decide +kernel), fun _ h => absurd h List.not_mem_nil⟩⟩⟩⟩⟩
theorem inGX8 : ∀ w ∈ u_ws RX8 TX8 9, w ∈ GT := List.forall_mem_cons.mpr ⟨GT_at 304 (by decide +kernel) (by decide +kernel), List.forall_mem_cons.mpr ⟨GT_at 306 (by decide +kernel) (by decide +kernel), List.forall_mem_cons.mpr ⟨GT_at 308 (by decide +kernel) (by decide +kernel), List.forall_mem_cons.mpr ⟨GT_at 310 (by decide +kernel) (by decide +kernel), List.forall_mem_cons.mpr ⟨GT_at 312 (by decide +kernel) (by decide +kernel), List.forall_mem_cons.mpr ⟨GT_at 314 (by decide +kernel) (by decide +kernel), List.forall_mem_cons.mpr ⟨GT_at 316 (by decide +kernel) (by decide +kernel), List.forall_mem_cons.mpr ⟨GT_at 318 (by decide +kernel) (by decide +kernel), List.forall_mem_cons.mpr ⟨GT_at 320 (by decide +kernel) (by decide +kernel), fun _ h => absurd h List.not_mem_nil⟩⟩⟩⟩⟩⟩⟩⟩⟩
theorem inGX10 : ∀ w ∈ u_ws RX10 TX10 35, w ∈ GT := List.forall_mem_cons.mpr ⟨GT_at 923 (by decide +kernel) (by decide +kernel), List.forall_mem_cons.mpr ⟨GT_at 925 (by decide +kernel) (by decide +kernel), List.forall_mem_cons.mpr ⟨GT_at 927 (by decide +kernel) (by decide +kernel), List.forall_mem_cons.mpr ⟨GT_at 929 (by decide +kernel) (by decide +kernel), List.forall_mem_cons.mpr ⟨GT_at 931 (by decide +kernel) (by decide +kernel), List.forall_mem_cons.mpr ⟨GT_at 933 (by decide +kernel) (by decide +kernel), List.forall_mem_cons.mpr ⟨GT_at 935 (by decide +kernel) (by decide +kernel), List.forall_mem_cons.mpr ⟨GT_at 937 (by decide +kernel) (by decide +kernel), List.forall_mem_cons.mpr ⟨GT_at 939 (by decide +kernel) (by decide +kernel), List.forall_mem_cons.mpr ⟨GT_at 941 (by decide +kernel) (by decide +kernel), List.forall_mem_cons.mpr ⟨GT_at 943 (by decide +kernel) (by decide +kernel), List.forall_mem_cons.mpr ⟨GT_at 945 (by decide +kernel) (by decide +kernel), List.forall_mem_cons.mpr ⟨GT_at 947 (by decide +kernel) (by decide +kernel), List.forall_mem_cons.mpr ⟨GT_at 949 (by decide +kernel) (by decide +kernel), List.forall_mem_cons.mpr ⟨GT_at 951 (by decide +kernel) (by decide +kernel), List.forall_mem_cons.mpr ⟨GT_at 953 (by decide +kernel) (by decide +kernel), List.forall_mem_cons.mpr ⟨GT_at 955 (by decide +kernel) (by decide +kernel), List.forall_mem_cons.mpr ⟨GT_at 957 (by decide +kernel) (by decide +kernel), List.forall_mem_cons.mpr ⟨GT_at 959 (by decide +kernel) (by decide +kernel), List.forall_mem_cons.mpr ⟨GT_at 961 (by decide +kernel) (by decide +kernel), List.forall_mem_cons.mpr ⟨GT_at 963 (by decide +kernel) (by decide +kernel), List.forall_mem_cons.mpr ⟨GT_at 965 (by decide +kernel) (by decide +kernel), List.forall_mem_cons.mpr ⟨GT_at 967 (by decide +kernel) (by decide +kernel), List.forall_mem_cons.mpr ⟨GT_at 969 (by decide +kernel) (by decide +kernel), List.forall_mem_cons.mpr ⟨GT_at 971 (by decide +kernel) (by decide +kernel), List.forall_mem_cons.mpr ⟨GT_at 973 (by decide +kernel) (by decide +kernel), List.forall_mem_cons.mpr ⟨GT_at 975 (by decide +kernel) (by decide +kernel), List.forall_mem_cons.mpr ⟨GT_at 977 (by decide +kernel) (by decide +kernel), List.forall_mem_cons.mpr ⟨GT_at 979 (by decide +kernel) (by decide +kernel), List.forall_mem_cons.mpr ⟨GT_at 981 (by decide +kernel) (by decide +kernel), List.forall_mem_cons.mpr ⟨GT_at 983 (by decide +kernel) (by decide +kernel), List.forall_mem_cons.mpr ⟨GT_at 985 (by decide +kernel) (by decide +kernel), List.forall_mem_cons.mpr ⟨GT_at 987 (by decide +kernel) (by decide +kernel), List.forall_mem_cons.mpr ⟨GT_at 989 (by decide +kernel) (by decide +kernel), List.forall_mem_cons.mpr ⟨GT_at 991 (by decide +kernel) (by decide +kernel), fun _ h => absurd h List.not_mem_nil⟩⟩⟩⟩⟩⟩⟩⟩⟩⟩⟩⟩⟩⟩⟩⟩⟩⟩⟩⟩⟩⟩⟩⟩⟩⟩⟩⟩⟩⟩⟩⟩⟩⟩⟩
theorem inGX9 : ∀ w ∈ u_ws RX9 TS9 2, w ∈ GT := List.forall_mem_cons.mpr ⟨GT_at 882 (by decide +kernel) (by decide +kernel), List.forall_mem_cons.mpr ⟨GT_at 884 (by decide +kernel) (by decide +kernel), fun _ h => absurd h List.not_mem_nil⟩⟩
theorem fwX8_12 : Cond.fieldLink RX8 12 "RightsHouse" "tape" "LRightsHouse$Tape;" ∈ GT := GT_at 295 (by decide +kernel) (by decide +kernel)
theorem fwX8_19 : Cond.fieldLink RX8 19 "RightsHouse" "plan" "LRightsHouse$Plan;" ∈ GT := GT_at 296 (by decide +kernel) (by decide +kernel)
theorem fwX8_28 : Cond.fieldLink RX8 28 "RightsHouse" "reader" "LRightsHouse$Reader;" ∈ GT := GT_at 297 (by decide +kernel) (by decide +kernel)
theorem fwX8_37 : Cond.fieldLink RX8 37 "RightsHouse" "flow" "LRightsHouse$Flow;" ∈ GT := GT_at 298 (by decide +kernel) (by decide +kernel)
theorem fwX8_46 : Cond.fieldLink RX8 46 "RightsHouse" "doors" "LRightsHouse$Doors;" ∈ GT := GT_at 299 (by decide +kernel) (by decide +kernel)
theorem fwX8_53 : Cond.fieldLink RX8 53 "RightsHouse" "trail" "LRightsHouse$Trail;" ∈ GT := GT_at 300 (by decide +kernel) (by decide +kernel)
theorem fwX8_62 : Cond.fieldLink RX8 62 "RightsHouse" "remedy" "LRightsHouse$Remedy;" ∈ GT := GT_at 301 (by decide +kernel) (by decide +kernel)
theorem fwX8_66 : Cond.fieldLink RX8 66 "RightsHouse" "refusal" "I" ∈ GT := GT_at 302 (by decide +kernel) (by decide +kernel)
theorem fwX8_70 : Cond.fieldLink RX8 70 "RightsHouse" "stale" "Z" ∈ GT := GT_at 303 (by decide +kernel) (by decide +kernel)
theorem fwX8_82 : Cond.fieldLink RX8 82 "RightsHouse$Plan" "size" "I" ∈ GT := GT_at 107 (by decide +kernel) (by decide +kernel)
theorem fwX8_97 : Cond.fieldLink RX8 97 "RightsHouse$Plan" "grants" "[I" ∈ GT := GT_at 100 (by decide +kernel) (by decide +kernel)
theorem fwX8_105 : Cond.fieldLink RX8 105 "RightsHouse$Tape" "size" "I" ∈ GT := GT_at 41 (by decide +kernel) (by decide +kernel)
theorem fwX8_114 : Cond.fieldLink RX8 114 "RightsHouse$Plan" "sheets" "[LRightsHouse$Sheet;" ∈ GT := GT_at 104 (by decide +kernel) (by decide +kernel)
theorem fwX8_118 : Cond.fieldLink RX8 118 "RightsHouse$Reader" "draft" "LRightsHouse$Sheet;" ∈ GT := GT_at 128 (by decide +kernel) (by decide +kernel)
theorem fwX8_128 : Cond.fieldLink RX8 128 "RightsHouse$Sheet" "size" "I" ∈ GT := GT_at 82 (by decide +kernel) (by decide +kernel)
theorem fwX8_129 : Cond.fieldLink RX8 129 "RightsHouse$Reader" "wrongness" "I" ∈ GT := GT_at 131 (by decide +kernel) (by decide +kernel)
theorem fwX8_132 : Cond.fieldLink RX8 132 "RightsHouse$Reader" "place" "I" ∈ GT := GT_at 133 (by decide +kernel) (by decide +kernel)
theorem fwX8_136 : Cond.fieldLink RX8 136 "RightsHouse$Sheet" "kinds" "[I" ∈ GT := GT_at 64 (by decide +kernel) (by decide +kernel)
theorem fwX8_139 : Cond.fieldLink RX8 139 "RightsHouse$Sheet" "numbers" "[I" ∈ GT := GT_at 68 (by decide +kernel) (by decide +kernel)
theorem fwX8_142 : Cond.fieldLink RX8 142 "RightsHouse$Sheet" "firsts" "[I" ∈ GT := GT_at 72 (by decide +kernel) (by decide +kernel)
theorem fwX8_145 : Cond.fieldLink RX8 145 "RightsHouse$Sheet" "seconds" "[I" ∈ GT := GT_at 74 (by decide +kernel) (by decide +kernel)
theorem fwX8_172 : Cond.fieldLink RX8 172 "RightsHouse$Doors" "arriving" "[I" ∈ GT := GT_at 225 (by decide +kernel) (by decide +kernel)
theorem fwX8_188 : Cond.fieldLink RX8 188 "RightsHouse$Trail" "size" "I" ∈ GT := GT_at 247 (by decide +kernel) (by decide +kernel)
theorem fwX8_192 : Cond.fieldLink RX8 192 "RightsHouse$Trail" "steps" "[I" ∈ GT := GT_at 245 (by decide +kernel) (by decide +kernel)
theorem fwX8_206 : Cond.fieldLink RX8 206 "RightsHouse$Remedy" "size" "I" ∈ GT := GT_at 275 (by decide +kernel) (by decide +kernel)
theorem fwX8_213 : Cond.fieldLink RX8 213 "RightsHouse$Remedy" "taken" "[I" ∈ GT := GT_at 272 (by decide +kernel) (by decide +kernel)
theorem fwX0_9 : Cond.fieldLink RX0 9 "RightsHouse$Doors" "told" "[I" ∈ GT := GT_at 221 (by decide +kernel) (by decide +kernel)
theorem fwX0_15 : Cond.fieldLink RX0 15 "RightsHouse$Doors" "arriving" "[I" ∈ GT := GT_at 223 (by decide +kernel) (by decide +kernel)
theorem fwX0_18 : Cond.fieldLink RX0 18 "RightsHouse$Doors" "plan" "LRightsHouse$Plan;" ∈ GT := GT_at 219 (by decide +kernel) (by decide +kernel)
theorem fwX0_22 : Cond.fieldLink RX0 22 "RightsHouse$Doors" "flow" "LRightsHouse$Flow;" ∈ GT := GT_at 220 (by decide +kernel) (by decide +kernel)
theorem fwX0_32 : Cond.fieldLink RX0 32 "RightsHouse$Plan" "size" "I" ∈ GT := GT_at 108 (by decide +kernel) (by decide +kernel)
theorem fwX0_38 : Cond.fieldLink RX0 38 "RightsHouse$Flow" "puts" "[I" ∈ GT := GT_at 177 (by decide +kernel) (by decide +kernel)
theorem fwX1_9 : Cond.fieldLink RX1 9 "RightsHouse$Flow" "below" "[I" ∈ GT := GT_at 173 (by decide +kernel) (by decide +kernel)
theorem fwX1_15 : Cond.fieldLink RX1 15 "RightsHouse$Flow" "gets" "[I" ∈ GT := GT_at 174 (by decide +kernel) (by decide +kernel)
theorem fwX1_18 : Cond.fieldLink RX1 18 "RightsHouse$Flow" "puts" "[I" ∈ GT := GT_at 176 (by decide +kernel) (by decide +kernel)
theorem fwX1_21 : Cond.fieldLink RX1 21 "RightsHouse$Flow" "washed" "[I" ∈ GT := GT_at 178 (by decide +kernel) (by decide +kernel)
theorem fwX1_24 : Cond.fieldLink RX1 24 "RightsHouse$Flow" "linkFrom" "[I" ∈ GT := GT_at 180 (by decide +kernel) (by decide +kernel)
theorem fwX1_27 : Cond.fieldLink RX1 27 "RightsHouse$Flow" "linkTo" "[I" ∈ GT := GT_at 182 (by decide +kernel) (by decide +kernel)
theorem fwX1_30 : Cond.fieldLink RX1 30 "RightsHouse$Flow" "linkStep" "[I" ∈ GT := GT_at 184 (by decide +kernel) (by decide +kernel)
theorem fwX1_35 : Cond.fieldLink RX1 35 "RightsHouse$Flow" "came" "[[I" ∈ GT := GT_at 186 (by decide +kernel) (by decide +kernel)
theorem fwX1_38 : Cond.fieldLink RX1 38 "RightsHouse$Flow" "plan" "LRightsHouse$Plan;" ∈ GT := GT_at 172 (by decide +kernel) (by decide +kernel)
theorem fwX1_42 : Cond.fieldLink RX1 42 "RightsHouse$Flow" "live" "I" ∈ GT := GT_at 189 (by decide +kernel) (by decide +kernel)
theorem fwX1_50 : Cond.fieldLink RX1 50 "RightsHouse$Plan" "size" "I" ∈ GT := GT_at 110 (by decide +kernel) (by decide +kernel)
theorem fwX1_63 : Cond.fieldLink RX1 63 "RightsHouse$Plan" "grants" "[I" ∈ GT := GT_at 101 (by decide +kernel) (by decide +kernel)
theorem fwX1_69 : Cond.fieldLink RX1 69 "RightsHouse$Flow" "linkCount" "I" ∈ GT := GT_at 188 (by decide +kernel) (by decide +kernel)
theorem fwX1_78 : Cond.fieldLink RX1 78 "RightsHouse$Plan" "sheets" "[LRightsHouse$Sheet;" ∈ GT := GT_at 105 (by decide +kernel) (by decide +kernel)
theorem fwX1_82 : Cond.fieldLink RX1 82 "RightsHouse$Sheet" "size" "I" ∈ GT := GT_at 83 (by decide +kernel) (by decide +kernel)
theorem fwX1_97 : Cond.fieldLink RX1 97 "RightsHouse$Sheet" "numbers" "[I" ∈ GT := GT_at 67 (by decide +kernel) (by decide +kernel)
theorem fwX1_100 : Cond.fieldLink RX1 100 "RightsHouse$Sheet" "firsts" "[I" ∈ GT := GT_at 71 (by decide +kernel) (by decide +kernel)
theorem fwX1_107 : Cond.fieldLink RX1 107 "RightsHouse$Sheet" "kinds" "[I" ∈ GT := GT_at 63 (by decide +kernel) (by decide +kernel)
theorem fwX1_117 : Cond.fieldLink RX1 117 "RightsHouse$Sheet" "seconds" "[I" ∈ GT := GT_at 75 (by decide +kernel) (by decide +kernel)
theorem fwX1_120 : Cond.fieldLink RX1 120 "RightsHouse$Sheet" "sources" "[I" ∈ GT := GT_at 77 (by decide +kernel) (by decide +kernel)
theorem fwX2_9 : Cond.fieldLink RX2 9 "RightsHouse$Plan" "grants" "[I" ∈ GT := GT_at 97 (by decide +kernel) (by decide +kernel)
theorem fwX2_17 : Cond.fieldLink RX2 17 "RightsHouse$Plan" "sheets" "[LRightsHouse$Sheet;" ∈ GT := GT_at 102 (by decide +kernel) (by decide +kernel)
theorem fwX2_22 : Cond.fieldLink RX2 22 "RightsHouse$Plan" "size" "I" ∈ GT := GT_at 106 (by decide +kernel) (by decide +kernel)
theorem fwX2_26 : Cond.fieldLink RX2 26 "RightsHouse$Sheet" "size" "I" ∈ GT := GT_at 80 (by decide +kernel) (by decide +kernel)
theorem fwX3_12 : Cond.fieldLink RX3 12 "RightsHouse$Reader" "draft" "LRightsHouse$Sheet;" ∈ GT := GT_at 127 (by decide +kernel) (by decide +kernel)
theorem fwX3_18 : Cond.fieldLink RX3 18 "RightsHouse$Reader" "source" "LRightsHouse$Tape;" ∈ GT := GT_at 129 (by decide +kernel) (by decide +kernel)
theorem fwX3_22 : Cond.fieldLink RX3 22 "RightsHouse$Sheet" "size" "I" ∈ GT := GT_at 78 (by decide +kernel) (by decide +kernel)
theorem fwX3_26 : Cond.fieldLink RX3 26 "RightsHouse$Reader" "wrongness" "I" ∈ GT := GT_at 130 (by decide +kernel) (by decide +kernel)
theorem fwX3_29 : Cond.fieldLink RX3 29 "RightsHouse$Reader" "place" "I" ∈ GT := GT_at 132 (by decide +kernel) (by decide +kernel)
theorem fwX3_32 : Cond.fieldLink RX3 32 "RightsHouse$Reader" "end" "I" ∈ GT := GT_at 134 (by decide +kernel) (by decide +kernel)
theorem fwX3_35 : Cond.fieldLink RX3 35 "RightsHouse$Reader" "parts" "I" ∈ GT := GT_at 135 (by decide +kernel) (by decide +kernel)
theorem fwX3_38 : Cond.fieldLink RX3 38 "RightsHouse$Reader" "next" "I" ∈ GT := GT_at 138 (by decide +kernel) (by decide +kernel)
theorem fwX3_48 : Cond.fieldLink RX3 48 "RightsHouse$Reader" "token" "I" ∈ GT := GT_at 136 (by decide +kernel) (by decide +kernel)
theorem fwX3_84 : Cond.fieldLink RX3 84 "RightsHouse$Reader" "number" "I" ∈ GT := GT_at 139 (by decide +kernel) (by decide +kernel)
theorem fwX3_87 : Cond.fieldLink RX3 87 "RightsHouse$Reader" "name" "I" ∈ GT := GT_at 140 (by decide +kernel) (by decide +kernel)
theorem fwX3_101 : Cond.fieldLink RX3 101 "RightsHouse$Reader" "from" "I" ∈ GT := GT_at 137 (by decide +kernel) (by decide +kernel)
theorem fwX3_103 : Cond.fieldLink RX3 103 "RightsHouse$Tape" "bytes" "[I" ∈ GT := GT_at 39 (by decide +kernel) (by decide +kernel)
theorem fwX4_9 : Cond.fieldLink RX4 9 "RightsHouse$Remedy" "trial" "[I" ∈ GT := GT_at 268 (by decide +kernel) (by decide +kernel)
theorem fwX4_15 : Cond.fieldLink RX4 15 "RightsHouse$Remedy" "wanted" "[I" ∈ GT := GT_at 269 (by decide +kernel) (by decide +kernel)
theorem fwX4_18 : Cond.fieldLink RX4 18 "RightsHouse$Remedy" "candidates" "[I" ∈ GT := GT_at 270 (by decide +kernel) (by decide +kernel)
theorem fwX4_21 : Cond.fieldLink RX4 21 "RightsHouse$Remedy" "taken" "[I" ∈ GT := GT_at 271 (by decide +kernel) (by decide +kernel)
theorem fwX4_24 : Cond.fieldLink RX4 24 "RightsHouse$Remedy" "plan" "LRightsHouse$Plan;" ∈ GT := GT_at 265 (by decide +kernel) (by decide +kernel)
theorem fwX4_28 : Cond.fieldLink RX4 28 "RightsHouse$Remedy" "flow" "LRightsHouse$Flow;" ∈ GT := GT_at 266 (by decide +kernel) (by decide +kernel)
theorem fwX4_32 : Cond.fieldLink RX4 32 "RightsHouse$Remedy" "doors" "LRightsHouse$Doors;" ∈ GT := GT_at 267 (by decide +kernel) (by decide +kernel)
theorem fwX4_49 : Cond.fieldLink RX4 49 "RightsHouse$Plan" "grants" "[I" ∈ GT := GT_at 98 (by decide +kernel) (by decide +kernel)
theorem fwX4_60 : Cond.fieldLink RX4 60 "RightsHouse$Plan" "size" "I" ∈ GT := GT_at 111 (by decide +kernel) (by decide +kernel)
theorem fwX4_78 : Cond.fieldLink RX4 78 "RightsHouse$Remedy" "candidateCount" "I" ∈ GT := GT_at 273 (by decide +kernel) (by decide +kernel)
theorem fwX4_81 : Cond.fieldLink RX4 81 "RightsHouse$Doors" "arriving" "[I" ∈ GT := GT_at 224 (by decide +kernel) (by decide +kernel)
theorem fwX4_84 : Cond.fieldLink RX4 84 "RightsHouse$Doors" "told" "[I" ∈ GT := GT_at 222 (by decide +kernel) (by decide +kernel)
theorem fwX4_103 : Cond.fieldLink RX4 103 "RightsHouse$Remedy" "size" "I" ∈ GT := GT_at 274 (by decide +kernel) (by decide +kernel)
theorem fwX5_9 : Cond.fieldLink RX5 9 "RightsHouse$Sheet" "kinds" "[I" ∈ GT := GT_at 61 (by decide +kernel) (by decide +kernel)
theorem fwX5_15 : Cond.fieldLink RX5 15 "RightsHouse$Sheet" "numbers" "[I" ∈ GT := GT_at 65 (by decide +kernel) (by decide +kernel)
theorem fwX5_18 : Cond.fieldLink RX5 18 "RightsHouse$Sheet" "firsts" "[I" ∈ GT := GT_at 69 (by decide +kernel) (by decide +kernel)
theorem fwX5_21 : Cond.fieldLink RX5 21 "RightsHouse$Sheet" "seconds" "[I" ∈ GT := GT_at 73 (by decide +kernel) (by decide +kernel)
theorem fwX5_24 : Cond.fieldLink RX5 24 "RightsHouse$Sheet" "sources" "[I" ∈ GT := GT_at 76 (by decide +kernel) (by decide +kernel)
theorem fwX5_27 : Cond.fieldLink RX5 27 "RightsHouse$Sheet" "size" "I" ∈ GT := GT_at 79 (by decide +kernel) (by decide +kernel)
theorem fwX6_9 : Cond.fieldLink RX6 9 "RightsHouse$Tape" "bytes" "[I" ∈ GT := GT_at 38 (by decide +kernel) (by decide +kernel)
theorem fwX6_15 : Cond.fieldLink RX6 15 "RightsHouse$Tape" "size" "I" ∈ GT := GT_at 40 (by decide +kernel) (by decide +kernel)
theorem fwX7_9 : Cond.fieldLink RX7 9 "RightsHouse$Trail" "far" "[I" ∈ GT := GT_at 243 (by decide +kernel) (by decide +kernel)
theorem fwX7_15 : Cond.fieldLink RX7 15 "RightsHouse$Trail" "steps" "[I" ∈ GT := GT_at 244 (by decide +kernel) (by decide +kernel)
theorem fwX7_18 : Cond.fieldLink RX7 18 "RightsHouse$Trail" "plan" "LRightsHouse$Plan;" ∈ GT := GT_at 241 (by decide +kernel) (by decide +kernel)
theorem fwX7_22 : Cond.fieldLink RX7 22 "RightsHouse$Trail" "flow" "LRightsHouse$Flow;" ∈ GT := GT_at 242 (by decide +kernel) (by decide +kernel)
theorem fwX7_37 : Cond.fieldLink RX7 37 "RightsHouse$Trail" "size" "I" ∈ GT := GT_at 246 (by decide +kernel) (by decide +kernel)
theorem fwX7_47 : Cond.fieldLink RX7 47 "RightsHouse$Plan" "size" "I" ∈ GT := GT_at 109 (by decide +kernel) (by decide +kernel)
theorem fwX7_50 : Cond.fieldLink RX7 50 "RightsHouse$Plan" "grants" "[I" ∈ GT := GT_at 99 (by decide +kernel) (by decide +kernel)
theorem fwX7_61 : Cond.fieldLink RX7 61 "RightsHouse$Flow" "linkCount" "I" ∈ GT := GT_at 187 (by decide +kernel) (by decide +kernel)
theorem fwX7_66 : Cond.fieldLink RX7 66 "RightsHouse$Flow" "linkFrom" "[I" ∈ GT := GT_at 181 (by decide +kernel) (by decide +kernel)
theorem fwX7_77 : Cond.fieldLink RX7 77 "RightsHouse$Flow" "linkTo" "[I" ∈ GT := GT_at 183 (by decide +kernel) (by decide +kernel)
theorem fwX7_80 : Cond.fieldLink RX7 80 "RightsHouse$Flow" "washed" "[I" ∈ GT := GT_at 179 (by decide +kernel) (by decide +kernel)
theorem fwX7_83 : Cond.fieldLink RX7 83 "RightsHouse$Flow" "gets" "[I" ∈ GT := GT_at 175 (by decide +kernel) (by decide +kernel)
theorem fwX7_86 : Cond.fieldLink RX7 86 "RightsHouse$Plan" "sheets" "[LRightsHouse$Sheet;" ∈ GT := GT_at 103 (by decide +kernel) (by decide +kernel)
theorem fwX7_90 : Cond.fieldLink RX7 90 "RightsHouse$Sheet" "size" "I" ∈ GT := GT_at 81 (by decide +kernel) (by decide +kernel)
theorem fwX7_93 : Cond.fieldLink RX7 93 "RightsHouse$Sheet" "firsts" "[I" ∈ GT := GT_at 70 (by decide +kernel) (by decide +kernel)
theorem fwX7_96 : Cond.fieldLink RX7 96 "RightsHouse$Sheet" "kinds" "[I" ∈ GT := GT_at 62 (by decide +kernel) (by decide +kernel)
theorem fwX7_99 : Cond.fieldLink RX7 99 "RightsHouse$Sheet" "numbers" "[I" ∈ GT := GT_at 66 (by decide +kernel) (by decide +kernel)
theorem fwX7_109 : Cond.fieldLink RX7 109 "RightsHouse$Flow" "linkStep" "[I" ∈ GT := GT_at 185 (by decide +kernel) (by decide +kernel)
theorem fwX10_9 : Cond.fieldLink RX10 9 "RightsHouseModel" "where" "I" ∈ GT := GT_at 890 (by decide +kernel) (by decide +kernel)
theorem fwX10_13 : Cond.fieldLink RX10 13 "RightsHouseModel" "grants" "[I" ∈ GT := GT_at 893 (by decide +kernel) (by decide +kernel)
theorem fwX10_17 : Cond.fieldLink RX10 17 "RightsHouseModel" "lines" "[I" ∈ GT := GT_at 894 (by decide +kernel) (by decide +kernel)
theorem fwX10_20 : Cond.fieldLink RX10 20 "RightsHouseModel" "meant" "[I" ∈ GT := GT_at 895 (by decide +kernel) (by decide +kernel)
theorem fwX10_23 : Cond.fieldLink RX10 23 "RightsHouseModel" "kind" "[I" ∈ GT := GT_at 896 (by decide +kernel) (by decide +kernel)
theorem fwX10_26 : Cond.fieldLink RX10 26 "RightsHouseModel" "number" "[I" ∈ GT := GT_at 897 (by decide +kernel) (by decide +kernel)
theorem fwX10_29 : Cond.fieldLink RX10 29 "RightsHouseModel" "first" "[I" ∈ GT := GT_at 898 (by decide +kernel) (by decide +kernel)
theorem fwX10_32 : Cond.fieldLink RX10 32 "RightsHouseModel" "second" "[I" ∈ GT := GT_at 899 (by decide +kernel) (by decide +kernel)
theorem fwX10_35 : Cond.fieldLink RX10 35 "RightsHouseModel" "from" "[I" ∈ GT := GT_at 900 (by decide +kernel) (by decide +kernel)
theorem fwX10_41 : Cond.fieldLink RX10 41 "RightsHouseModel" "stop" "LRightsHouseModel$Stop;" ∈ GT := GT_at 901 (by decide +kernel) (by decide +kernel)
theorem fwX10_45 : Cond.fieldLink RX10 45 "RightsHouseModel" "tape" "[B" ∈ GT := GT_at 902 (by decide +kernel) (by decide +kernel)
theorem fwX10_49 : Cond.fieldLink RX10 49 "RightsHouseModel" "holds" "[I" ∈ GT := GT_at 911 (by decide +kernel) (by decide +kernel)
theorem fwX10_52 : Cond.fieldLink RX10 52 "RightsHouseModel" "washed" "[I" ∈ GT := GT_at 912 (by decide +kernel) (by decide +kernel)
theorem fwX10_55 : Cond.fieldLink RX10 55 "RightsHouseModel" "results" "[I" ∈ GT := GT_at 913 (by decide +kernel) (by decide +kernel)
theorem fwX10_58 : Cond.fieldLink RX10 58 "RightsHouseModel" "leaks" "[I" ∈ GT := GT_at 914 (by decide +kernel) (by decide +kernel)
theorem fwX10_61 : Cond.fieldLink RX10 61 "RightsHouseModel" "isAsked" "[Z" ∈ GT := GT_at 915 (by decide +kernel) (by decide +kernel)
theorem fwX10_65 : Cond.fieldLink RX10 65 "RightsHouseModel" "far" "[I" ∈ GT := GT_at 916 (by decide +kernel) (by decide +kernel)
theorem fwX10_68 : Cond.fieldLink RX10 68 "RightsHouseModel" "step" "[I" ∈ GT := GT_at 917 (by decide +kernel) (by decide +kernel)
theorem fwX10_71 : Cond.fieldLink RX10 71 "RightsHouseModel" "candidate" "[I" ∈ GT := GT_at 919 (by decide +kernel) (by decide +kernel)
theorem fwX10_74 : Cond.fieldLink RX10 74 "RightsHouseModel" "cured" "[I" ∈ GT := GT_at 920 (by decide +kernel) (by decide +kernel)
theorem fwX10_77 : Cond.fieldLink RX10 77 "RightsHouseModel" "services" "[I" ∈ GT := GT_at 921 (by decide +kernel) (by decide +kernel)
theorem fwX10_80 : Cond.fieldLink RX10 80 "RightsHouseModel" "thrown" "I" ∈ GT := GT_at 888 (by decide +kernel) (by decide +kernel)
theorem fwX10_83 : Cond.fieldLink RX10 83 "RightsHouseModel" "trouble" "I" ∈ GT := GT_at 889 (by decide +kernel) (by decide +kernel)
theorem fwX10_86 : Cond.fieldLink RX10 86 "RightsHouseModel" "parts" "I" ∈ GT := GT_at 892 (by decide +kernel) (by decide +kernel)
theorem fwX10_114 : Cond.fieldLink RX10 114 "RightsHouseModel" "place" "I" ∈ GT := GT_at 907 (by decide +kernel) (by decide +kernel)
theorem fwX10_118 : Cond.fieldLink RX10 118 "RightsHouseModel" "size" "I" ∈ GT := GT_at 904 (by decide +kernel) (by decide +kernel)
theorem fwX10_133 : Cond.fieldLink RX10 133 "RightsHouseModel" "at" "I" ∈ GT := GT_at 905 (by decide +kernel) (by decide +kernel)
theorem fwX10_139 : Cond.fieldLink RX10 139 "RightsHouseModel" "sort" "I" ∈ GT := GT_at 906 (by decide +kernel) (by decide +kernel)
theorem fwX10_142 : Cond.fieldLink RX10 142 "RightsHouseModel" "sign" "I" ∈ GT := GT_at 908 (by decide +kernel) (by decide +kernel)
theorem fwX10_148 : Cond.fieldLink RX10 148 "RightsHouseModel" "word" "J" ∈ GT := GT_at 910 (by decide +kernel) (by decide +kernel)
theorem fwX10_155 : Cond.fieldLink RX10 155 "RightsHouseModel" "value" "I" ∈ GT := GT_at 909 (by decide +kernel) (by decide +kernel)
theorem fwX10_219 : Cond.fieldLink RX10 219 "RightsHouseModel" "taped" "I" ∈ GT := GT_at 903 (by decide +kernel) (by decide +kernel)
theorem fwX10_222 : Cond.fieldLink RX10 222 "RightsHouseModel" "fault" "I" ∈ GT := GT_at 891 (by decide +kernel) (by decide +kernel)
theorem fwX10_262 : Cond.fieldLink RX10 262 "RightsHouseModel" "steps" "I" ∈ GT := GT_at 918 (by decide +kernel) (by decide +kernel)
theorem fwX10_272 : Cond.fieldLink RX10 272 "RightsHouseModel" "cures" "I" ∈ GT := GT_at 922 (by decide +kernel) (by decide +kernel)
theorem fwJ0_9 : Cond.fieldLink RJ0 9 "java/lang/String" "value" "[B" ∈ GT := GT_at 1281 (by decide +kernel) (by decide +kernel)
theorem fwJ0_15 : Cond.fieldLink RJ0 15 "java/lang/String" "coder" "B" ∈ GT := GT_at 1282 (by decide +kernel) (by decide +kernel)
theorem fwJ0_38 : Cond.fieldLink RJ0 38 "java/lang/String" "COMPACT_STRINGS" "Z" ∈ GT := GT_at 404 (by decide +kernel) (by decide +kernel)
theorem fwJ0_1053 : Cond.fieldLink RJ0 1053 "jdk/internal/util/Preconditions" "SIOOBE_FORMATTER" "Ljava/util/function/BiFunction;" ∈ GT := GT_at 420 (by decide +kernel) (by decide +kernel)
theorem fwJ2_44 : Cond.fieldLink RJ2 44 "java/lang/StringUTF16" "$assertionsDisabled" "Z" ∈ GT := GT_at 438 (by decide +kernel) (by decide +kernel)
theorem fwJ2_59 : Cond.fieldLink RJ2 59 "java/lang/StringUTF16" "HI_BYTE_SHIFT" "I" ∈ GT := GT_at 440 (by decide +kernel) (by decide +kernel)
theorem fwJ2_63 : Cond.fieldLink RJ2 63 "java/lang/StringUTF16" "LO_BYTE_SHIFT" "I" ∈ GT := GT_at 442 (by decide +kernel) (by decide +kernel)
theorem kwX8_238 : Cond.constant RX8 238 65535 ∈ GT := GT_at 330 (by decide +kernel) (by decide +kernel)
theorem kwJ6_265 : Cond.constant RJ6 265 1431655765 ∈ GT := GT_at 619 (by decide +kernel) (by decide +kernel)
theorem kwJ6_266 : Cond.constant RJ6 266 858993459 ∈ GT := GT_at 620 (by decide +kernel) (by decide +kernel)
theorem kwJ6_267 : Cond.constant RJ6 267 252645135 ∈ GT := GT_at 621 (by decide +kernel) (by decide +kernel)
theorem kwX10_89 : Cond.constant RX10 89 65535 ∈ GT := GT_at 1003 (by decide +kernel) (by decide +kernel)
theorem kwX10_127 : Cond.constantLong RX10 127 32 ∈ GT := GT_at 1054 (by decide +kernel) (by decide +kernel)
theorem kwX10_172 : Cond.constantLong RX10 172 8 ∈ GT := GT_at 1098 (by decide +kernel) (by decide +kernel)
theorem kwX10_254 : Cond.constant RX10 254 100000 ∈ GT := GT_at 1189 (by decide +kernel) (by decide +kernel)
abbrev iX0_init : MI := (yX0_init, cX0_init, 3, none, { frames := 1, cells := 2, slots := 32, locals := 20 })
theorem nwX0_init : CW iX0_init 2 ∧ Cond.instanceMethod yX0_init ∈ GT := ⟨⟨GT_at 217 (by decide +kernel) (by decide +kernel), GT_at 7 (by decide +kernel) (by decide +kernel), ⟨by decide +kernel, by decide +kernel⟩, by decide +kernel⟩, GT_at 216 (by decide +kernel) (by decide +kernel)⟩
abbrev iX0_tell : MI := (yX0_tell, cX0_tell, 5, none, { frames := 0, cells := 0, slots := 0, locals := 0 })
theorem vwX0_tell : VW iX0_tell 3 := ⟨⟨GT_at 524 (by decide +kernel) (by decide +kernel), GT_at 7 (by decide +kernel) (by decide +kernel), ⟨by decide +kernel, by decide +kernel⟩, by decide +kernel⟩, GT_at 522 (by decide +kernel) (by decide +kernel), GT_at 523 (by decide +kernel) (by decide +kernel)⟩
abbrev iX0_look : MI := (yX0_look, cX0_look, 5, none, { frames := 1, cells := 0, slots := 0, locals := 24 })
theorem vwX0_look : VW iX0_look 1 := ⟨⟨GT_at 603 (by decide +kernel) (by decide +kernel), GT_at 7 (by decide +kernel) (by decide +kernel), ⟨by decide +kernel, by decide +kernel⟩, by decide +kernel⟩, GT_at 601 (by decide +kernel) (by decide +kernel), GT_at 602 (by decide +kernel) (by decide +kernel)⟩
abbrev iX0_misuses : MI := (yX0_misuses, cX0_misuses, 3, (some .int), { frames := 1, cells := 0, slots := 0, locals := 20 })
theorem vwX0_misuses : VW iX0_misuses 0 := ⟨⟨GT_at 615 (by decide +kernel) (by decide +kernel), GT_at 7 (by decide +kernel) (by decide +kernel), ⟨by decide +kernel, by decide +kernel⟩, by decide +kernel⟩, GT_at 613 (by decide +kernel) (by decide +kernel), GT_at 614 (by decide +kernel) (by decide +kernel)⟩
abbrev iX0_services : MI := (yX0_services, cX0_services, 3, (some .int), { frames := 1, cells := 0, slots := 0, locals := 20 })
theorem vwX0_services : VW iX0_services 0 := ⟨⟨GT_at 625 (by decide +kernel) (by decide +kernel), GT_at 7 (by decide +kernel) (by decide +kernel), ⟨by decide +kernel, by decide +kernel⟩, by decide +kernel⟩, GT_at 623 (by decide +kernel) (by decide +kernel), GT_at 624 (by decide +kernel) (by decide +kernel)⟩
abbrev iX0_misuseAt : MI := (yX0_misuseAt, cX0_misuseAt, 5, (some .int), { frames := 1, cells := 0, slots := 0, locals := 21 })
theorem vwX0_misuseAt : VW iX0_misuseAt 1 := ⟨⟨GT_at 637 (by decide +kernel) (by decide +kernel), GT_at 7 (by decide +kernel) (by decide +kernel), ⟨by decide +kernel, by decide +kernel⟩, by decide +kernel⟩, GT_at 635 (by decide +kernel) (by decide +kernel), GT_at 636 (by decide +kernel) (by decide +kernel)⟩
abbrev iX0_toldPairs : MI := (yX0_toldPairs, cX0_toldPairs, 3, (some .int), { frames := 1, cells := 0, slots := 0, locals := 20 })
theorem vwX0_toldPairs : VW iX0_toldPairs 0 := ⟨⟨GT_at 777 (by decide +kernel) (by decide +kernel), GT_at 7 (by decide +kernel) (by decide +kernel), ⟨by decide +kernel, by decide +kernel⟩, by decide +kernel⟩, GT_at 775 (by decide +kernel) (by decide +kernel), GT_at 776 (by decide +kernel) (by decide +kernel)⟩
abbrev iX1_init : MI := (yX1_init, cX1_init, 2, none, { frames := 1, cells := 18, slots := 4230, locals := 20 })
theorem nwX1_init : CW iX1_init 1 ∧ Cond.instanceMethod yX1_init ∈ GT := ⟨⟨GT_at 168 (by decide +kernel) (by decide +kernel), GT_at 6 (by decide +kernel) (by decide +kernel), ⟨by decide +kernel, by decide +kernel⟩, by decide +kernel⟩, GT_at 167 (by decide +kernel) (by decide +kernel)⟩
abbrev iX1_isLive : MI := (yX1_isLive, cX1_isLive, 2, (some .boolean), { frames := 1, cells := 0, slots := 0, locals := 21 })
theorem vwX1_isLive : VW iX1_isLive 1 := ⟨⟨GT_at 554 (by decide +kernel) (by decide +kernel), GT_at 6 (by decide +kernel) (by decide +kernel), ⟨by decide +kernel, by decide +kernel⟩, by decide +kernel⟩, GT_at 552 (by decide +kernel) (by decide +kernel), GT_at 553 (by decide +kernel) (by decide +kernel)⟩
abbrev iX1_uses : MI := (yX1_uses, cX1_uses, 2, (some .int), { frames := 0, cells := 0, slots := 0, locals := 0 })
theorem vwX1_uses : VW iX1_uses 1 := ⟨⟨GT_at 683 (by decide +kernel) (by decide +kernel), GT_at 6 (by decide +kernel) (by decide +kernel), ⟨by decide +kernel, by decide +kernel⟩, by decide +kernel⟩, GT_at 681 (by decide +kernel) (by decide +kernel), GT_at 682 (by decide +kernel) (by decide +kernel)⟩
abbrev iX1_usesOfHelpers : MI := (yX1_usesOfHelpers, cX1_usesOfHelpers, 4, (some .int), { frames := 2, cells := 0, slots := 0, locals := 42 })
theorem vwX1_usesOfHelpers : VW iX1_usesOfHelpers 1 := ⟨⟨GT_at 699 (by decide +kernel) (by decide +kernel), GT_at 6 (by decide +kernel) (by decide +kernel), ⟨by decide +kernel, by decide +kernel⟩, by decide +kernel⟩, GT_at 697 (by decide +kernel) (by decide +kernel), GT_at 698 (by decide +kernel) (by decide +kernel)⟩
abbrev iX1_secretsAt : MI := (yX1_secretsAt, cX1_secretsAt, 5, (some .int), { frames := 0, cells := 0, slots := 0, locals := 0 })
theorem vwX1_secretsAt : VW iX1_secretsAt 2 := ⟨⟨GT_at 582 (by decide +kernel) (by decide +kernel), GT_at 6 (by decide +kernel) (by decide +kernel), ⟨by decide +kernel, by decide +kernel⟩, by decide +kernel⟩, GT_at 580 (by decide +kernel) (by decide +kernel), GT_at 581 (by decide +kernel) (by decide +kernel)⟩
abbrev iX1_trace : MI := (yX1_trace, cX1_trace, 4, none, { frames := 3, cells := 0, slots := 0, locals := 73 })
theorem vwX1_trace : VW iX1_trace 0 := ⟨⟨GT_at 536 (by decide +kernel) (by decide +kernel), GT_at 6 (by decide +kernel) (by decide +kernel), ⟨by decide +kernel, by decide +kernel⟩, by decide +kernel⟩, GT_at 534 (by decide +kernel) (by decide +kernel), GT_at 535 (by decide +kernel) (by decide +kernel)⟩
abbrev iX1_findLive : MI := (yX1_findLive, cX1_findLive, 3, none, { frames := 1, cells := 0, slots := 0, locals := 22 })
theorem vwX1_findLive : VW iX1_findLive 0 := ⟨⟨GT_at 540 (by decide +kernel) (by decide +kernel), GT_at 6 (by decide +kernel) (by decide +kernel), ⟨by decide +kernel, by decide +kernel⟩, by decide +kernel⟩, GT_at 538 (by decide +kernel) (by decide +kernel), GT_at 539 (by decide +kernel) (by decide +kernel)⟩
abbrev iX1_note : MI := (yX1_note, cX1_note, 7, none, { frames := 2, cells := 0, slots := 0, locals := 47 })
theorem vwX1_note : VW iX1_note 2 := ⟨⟨GT_at 558 (by decide +kernel) (by decide +kernel), GT_at 6 (by decide +kernel) (by decide +kernel), ⟨by decide +kernel, by decide +kernel⟩, by decide +kernel⟩, GT_at 556 (by decide +kernel) (by decide +kernel), GT_at 557 (by decide +kernel) (by decide +kernel)⟩
abbrev iX1_noteLet : MI := (yX1_noteLet, cX1_noteLet, 5, none, { frames := 1, cells := 0, slots := 0, locals := 23 })
theorem vwX1_noteLet : VW iX1_noteLet 2 := ⟨⟨GT_at 565 (by decide +kernel) (by decide +kernel), GT_at 6 (by decide +kernel) (by decide +kernel), ⟨by decide +kernel, by decide +kernel⟩, by decide +kernel⟩, GT_at 563 (by decide +kernel) (by decide +kernel), GT_at 564 (by decide +kernel) (by decide +kernel)⟩
abbrev iX1_link : MI := (yX1_link, cX1_link, 4, none, { frames := 0, cells := 0, slots := 0, locals := 0 })
theorem vwX1_link : VW iX1_link 3 := ⟨⟨GT_at 569 (by decide +kernel) (by decide +kernel), GT_at 6 (by decide +kernel) (by decide +kernel), ⟨by decide +kernel, by decide +kernel⟩, by decide +kernel⟩, GT_at 567 (by decide +kernel) (by decide +kernel), GT_at 568 (by decide +kernel) (by decide +kernel)⟩
abbrev iX1_spread : MI := (yX1_spread, cX1_spread, 8, none, { frames := 2, cells := 0, slots := 0, locals := 45 })
theorem vwX1_spread : VW iX1_spread 1 := ⟨⟨GT_at 573 (by decide +kernel) (by decide +kernel), GT_at 6 (by decide +kernel) (by decide +kernel), ⟨by decide +kernel, by decide +kernel⟩, by decide +kernel⟩, GT_at 571 (by decide +kernel) (by decide +kernel), GT_at 572 (by decide +kernel) (by decide +kernel)⟩
abbrev iX1_seed : MI := (yX1_seed, cX1_seed, 5, (some .boolean), { frames := 1, cells := 0, slots := 0, locals := 21 })
theorem vwX1_seed : VW iX1_seed 2 := ⟨⟨GT_at 577 (by decide +kernel) (by decide +kernel), GT_at 6 (by decide +kernel) (by decide +kernel), ⟨by decide +kernel, by decide +kernel⟩, by decide +kernel⟩, GT_at 575 (by decide +kernel) (by decide +kernel), GT_at 576 (by decide +kernel) (by decide +kernel)⟩
abbrev iX2_init : MI := (yX2_init, cX2_init, 2, none, { frames := 2, cells := 62, slots := 680, locals := 40 })
theorem nwX2_init : CW iX2_init 0 ∧ Cond.instanceMethod yX2_init ∈ GT := ⟨⟨GT_at 52 (by decide +kernel) (by decide +kernel), GT_at 3 (by decide +kernel) (by decide +kernel), ⟨by decide +kernel, by decide +kernel⟩, by decide +kernel⟩, GT_at 51 (by decide +kernel) (by decide +kernel)⟩
abbrev iX2_has : MI := (yX2_has, cX2_has, 2, (some .boolean), { frames := 0, cells := 0, slots := 0, locals := 0 })
theorem vwX2_has : VW iX2_has 1 := ⟨⟨GT_at 350 (by decide +kernel) (by decide +kernel), GT_at 3 (by decide +kernel) (by decide +kernel), ⟨by decide +kernel, by decide +kernel⟩, by decide +kernel⟩, GT_at 348 (by decide +kernel) (by decide +kernel), GT_at 349 (by decide +kernel) (by decide +kernel)⟩
abbrev iX2_add : MI := (yX2_add, cX2_add, 2, (some .int), { frames := 0, cells := 0, slots := 0, locals := 0 })
theorem vwX2_add : VW iX2_add 1 := ⟨⟨GT_at 338 (by decide +kernel) (by decide +kernel), GT_at 3 (by decide +kernel) (by decide +kernel), ⟨by decide +kernel, by decide +kernel⟩, by decide +kernel⟩, GT_at 336 (by decide +kernel) (by decide +kernel), GT_at 337 (by decide +kernel) (by decide +kernel)⟩
abbrev iX2_allLines : MI := (yX2_allLines, cX2_allLines, 3, (some .int), { frames := 0, cells := 0, slots := 0, locals := 0 })
theorem vwX2_allLines : VW iX2_allLines 0 := ⟨⟨GT_at 768 (by decide +kernel) (by decide +kernel), GT_at 3 (by decide +kernel) (by decide +kernel), ⟨by decide +kernel, by decide +kernel⟩, by decide +kernel⟩, GT_at 766 (by decide +kernel) (by decide +kernel), GT_at 767 (by decide +kernel) (by decide +kernel)⟩
abbrev iX2_allGrants : MI := (yX2_allGrants, cX2_allGrants, 3, (some .int), { frames := 1, cells := 0, slots := 0, locals := 20 })
theorem vwX2_allGrants : VW iX2_allGrants 0 := ⟨⟨GT_at 772 (by decide +kernel) (by decide +kernel), GT_at 3 (by decide +kernel) (by decide +kernel), ⟨by decide +kernel, by decide +kernel⟩, by decide +kernel⟩, GT_at 770 (by decide +kernel) (by decide +kernel), GT_at 771 (by decide +kernel) (by decide +kernel)⟩
abbrev iX3_init : MI := (yX3_init, cX3_init, 2, none, { frames := 2, cells := 6, slots := 66, locals := 40 })
theorem nwX3_init : CW iX3_init 1 ∧ Cond.instanceMethod yX3_init ∈ GT := ⟨⟨GT_at 123 (by decide +kernel) (by decide +kernel), GT_at 5 (by decide +kernel) (by decide +kernel), ⟨by decide +kernel, by decide +kernel⟩, by decide +kernel⟩, GT_at 122 (by decide +kernel) (by decide +kernel)⟩
abbrev iX3_read : MI := (yX3_read, cX3_read, 4, (some .boolean), { frames := 9, cells := 0, slots := 0, locals := 194 })
theorem vwX3_read : VW iX3_read 2 := ⟨⟨GT_at 374 (by decide +kernel) (by decide +kernel), GT_at 5 (by decide +kernel) (by decide +kernel), ⟨by decide +kernel, by decide +kernel⟩, by decide +kernel⟩, GT_at 372 (by decide +kernel) (by decide +kernel), GT_at 373 (by decide +kernel) (by decide +kernel)⟩
abbrev iX3_readLine : MI := (yX3_readLine, cX3_readLine, 2, (some .boolean), { frames := 8, cells := 0, slots := 0, locals := 173 })
theorem vwX3_readLine : VW iX3_readLine 0 := ⟨⟨GT_at 386 (by decide +kernel) (by decide +kernel), GT_at 5 (by decide +kernel) (by decide +kernel), ⟨by decide +kernel, by decide +kernel⟩, by decide +kernel⟩, GT_at 384 (by decide +kernel) (by decide +kernel), GT_at 385 (by decide +kernel) (by decide +kernel)⟩
abbrev iX3_keep : MI := (yX3_keep, cX3_keep, 2, (some .boolean), { frames := 1, cells := 0, slots := 0, locals := 25 })
theorem vwX3_keep : VW iX3_keep 1 := ⟨⟨GT_at 473 (by decide +kernel) (by decide +kernel), GT_at 5 (by decide +kernel) (by decide +kernel), ⟨by decide +kernel, by decide +kernel⟩, by decide +kernel⟩, GT_at 471 (by decide +kernel) (by decide +kernel), GT_at 472 (by decide +kernel) (by decide +kernel)⟩
abbrev iX3_readLet : MI := (yX3_readLet, cX3_readLet, 5, (some .boolean), { frames := 7, cells := 0, slots := 0, locals := 149 })
theorem vwX3_readLet : VW iX3_readLet 0 := ⟨⟨GT_at 481 (by decide +kernel) (by decide +kernel), GT_at 5 (by decide +kernel) (by decide +kernel), ⟨by decide +kernel, by decide +kernel⟩, by decide +kernel⟩, GT_at 479 (by decide +kernel) (by decide +kernel), GT_at 480 (by decide +kernel) (by decide +kernel)⟩
abbrev iX3_readAsk : MI := (yX3_readAsk, cX3_readAsk, 2, (some .boolean), { frames := 7, cells := 0, slots := 0, locals := 149 })
theorem vwX3_readAsk : VW iX3_readAsk 0 := ⟨⟨GT_at 486 (by decide +kernel) (by decide +kernel), GT_at 5 (by decide +kernel) (by decide +kernel), ⟨by decide +kernel, by decide +kernel⟩, by decide +kernel⟩, GT_at 484 (by decide +kernel) (by decide +kernel), GT_at 485 (by decide +kernel) (by decide +kernel)⟩
abbrev iX3_takeWhole : MI := (yX3_takeWhole, cX3_takeWhole, 3, (some .boolean), { frames := 2, cells := 0, slots := 0, locals := 44 })
theorem vwX3_takeWhole : VW iX3_takeWhole 1 := ⟨⟨GT_at 456 (by decide +kernel) (by decide +kernel), GT_at 5 (by decide +kernel) (by decide +kernel), ⟨by decide +kernel, by decide +kernel⟩, by decide +kernel⟩, GT_at 454 (by decide +kernel) (by decide +kernel), GT_at 455 (by decide +kernel) (by decide +kernel)⟩
abbrev iX3_takeName : MI := (yX3_takeName, cX3_takeName, 1, (some .boolean), { frames := 2, cells := 0, slots := 0, locals := 44 })
theorem vwX3_takeName : VW iX3_takeName 0 := ⟨⟨GT_at 465 (by decide +kernel) (by decide +kernel), GT_at 5 (by decide +kernel) (by decide +kernel), ⟨by decide +kernel, by decide +kernel⟩, by decide +kernel⟩, GT_at 463 (by decide +kernel) (by decide +kernel), GT_at 464 (by decide +kernel) (by decide +kernel)⟩
abbrev iX3_isName : MI := (yX3_isName, cX3_isName, 1, (some .boolean), { frames := 1, cells := 0, slots := 0, locals := 21 })
theorem vwX3_isName : VW iX3_isName 0 := ⟨⟨GT_at 469 (by decide +kernel) (by decide +kernel), GT_at 5 (by decide +kernel) (by decide +kernel), ⟨by decide +kernel, by decide +kernel⟩, by decide +kernel⟩, GT_at 467 (by decide +kernel) (by decide +kernel), GT_at 468 (by decide +kernel) (by decide +kernel)⟩
abbrev iX3_takeWord : MI := (yX3_takeWord, cX3_takeWord, 2, (some .boolean), { frames := 6, cells := 0, slots := 0, locals := 128 })
theorem vwX3_takeWord : VW iX3_takeWord 1 := ⟨⟨GT_at 461 (by decide +kernel) (by decide +kernel), GT_at 5 (by decide +kernel) (by decide +kernel), ⟨by decide +kernel, by decide +kernel⟩, by decide +kernel⟩, GT_at 459 (by decide +kernel) (by decide +kernel), GT_at 460 (by decide +kernel) (by decide +kernel)⟩
abbrev iX3_kindHere : MI := (yX3_kindHere, cX3_kindHere, 1, (some .int), { frames := 6, cells := 0, slots := 0, locals := 128 })
theorem vwX3_kindHere : VW iX3_kindHere 0 := ⟨⟨GT_at 390 (by decide +kernel) (by decide +kernel), GT_at 5 (by decide +kernel) (by decide +kernel), ⟨by decide +kernel, by decide +kernel⟩, by decide +kernel⟩, GT_at 388 (by decide +kernel) (by decide +kernel), GT_at 389 (by decide +kernel) (by decide +kernel)⟩
abbrev iX3_isWord : MI := (yX3_isWord, cX3_isWord, 3, (some .boolean), { frames := 5, cells := 0, slots := 0, locals := 106 })
theorem vwX3_isWord : VW iX3_isWord 1 := ⟨⟨GT_at 395 (by decide +kernel) (by decide +kernel), GT_at 5 (by decide +kernel) (by decide +kernel), ⟨by decide +kernel, by decide +kernel⟩, by decide +kernel⟩, GT_at 393 (by decide +kernel) (by decide +kernel), GT_at 394 (by decide +kernel) (by decide +kernel)⟩
abbrev iX3_fail : MI := (yX3_fail, cX3_fail, 2, (some .boolean), { frames := 0, cells := 0, slots := 0, locals := 0 })
theorem vwX3_fail : VW iX3_fail 1 := ⟨⟨GT_at 452 (by decide +kernel) (by decide +kernel), GT_at 5 (by decide +kernel) (by decide +kernel), ⟨by decide +kernel, by decide +kernel⟩, by decide +kernel⟩, GT_at 450 (by decide +kernel) (by decide +kernel), GT_at 451 (by decide +kernel) (by decide +kernel)⟩
abbrev iX3_advance : MI := (yX3_advance, cX3_advance, 3, none, { frames := 1, cells := 0, slots := 0, locals := 22 })
theorem vwX3_advance : VW iX3_advance 0 := ⟨⟨GT_at 378 (by decide +kernel) (by decide +kernel), GT_at 5 (by decide +kernel) (by decide +kernel), ⟨by decide +kernel, by decide +kernel⟩, by decide +kernel⟩, GT_at 376 (by decide +kernel) (by decide +kernel), GT_at 377 (by decide +kernel) (by decide +kernel)⟩
abbrev iX3_signAt : MI := (yX3_signAt, cX3_signAt, 3, (some .int), { frames := 0, cells := 0, slots := 0, locals := 0 })
theorem vwX3_signAt : VW iX3_signAt 1 := ⟨⟨GT_at 382 (by decide +kernel) (by decide +kernel), GT_at 5 (by decide +kernel) (by decide +kernel), ⟨by decide +kernel, by decide +kernel⟩, by decide +kernel⟩, GT_at 380 (by decide +kernel) (by decide +kernel), GT_at 381 (by decide +kernel) (by decide +kernel)⟩
abbrev iX4_init : MI := (yX4_init, cX4_init, 4, none, { frames := 1, cells := 4, slots := 46, locals := 20 })
theorem nwX4_init : CW iX4_init 3 ∧ Cond.instanceMethod yX4_init ∈ GT := ⟨⟨GT_at 263 (by decide +kernel) (by decide +kernel), GT_at 9 (by decide +kernel) (by decide +kernel), ⟨by decide +kernel, by decide +kernel⟩, by decide +kernel⟩, GT_at 262 (by decide +kernel) (by decide +kernel)⟩
abbrev iX4_misusesWithTurned : MI := (yX4_misusesWithTurned, cX4_misusesWithTurned, 3, (some .int), { frames := 2, cells := 0, slots := 0, locals := 100 })
theorem vwX4_misusesWithTurned : VW iX4_misusesWithTurned 2 := ⟨⟨GT_at 750 (by decide +kernel) (by decide +kernel), GT_at 9 (by decide +kernel) (by decide +kernel), ⟨by decide +kernel, by decide +kernel⟩, by decide +kernel⟩, GT_at 748 (by decide +kernel) (by decide +kernel), GT_at 749 (by decide +kernel) (by decide +kernel)⟩
abbrev iX4_startTrial : MI := (yX4_startTrial, cX4_startTrial, 1, none, { frames := 1, cells := 0, slots := 0, locals := 80 })
theorem vwX4_startTrial : VW iX4_startTrial 0 := ⟨⟨GT_at 728 (by decide +kernel) (by decide +kernel), GT_at 9 (by decide +kernel) (by decide +kernel), ⟨by decide +kernel, by decide +kernel⟩, by decide +kernel⟩, GT_at 726 (by decide +kernel) (by decide +kernel), GT_at 727 (by decide +kernel) (by decide +kernel)⟩
abbrev iX4_bestSingle : MI := (yX4_bestSingle, cX4_bestSingle, 8, (some .int), { frames := 3, cells := 0, slots := 0, locals := 122 })
theorem vwX4_bestSingle : VW iX4_bestSingle 1 := ⟨⟨GT_at 759 (by decide +kernel) (by decide +kernel), GT_at 9 (by decide +kernel) (by decide +kernel), ⟨by decide +kernel, by decide +kernel⟩, by decide +kernel⟩, GT_at 757 (by decide +kernel) (by decide +kernel), GT_at 758 (by decide +kernel) (by decide +kernel)⟩
abbrev iX4_gather : MI := (yX4_gather, cX4_gather, 4, (some .boolean), { frames := 1, cells := 0, slots := 0, locals := 21 })
theorem vwX4_gather : VW iX4_gather 0 := ⟨⟨GT_at 713 (by decide +kernel) (by decide +kernel), GT_at 9 (by decide +kernel) (by decide +kernel), ⟨by decide +kernel, by decide +kernel⟩, by decide +kernel⟩, GT_at 711 (by decide +kernel) (by decide +kernel), GT_at 712 (by decide +kernel) (by decide +kernel)⟩
abbrev iX4_search : MI := (yX4_search, cX4_search, 3, (some .boolean), { frames := 3, cells := 0, slots := 0, locals := 122 })
theorem vwX4_search : VW iX4_search 0 := ⟨⟨GT_at 719 (by decide +kernel) (by decide +kernel), GT_at 9 (by decide +kernel) (by decide +kernel), ⟨by decide +kernel, by decide +kernel⟩, by decide +kernel⟩, GT_at 717 (by decide +kernel) (by decide +kernel), GT_at 718 (by decide +kernel) (by decide +kernel)⟩
abbrev iX4_isChosen : MI := (yX4_isChosen, cX4_isChosen, 3, (some .boolean), { frames := 1, cells := 0, slots := 0, locals := 21 })
theorem vwX4_isChosen : VW iX4_isChosen 2 := ⟨⟨GT_at 733 (by decide +kernel) (by decide +kernel), GT_at 9 (by decide +kernel) (by decide +kernel), ⟨by decide +kernel, by decide +kernel⟩, by decide +kernel⟩, GT_at 731 (by decide +kernel) (by decide +kernel), GT_at 732 (by decide +kernel) (by decide +kernel)⟩
abbrev iX4_isCure : MI := (yX4_isCure, cX4_isCure, 3, (some .boolean), { frames := 2, cells := 0, slots := 0, locals := 100 })
theorem vwX4_isCure : VW iX4_isCure 1 := ⟨⟨GT_at 724 (by decide +kernel) (by decide +kernel), GT_at 9 (by decide +kernel) (by decide +kernel), ⟨by decide +kernel, by decide +kernel⟩, by decide +kernel⟩, GT_at 722 (by decide +kernel) (by decide +kernel), GT_at 723 (by decide +kernel) (by decide +kernel)⟩
abbrev iX4_keep : MI := (yX4_keep, cX4_keep, 3, none, { frames := 2, cells := 0, slots := 0, locals := 43 })
theorem vwX4_keep : VW iX4_keep 1 := ⟨⟨GT_at 738 (by decide +kernel) (by decide +kernel), GT_at 9 (by decide +kernel) (by decide +kernel), ⟨by decide +kernel, by decide +kernel⟩, by decide +kernel⟩, GT_at 736 (by decide +kernel) (by decide +kernel), GT_at 737 (by decide +kernel) (by decide +kernel)⟩
abbrev iX5_init : MI := (yX5_init, cX5_init, 1, none, { frames := 1, cells := 5, slots := 60, locals := 20 })
theorem nwX5_init : CW iX5_init 0 ∧ Cond.instanceMethod yX5_init ∈ GT := ⟨⟨GT_at 59 (by decide +kernel) (by decide +kernel), GT_at 4 (by decide +kernel) (by decide +kernel), ⟨by decide +kernel, by decide +kernel⟩, by decide +kernel⟩, GT_at 58 (by decide +kernel) (by decide +kernel)⟩
abbrev iX5_has : MI := (yX5_has, cX5_has, 2, (some .boolean), { frames := 0, cells := 0, slots := 0, locals := 0 })
theorem vwX5_has : VW iX5_has 1 := ⟨⟨GT_at 513 (by decide +kernel) (by decide +kernel), GT_at 4 (by decide +kernel) (by decide +kernel), ⟨by decide +kernel, by decide +kernel⟩, by decide +kernel⟩, GT_at 511 (by decide +kernel) (by decide +kernel), GT_at 512 (by decide +kernel) (by decide +kernel)⟩
abbrev iX5_add : MI := (yX5_add, cX5_add, 6, (some .boolean), { frames := 0, cells := 0, slots := 0, locals := 0 })
theorem vwX5_add : VW iX5_add 5 := ⟨⟨GT_at 477 (by decide +kernel) (by decide +kernel), GT_at 4 (by decide +kernel) (by decide +kernel), ⟨by decide +kernel, by decide +kernel⟩, by decide +kernel⟩, GT_at 475 (by decide +kernel) (by decide +kernel), GT_at 476 (by decide +kernel) (by decide +kernel)⟩
abbrev iX5_helpers : MI := (yX5_helpers, cX5_helpers, 3, (some .int), { frames := 0, cells := 0, slots := 0, locals := 0 })
theorem vwX5_helpers : VW iX5_helpers 0 := ⟨⟨GT_at 544 (by decide +kernel) (by decide +kernel), GT_at 4 (by decide +kernel) (by decide +kernel), ⟨by decide +kernel, by decide +kernel⟩, by decide +kernel⟩, GT_at 542 (by decide +kernel) (by decide +kernel), GT_at 543 (by decide +kernel) (by decide +kernel)⟩
abbrev iX5_take : MI := (yX5_take, cX5_take, 2, none, { frames := 1, cells := 0, slots := 0, locals := 80 })
theorem vwX5_take : VW iX5_take 1 := ⟨⟨GT_at 493 (by decide +kernel) (by decide +kernel), GT_at 4 (by decide +kernel) (by decide +kernel), ⟨by decide +kernel, by decide +kernel⟩, by decide +kernel⟩, GT_at 491 (by decide +kernel) (by decide +kernel), GT_at 492 (by decide +kernel) (by decide +kernel)⟩
abbrev iX6_init : MI := (yX6_init, cX6_init, 1, none, { frames := 1, cells := 1, slots := 300, locals := 20 })
theorem nwX6_init : CW iX6_init 0 ∧ Cond.instanceMethod yX6_init ∈ GT := ⟨⟨GT_at 36 (by decide +kernel) (by decide +kernel), GT_at 2 (by decide +kernel) (by decide +kernel), ⟨by decide +kernel, by decide +kernel⟩, by decide +kernel⟩, GT_at 35 (by decide +kernel) (by decide +kernel)⟩
abbrev iX6_append : MI := (yX6_append, cX6_append, 3, none, { frames := 0, cells := 0, slots := 0, locals := 0 })
theorem vwX6_append : VW iX6_append 1 := ⟨⟨GT_at 366 (by decide +kernel) (by decide +kernel), GT_at 2 (by decide +kernel) (by decide +kernel), ⟨by decide +kernel, by decide +kernel⟩, by decide +kernel⟩, GT_at 364 (by decide +kernel) (by decide +kernel), GT_at 365 (by decide +kernel) (by decide +kernel)⟩
abbrev iX7_init : MI := (yX7_init, cX7_init, 3, none, { frames := 1, cells := 2, slots := 341, locals := 20 })
theorem nwX7_init : CW iX7_init 2 ∧ Cond.instanceMethod yX7_init ∈ GT := ⟨⟨GT_at 239 (by decide +kernel) (by decide +kernel), GT_at 8 (by decide +kernel) (by decide +kernel), ⟨by decide +kernel, by decide +kernel⟩, by decide +kernel⟩, GT_at 238 (by decide +kernel) (by decide +kernel)⟩
abbrev iX7_find : MI := (yX7_find, cX7_find, 4, (some .int), { frames := 4, cells := 0, slots := 0, locals := 92 })
theorem vwX7_find : VW iX7_find 2 := ⟨⟨GT_at 645 (by decide +kernel) (by decide +kernel), GT_at 8 (by decide +kernel) (by decide +kernel), ⟨by decide +kernel, by decide +kernel⟩, by decide +kernel⟩, GT_at 643 (by decide +kernel) (by decide +kernel), GT_at 644 (by decide +kernel) (by decide +kernel)⟩
abbrev iX7_measure : MI := (yX7_measure, cX7_measure, 8, none, { frames := 2, cells := 0, slots := 0, locals := 44 })
theorem vwX7_measure : VW iX7_measure 2 := ⟨⟨GT_at 649 (by decide +kernel) (by decide +kernel), GT_at 8 (by decide +kernel) (by decide +kernel), ⟨by decide +kernel, by decide +kernel⟩, by decide +kernel⟩, GT_at 647 (by decide +kernel) (by decide +kernel), GT_at 648 (by decide +kernel) (by decide +kernel)⟩
abbrev iX7_farThrough : MI := (yX7_farThrough, cX7_farThrough, 4, (some .int), { frames := 1, cells := 0, slots := 0, locals := 21 })
theorem vwX7_farThrough : VW iX7_farThrough 2 := ⟨⟨GT_at 656 (by decide +kernel) (by decide +kernel), GT_at 8 (by decide +kernel) (by decide +kernel), ⟨by decide +kernel, by decide +kernel⟩, by decide +kernel⟩, GT_at 654 (by decide +kernel) (by decide +kernel), GT_at 655 (by decide +kernel) (by decide +kernel)⟩
abbrev iX7_bestGet : MI := (yX7_bestGet, cX7_bestGet, 9, (some .int), { frames := 1, cells := 0, slots := 0, locals := 21 })
theorem vwX7_bestGet : VW iX7_bestGet 1 := ⟨⟨GT_at 663 (by decide +kernel) (by decide +kernel), GT_at 8 (by decide +kernel) (by decide +kernel), ⟨by decide +kernel, by decide +kernel⟩, by decide +kernel⟩, GT_at 661 (by decide +kernel) (by decide +kernel), GT_at 662 (by decide +kernel) (by decide +kernel)⟩
abbrev iX7_walk : MI := (yX7_walk, cX7_walk, 6, none, { frames := 3, cells := 0, slots := 0, locals := 67 })
theorem vwX7_walk : VW iX7_walk 2 := ⟨⟨GT_at 667 (by decide +kernel) (by decide +kernel), GT_at 8 (by decide +kernel) (by decide +kernel), ⟨by decide +kernel, by decide +kernel⟩, by decide +kernel⟩, GT_at 665 (by decide +kernel) (by decide +kernel), GT_at 666 (by decide +kernel) (by decide +kernel)⟩
abbrev iX7_append : MI := (yX7_append, cX7_append, 2, none, { frames := 0, cells := 0, slots := 0, locals := 0 })
theorem vwX7_append : VW iX7_append 1 := ⟨⟨GT_at 671 (by decide +kernel) (by decide +kernel), GT_at 8 (by decide +kernel) (by decide +kernel), ⟨by decide +kernel, by decide +kernel⟩, by decide +kernel⟩, GT_at 669 (by decide +kernel) (by decide +kernel), GT_at 670 (by decide +kernel) (by decide +kernel)⟩
abbrev iX7_firstLink : MI := (yX7_firstLink, cX7_firstLink, 4, (some .int), { frames := 2, cells := 0, slots := 0, locals := 44 })
theorem vwX7_firstLink : VW iX7_firstLink 2 := ⟨⟨GT_at 675 (by decide +kernel) (by decide +kernel), GT_at 8 (by decide +kernel) (by decide +kernel), ⟨by decide +kernel, by decide +kernel⟩, by decide +kernel⟩, GT_at 673 (by decide +kernel) (by decide +kernel), GT_at 674 (by decide +kernel) (by decide +kernel)⟩
abbrev iX8_init : MI := (yX8_init, cX8_init, 1, none, { frames := 3, cells := 102, slots := 5740, locals := 61 })
theorem nwX8_init : CW iX8_init 0 ∧ Cond.instanceMethod yX8_init ∈ GT := ⟨⟨GT_at 28 (by decide +kernel) (by decide +kernel), GT_at 1 (by decide +kernel) (by decide +kernel), ⟨by decide +kernel, by decide +kernel⟩, by decide +kernel⟩, GT_at 27 (by decide +kernel) (by decide +kernel)⟩
abbrev iX8_part : MI := (yX8_part, cX8_part, 2, (some .int), { frames := 1, cells := 0, slots := 0, locals := 21 })
theorem vwX8_part : VW iX8_part 1 := ⟨⟨GT_at 326 (by decide +kernel) (by decide +kernel), GT_at 1 (by decide +kernel) (by decide +kernel), ⟨by decide +kernel, by decide +kernel⟩, by decide +kernel⟩, GT_at 324 (by decide +kernel) (by decide +kernel), GT_at 325 (by decide +kernel) (by decide +kernel)⟩
abbrev iX8_grant : MI := (yX8_grant, cX8_grant, 3, (some .boolean), { frames := 1, cells := 0, slots := 0, locals := 21 })
theorem vwX8_grant : VW iX8_grant 2 := ⟨⟨GT_at 346 (by decide +kernel) (by decide +kernel), GT_at 1 (by decide +kernel) (by decide +kernel), ⟨by decide +kernel, by decide +kernel⟩, by decide +kernel⟩, GT_at 344 (by decide +kernel) (by decide +kernel), GT_at 345 (by decide +kernel) (by decide +kernel)⟩
abbrev iX8_feed : MI := (yX8_feed, cX8_feed, 6, (some .int), { frames := 1, cells := 0, slots := 0, locals := 22 })
theorem vwX8_feed : VW iX8_feed 5 := ⟨⟨GT_at 362 (by decide +kernel) (by decide +kernel), GT_at 1 (by decide +kernel) (by decide +kernel), ⟨by decide +kernel, by decide +kernel⟩, by decide +kernel⟩, GT_at 360 (by decide +kernel) (by decide +kernel), GT_at 361 (by decide +kernel) (by decide +kernel)⟩
abbrev iX8_lines : MI := (yX8_lines, cX8_lines, 4, (some .int), { frames := 10, cells := 0, slots := 0, locals := 217 })
theorem vwX8_lines : VW iX8_lines 2 := ⟨⟨GT_at 370 (by decide +kernel) (by decide +kernel), GT_at 1 (by decide +kernel) (by decide +kernel), ⟨by decide +kernel, by decide +kernel⟩, by decide +kernel⟩, GT_at 368 (by decide +kernel) (by decide +kernel), GT_at 369 (by decide +kernel) (by decide +kernel)⟩
abbrev iX8_fault : MI := (yX8_fault, cX8_fault, 1, (some .int), { frames := 0, cells := 0, slots := 0, locals := 0 })
theorem vwX8_fault : VW iX8_fault 0 := ⟨⟨GT_at 501 (by decide +kernel) (by decide +kernel), GT_at 1 (by decide +kernel) (by decide +kernel), ⟨by decide +kernel, by decide +kernel⟩, by decide +kernel⟩, GT_at 499 (by decide +kernel) (by decide +kernel), GT_at 500 (by decide +kernel) (by decide +kernel)⟩
abbrev iX8_where : MI := (yX8_where, cX8_where, 1, (some .int), { frames := 0, cells := 0, slots := 0, locals := 0 })
theorem vwX8_where : VW iX8_where 0 := ⟨⟨GT_at 505 (by decide +kernel) (by decide +kernel), GT_at 1 (by decide +kernel) (by decide +kernel), ⟨by decide +kernel, by decide +kernel⟩, by decide +kernel⟩, GT_at 503 (by decide +kernel) (by decide +kernel), GT_at 504 (by decide +kernel) (by decide +kernel)⟩
abbrev iX8_line : MI := (yX8_line, cX8_line, 5, (some .int), { frames := 1, cells := 0, slots := 0, locals := 21 })
theorem vwX8_line : VW iX8_line 3 := ⟨⟨GT_at 509 (by decide +kernel) (by decide +kernel), GT_at 1 (by decide +kernel) (by decide +kernel), ⟨by decide +kernel, by decide +kernel⟩, by decide +kernel⟩, GT_at 507 (by decide +kernel) (by decide +kernel), GT_at 508 (by decide +kernel) (by decide +kernel)⟩
abbrev iX8_meant : MI := (yX8_meant, cX8_meant, 4, (some .boolean), { frames := 1, cells := 0, slots := 0, locals := 24 })
theorem vwX8_meant : VW iX8_meant 3 := ⟨⟨GT_at 517 (by decide +kernel) (by decide +kernel), GT_at 1 (by decide +kernel) (by decide +kernel), ⟨by decide +kernel, by decide +kernel⟩, by decide +kernel⟩, GT_at 515 (by decide +kernel) (by decide +kernel), GT_at 516 (by decide +kernel) (by decide +kernel)⟩
abbrev iX8_holds : MI := (yX8_holds, cX8_holds, 3, (some .int), { frames := 5, cells := 0, slots := 0, locals := 116 })
theorem vwX8_holds : VW iX8_holds 2 := ⟨⟨GT_at 528 (by decide +kernel) (by decide +kernel), GT_at 1 (by decide +kernel) (by decide +kernel), ⟨by decide +kernel, by decide +kernel⟩, by decide +kernel⟩, GT_at 526 (by decide +kernel) (by decide +kernel), GT_at 527 (by decide +kernel) (by decide +kernel)⟩
abbrev iX8_result : MI := (yX8_result, cX8_result, 2, (some .int), { frames := 5, cells := 0, slots := 0, locals := 116 })
theorem vwX8_result : VW iX8_result 1 := ⟨⟨GT_at 586 (by decide +kernel) (by decide +kernel), GT_at 1 (by decide +kernel) (by decide +kernel), ⟨by decide +kernel, by decide +kernel⟩, by decide +kernel⟩, GT_at 584 (by decide +kernel) (by decide +kernel), GT_at 585 (by decide +kernel) (by decide +kernel)⟩
abbrev iX8_asked : MI := (yX8_asked, cX8_asked, 2, (some .int), { frames := 5, cells := 0, slots := 0, locals := 116 })
theorem vwX8_asked : VW iX8_asked 1 := ⟨⟨GT_at 590 (by decide +kernel) (by decide +kernel), GT_at 1 (by decide +kernel) (by decide +kernel), ⟨by decide +kernel, by decide +kernel⟩, by decide +kernel⟩, GT_at 588 (by decide +kernel) (by decide +kernel), GT_at 589 (by decide +kernel) (by decide +kernel)⟩
abbrev iX8_door : MI := (yX8_door, cX8_door, 2, (some .int), { frames := 6, cells := 0, slots := 0, locals := 136 })
theorem vwX8_door : VW iX8_door 1 := ⟨⟨GT_at 595 (by decide +kernel) (by decide +kernel), GT_at 1 (by decide +kernel) (by decide +kernel), ⟨by decide +kernel, by decide +kernel⟩, by decide +kernel⟩, GT_at 593 (by decide +kernel) (by decide +kernel), GT_at 594 (by decide +kernel) (by decide +kernel)⟩
abbrev iX8_leaks : MI := (yX8_leaks, cX8_leaks, 1, (some .int), { frames := 6, cells := 0, slots := 0, locals := 136 })
theorem vwX8_leaks : VW iX8_leaks 0 := ⟨⟨GT_at 611 (by decide +kernel) (by decide +kernel), GT_at 1 (by decide +kernel) (by decide +kernel), ⟨by decide +kernel, by decide +kernel⟩, by decide +kernel⟩, GT_at 609 (by decide +kernel) (by decide +kernel), GT_at 610 (by decide +kernel) (by decide +kernel)⟩
abbrev iX8_misuse : MI := (yX8_misuse, cX8_misuse, 2, (some .int), { frames := 6, cells := 0, slots := 0, locals := 136 })
theorem vwX8_misuse : VW iX8_misuse 1 := ⟨⟨GT_at 629 (by decide +kernel) (by decide +kernel), GT_at 1 (by decide +kernel) (by decide +kernel), ⟨by decide +kernel, by decide +kernel⟩, by decide +kernel⟩, GT_at 627 (by decide +kernel) (by decide +kernel), GT_at 628 (by decide +kernel) (by decide +kernel)⟩
abbrev iX8_wrong : MI := (yX8_wrong, cX8_wrong, 2, (some .int), { frames := 6, cells := 0, slots := 0, locals := 136 })
theorem vwX8_wrong : VW iX8_wrong 1 := ⟨⟨GT_at 633 (by decide +kernel) (by decide +kernel), GT_at 1 (by decide +kernel) (by decide +kernel), ⟨by decide +kernel, by decide +kernel⟩, by decide +kernel⟩, GT_at 631 (by decide +kernel) (by decide +kernel), GT_at 632 (by decide +kernel) (by decide +kernel)⟩
abbrev iX8_way : MI := (yX8_way, cX8_way, 3, (some .int), { frames := 5, cells := 0, slots := 0, locals := 116 })
theorem vwX8_way : VW iX8_way 2 := ⟨⟨GT_at 641 (by decide +kernel) (by decide +kernel), GT_at 1 (by decide +kernel) (by decide +kernel), ⟨by decide +kernel, by decide +kernel⟩, by decide +kernel⟩, GT_at 639 (by decide +kernel) (by decide +kernel), GT_at 640 (by decide +kernel) (by decide +kernel)⟩
abbrev iX8_step : MI := (yX8_step, cX8_step, 2, (some .int), { frames := 6, cells := 0, slots := 0, locals := 150 })
theorem vwX8_step : VW iX8_step 1 := ⟨⟨GT_at 789 (by decide +kernel) (by decide +kernel), GT_at 1 (by decide +kernel) (by decide +kernel), ⟨by decide +kernel, by decide +kernel⟩, by decide +kernel⟩, GT_at 787 (by decide +kernel) (by decide +kernel), GT_at 788 (by decide +kernel) (by decide +kernel)⟩
abbrev iX8_needed : MI := (yX8_needed, cX8_needed, 2, (some .int), { frames := 5, cells := 0, slots := 0, locals := 116 })
theorem vwX8_needed : VW iX8_needed 1 := ⟨⟨GT_at 679 (by decide +kernel) (by decide +kernel), GT_at 1 (by decide +kernel) (by decide +kernel), ⟨by decide +kernel, by decide +kernel⟩, by decide +kernel⟩, GT_at 677 (by decide +kernel) (by decide +kernel), GT_at 678 (by decide +kernel) (by decide +kernel)⟩
abbrev iX8_idle : MI := (yX8_idle, cX8_idle, 2, (some .int), { frames := 5, cells := 0, slots := 0, locals := 116 })
theorem vwX8_idle : VW iX8_idle 1 := ⟨⟨GT_at 687 (by decide +kernel) (by decide +kernel), GT_at 1 (by decide +kernel) (by decide +kernel), ⟨by decide +kernel, by decide +kernel⟩, by decide +kernel⟩, GT_at 685 (by decide +kernel) (by decide +kernel), GT_at 686 (by decide +kernel) (by decide +kernel)⟩
abbrev iX8_lacking : MI := (yX8_lacking, cX8_lacking, 2, (some .int), { frames := 5, cells := 0, slots := 0, locals := 116 })
theorem vwX8_lacking : VW iX8_lacking 1 := ⟨⟨GT_at 691 (by decide +kernel) (by decide +kernel), GT_at 1 (by decide +kernel) (by decide +kernel), ⟨by decide +kernel, by decide +kernel⟩, by decide +kernel⟩, GT_at 689 (by decide +kernel) (by decide +kernel), GT_at 690 (by decide +kernel) (by decide +kernel)⟩
abbrev iX8_helped : MI := (yX8_helped, cX8_helped, 2, (some .int), { frames := 5, cells := 0, slots := 0, locals := 116 })
theorem vwX8_helped : VW iX8_helped 1 := ⟨⟨GT_at 695 (by decide +kernel) (by decide +kernel), GT_at 1 (by decide +kernel) (by decide +kernel), ⟨by decide +kernel, by decide +kernel⟩, by decide +kernel⟩, GT_at 693 (by decide +kernel) (by decide +kernel), GT_at 694 (by decide +kernel) (by decide +kernel)⟩
abbrev iX8_trim : MI := (yX8_trim, cX8_trim, 3, (some .int), { frames := 5, cells := 0, slots := 0, locals := 116 })
theorem vwX8_trim : VW iX8_trim 0 := ⟨⟨GT_at 704 (by decide +kernel) (by decide +kernel), GT_at 1 (by decide +kernel) (by decide +kernel), ⟨by decide +kernel, by decide +kernel⟩, by decide +kernel⟩, GT_at 702 (by decide +kernel) (by decide +kernel), GT_at 703 (by decide +kernel) (by decide +kernel)⟩
abbrev iX8_cure : MI := (yX8_cure, cX8_cure, 1, (some .int), { frames := 6, cells := 0, slots := 0, locals := 144 })
theorem vwX8_cure : VW iX8_cure 0 := ⟨⟨GT_at 709 (by decide +kernel) (by decide +kernel), GT_at 1 (by decide +kernel) (by decide +kernel), ⟨by decide +kernel, by decide +kernel⟩, by decide +kernel⟩, GT_at 707 (by decide +kernel) (by decide +kernel), GT_at 708 (by decide +kernel) (by decide +kernel)⟩
abbrev iX8_cured : MI := (yX8_cured, cX8_cured, 2, (some .int), { frames := 0, cells := 0, slots := 0, locals := 0 })
theorem vwX8_cured : VW iX8_cured 1 := ⟨⟨GT_at 742 (by decide +kernel) (by decide +kernel), GT_at 1 (by decide +kernel) (by decide +kernel), ⟨by decide +kernel, by decide +kernel⟩, by decide +kernel⟩, GT_at 740 (by decide +kernel) (by decide +kernel), GT_at 741 (by decide +kernel) (by decide +kernel)⟩
abbrev iX8_without : MI := (yX8_without, cX8_without, 3, (some .int), { frames := 5, cells := 0, slots := 0, locals := 122 })
theorem vwX8_without : VW iX8_without 2 := ⟨⟨GT_at 746 (by decide +kernel) (by decide +kernel), GT_at 1 (by decide +kernel) (by decide +kernel), ⟨by decide +kernel, by decide +kernel⟩, by decide +kernel⟩, GT_at 744 (by decide +kernel) (by decide +kernel), GT_at 745 (by decide +kernel) (by decide +kernel)⟩
abbrev iX8_key : MI := (yX8_key, cX8_key, 2, (some .int), { frames := 6, cells := 0, slots := 0, locals := 149 })
theorem vwX8_key : VW iX8_key 0 := ⟨⟨GT_at 755 (by decide +kernel) (by decide +kernel), GT_at 1 (by decide +kernel) (by decide +kernel), ⟨by decide +kernel, by decide +kernel⟩, by decide +kernel⟩, GT_at 753 (by decide +kernel) (by decide +kernel), GT_at 754 (by decide +kernel) (by decide +kernel)⟩
abbrev iX8_count : MI := (yX8_count, cX8_count, 2, (some .int), { frames := 2, cells := 0, slots := 0, locals := 42 })
theorem vwX8_count : VW iX8_count 1 := ⟨⟨GT_at 764 (by decide +kernel) (by decide +kernel), GT_at 1 (by decide +kernel) (by decide +kernel), ⟨by decide +kernel, by decide +kernel⟩, by decide +kernel⟩, GT_at 762 (by decide +kernel) (by decide +kernel), GT_at 763 (by decide +kernel) (by decide +kernel)⟩
abbrev iX8_trouble : MI := (yX8_trouble, cX8_trouble, 1, (some .int), { frames := 0, cells := 0, slots := 0, locals := 0 })
theorem vwX8_trouble : VW iX8_trouble 0 := ⟨⟨GT_at 781 (by decide +kernel) (by decide +kernel), GT_at 1 (by decide +kernel) (by decide +kernel), ⟨by decide +kernel, by decide +kernel⟩, by decide +kernel⟩, GT_at 779 (by decide +kernel) (by decide +kernel), GT_at 780 (by decide +kernel) (by decide +kernel)⟩
abbrev iX8_refuse : MI := (yX8_refuse, cX8_refuse, 2, (some .int), { frames := 0, cells := 0, slots := 0, locals := 0 })
theorem vwX8_refuse : VW iX8_refuse 1 := ⟨⟨GT_at 334 (by decide +kernel) (by decide +kernel), GT_at 1 (by decide +kernel) (by decide +kernel), ⟨by decide +kernel, by decide +kernel⟩, by decide +kernel⟩, GT_at 333 (by decide +kernel) (by decide +kernel), GT_sel 0 (by decide +kernel) (by decide +kernel)⟩
abbrev iX8_accept : MI := (yX8_accept, cX8_accept, 2, (some .int), { frames := 0, cells := 0, slots := 0, locals := 0 })
theorem vwX8_accept : VW iX8_accept 1 := ⟨⟨GT_at 342 (by decide +kernel) (by decide +kernel), GT_at 1 (by decide +kernel) (by decide +kernel), ⟨by decide +kernel, by decide +kernel⟩, by decide +kernel⟩, GT_at 341 (by decide +kernel) (by decide +kernel), GT_sel 1 (by decide +kernel) (by decide +kernel)⟩
abbrev iX8_deny : MI := (yX8_deny, cX8_deny, 2, (some .boolean), { frames := 0, cells := 0, slots := 0, locals := 0 })
theorem vwX8_deny : VW iX8_deny 1 := ⟨⟨GT_at 354 (by decide +kernel) (by decide +kernel), GT_at 1 (by decide +kernel) (by decide +kernel), ⟨by decide +kernel, by decide +kernel⟩, by decide +kernel⟩, GT_at 353 (by decide +kernel) (by decide +kernel), GT_sel 2 (by decide +kernel) (by decide +kernel)⟩
abbrev iX8_allow : MI := (yX8_allow, cX8_allow, 1, (some .boolean), { frames := 0, cells := 0, slots := 0, locals := 0 })
theorem vwX8_allow : VW iX8_allow 0 := ⟨⟨GT_at 358 (by decide +kernel) (by decide +kernel), GT_at 1 (by decide +kernel) (by decide +kernel), ⟨by decide +kernel, by decide +kernel⟩, by decide +kernel⟩, GT_at 357 (by decide +kernel) (by decide +kernel), GT_sel 3 (by decide +kernel) (by decide +kernel)⟩
abbrev iX8_bringUpToDate : MI := (yX8_bringUpToDate, cX8_bringUpToDate, 1, none, { frames := 4, cells := 0, slots := 0, locals := 96 })
theorem vwX8_bringUpToDate : VW iX8_bringUpToDate 0 := ⟨⟨GT_at 532 (by decide +kernel) (by decide +kernel), GT_at 1 (by decide +kernel) (by decide +kernel), ⟨by decide +kernel, by decide +kernel⟩, by decide +kernel⟩, GT_at 531 (by decide +kernel) (by decide +kernel), GT_sel 4 (by decide +kernel) (by decide +kernel)⟩
abbrev iX8_lookAtDoors : MI := (yX8_lookAtDoors, cX8_lookAtDoors, 1, none, { frames := 5, cells := 0, slots := 0, locals := 116 })
theorem vwX8_lookAtDoors : VW iX8_lookAtDoors 0 := ⟨⟨GT_at 599 (by decide +kernel) (by decide +kernel), GT_at 1 (by decide +kernel) (by decide +kernel), ⟨by decide +kernel, by decide +kernel⟩, by decide +kernel⟩, GT_at 598 (by decide +kernel) (by decide +kernel), GT_sel 5 (by decide +kernel) (by decide +kernel)⟩
abbrev iX8_isGrants : MI := (yX8_isGrants, cX8_isGrants, 1, (some .boolean), { frames := 0, cells := 0, slots := 0, locals := 0 })
theorem swX8_isGrants : SW iX8_isGrants 1 := ⟨⟨GT_at 329 (by decide +kernel) (by decide +kernel), GT_at 1 (by decide +kernel) (by decide +kernel), ⟨by decide +kernel, by decide +kernel⟩, by decide +kernel⟩, GT_at 328 (by decide +kernel) (by decide +kernel)⟩
abbrev iX8_isRight : MI := (yX8_isRight, cX8_isRight, 1, (some .boolean), { frames := 0, cells := 0, slots := 0, locals := 0 })
theorem swX8_isRight : SW iX8_isRight 1 := ⟨⟨GT_at 520 (by decide +kernel) (by decide +kernel), GT_at 1 (by decide +kernel) (by decide +kernel), ⟨by decide +kernel, by decide +kernel⟩, by decide +kernel⟩, GT_at 519 (by decide +kernel) (by decide +kernel)⟩
abbrev iX8_hasBit : MI := (yX8_hasBit, cX8_hasBit, 2, (some .boolean), { frames := 0, cells := 0, slots := 0, locals := 0 })
theorem swX8_hasBit : SW iX8_hasBit 2 := ⟨⟨GT_at 547 (by decide +kernel) (by decide +kernel), GT_at 1 (by decide +kernel) (by decide +kernel), ⟨by decide +kernel, by decide +kernel⟩, by decide +kernel⟩, GT_at 546 (by decide +kernel) (by decide +kernel)⟩
abbrev iX8_spot : MI := (yX8_spot, cX8_spot, 2, (some .int), { frames := 0, cells := 0, slots := 0, locals := 0 })
theorem swX8_spot : SW iX8_spot 2 := ⟨⟨GT_at 561 (by decide +kernel) (by decide +kernel), GT_at 1 (by decide +kernel) (by decide +kernel), ⟨by decide +kernel, by decide +kernel⟩, by decide +kernel⟩, GT_at 560 (by decide +kernel) (by decide +kernel)⟩
abbrev iX9_init : MI := (yX9_init, cX9_init, 1, none, { frames := 6, cells := 0, slots := 0, locals := 150 })
theorem nwX9_init : CW iX9_init 0 ∧ Cond.instanceMethod yX9_init ∈ GT := ⟨⟨GT_at 870 (by decide +kernel) (by decide +kernel), GT_at 14 (by decide +kernel) (by decide +kernel), ⟨by decide +kernel, by decide +kernel⟩, by decide +kernel⟩, GT_at 869 (by decide +kernel) (by decide +kernel)⟩
abbrev iX10_init : MI := (yX10_init, cX10_init, 1, none, { frames := 7, cells := 20, slots := 1816, locals := 170 })
theorem nwX10_init : CW iX10_init 0 ∧ Cond.instanceMethod yX10_init ∈ GT := ⟨⟨GT_at 857 (by decide +kernel) (by decide +kernel), GT_at 10 (by decide +kernel) (by decide +kernel), ⟨by decide +kernel, by decide +kernel⟩, by decide +kernel⟩, GT_at 856 (by decide +kernel) (by decide +kernel)⟩
abbrev iX10_thrown : MI := (yX10_thrown, cX10_thrown, 1, (some .int), { frames := 0, cells := 0, slots := 0, locals := 0 })
theorem vwX10_thrown : VW iX10_thrown 0 := ⟨⟨GT_at 998 (by decide +kernel) (by decide +kernel), GT_at 10 (by decide +kernel) (by decide +kernel), ⟨by decide +kernel, by decide +kernel⟩, by decide +kernel⟩, GT_at 996 (by decide +kernel) (by decide +kernel), GT_at 997 (by decide +kernel) (by decide +kernel)⟩
abbrev iX10_refused : MI := (yX10_refused, cX10_refused, 2, (some .int), { frames := 0, cells := 0, slots := 0, locals := 0 })
theorem vwX10_refused : VW iX10_refused 1 := ⟨⟨GT_at 1010 (by decide +kernel) (by decide +kernel), GT_at 10 (by decide +kernel) (by decide +kernel), ⟨by decide +kernel, by decide +kernel⟩, by decide +kernel⟩, GT_at 1009 (by decide +kernel) (by decide +kernel), GT_sel 7 (by decide +kernel) (by decide +kernel)⟩
abbrev iX10_denied : MI := (yX10_denied, cX10_denied, 2, (some .boolean), { frames := 0, cells := 0, slots := 0, locals := 0 })
theorem vwX10_denied : VW iX10_denied 1 := ⟨⟨GT_at 1026 (by decide +kernel) (by decide +kernel), GT_at 10 (by decide +kernel) (by decide +kernel), ⟨by decide +kernel, by decide +kernel⟩, by decide +kernel⟩, GT_at 1025 (by decide +kernel) (by decide +kernel), GT_sel 10 (by decide +kernel) (by decide +kernel)⟩
abbrev iX10_done : MI := (yX10_done, cX10_done, 2, (some .int), { frames := 0, cells := 0, slots := 0, locals := 0 })
theorem vwX10_done : VW iX10_done 1 := ⟨⟨GT_at 1014 (by decide +kernel) (by decide +kernel), GT_at 10 (by decide +kernel) (by decide +kernel), ⟨by decide +kernel, by decide +kernel⟩, by decide +kernel⟩, GT_at 1013 (by decide +kernel) (by decide +kernel), GT_sel 8 (by decide +kernel) (by decide +kernel)⟩
abbrev iX10_granted : MI := (yX10_granted, cX10_granted, 1, (some .boolean), { frames := 0, cells := 0, slots := 0, locals := 0 })
theorem vwX10_granted : VW iX10_granted 0 := ⟨⟨GT_at 1030 (by decide +kernel) (by decide +kernel), GT_at 10 (by decide +kernel) (by decide +kernel), ⟨by decide +kernel, by decide +kernel⟩, by decide +kernel⟩, GT_at 1029 (by decide +kernel) (by decide +kernel), GT_sel 11 (by decide +kernel) (by decide +kernel)⟩
abbrev iX10_in : MI := (yX10_in, cX10_in, 3, (some .boolean), { frames := 0, cells := 0, slots := 0, locals := 0 })
theorem swX10_in : SW iX10_in 3 := ⟨⟨GT_at 1006 (by decide +kernel) (by decide +kernel), GT_at 10 (by decide +kernel) (by decide +kernel), ⟨by decide +kernel, by decide +kernel⟩, by decide +kernel⟩, GT_at 1005 (by decide +kernel) (by decide +kernel)⟩
abbrev iX10_bits : MI := (yX10_bits, cX10_bits, 3, (some .int), { frames := 0, cells := 0, slots := 0, locals := 0 })
theorem swX10_bits : SW iX10_bits 1 := ⟨⟨GT_at 1168 (by decide +kernel) (by decide +kernel), GT_at 10 (by decide +kernel) (by decide +kernel), ⟨by decide +kernel, by decide +kernel⟩, by decide +kernel⟩, GT_at 1167 (by decide +kernel) (by decide +kernel)⟩
abbrev iX10_isPart : MI := (yX10_isPart, cX10_isPart, 2, (some .boolean), { frames := 0, cells := 0, slots := 0, locals := 0 })
theorem vwX10_isPart : VW iX10_isPart 1 := ⟨⟨GT_at 1022 (by decide +kernel) (by decide +kernel), GT_at 10 (by decide +kernel) (by decide +kernel), ⟨by decide +kernel, by decide +kernel⟩, by decide +kernel⟩, GT_at 1021 (by decide +kernel) (by decide +kernel), GT_sel 9 (by decide +kernel) (by decide +kernel)⟩
abbrev iX10_isRight : MI := (yX10_isRight, cX10_isRight, 1, (some .boolean), { frames := 0, cells := 0, slots := 0, locals := 0 })
theorem swX10_isRight : SW iX10_isRight 1 := ⟨⟨GT_at 1129 (by decide +kernel) (by decide +kernel), GT_at 10 (by decide +kernel) (by decide +kernel), ⟨by decide +kernel, by decide +kernel⟩, by decide +kernel⟩, GT_at 1128 (by decide +kernel) (by decide +kernel)⟩
abbrev iX10_part : MI := (yX10_part, cX10_part, 2, (some .int), { frames := 1, cells := 0, slots := 0, locals := 22 })
theorem vwX10_part : VW iX10_part 1 := ⟨⟨GT_at 1002 (by decide +kernel) (by decide +kernel), GT_at 10 (by decide +kernel) (by decide +kernel), ⟨by decide +kernel, by decide +kernel⟩, by decide +kernel⟩, GT_at 1000 (by decide +kernel) (by decide +kernel), GT_at 1001 (by decide +kernel) (by decide +kernel)⟩
abbrev iX10_grant : MI := (yX10_grant, cX10_grant, 3, (some .boolean), { frames := 1, cells := 0, slots := 0, locals := 22 })
theorem vwX10_grant : VW iX10_grant 2 := ⟨⟨GT_at 1018 (by decide +kernel) (by decide +kernel), GT_at 10 (by decide +kernel) (by decide +kernel), ⟨by decide +kernel, by decide +kernel⟩, by decide +kernel⟩, GT_at 1016 (by decide +kernel) (by decide +kernel), GT_at 1017 (by decide +kernel) (by decide +kernel)⟩
abbrev iX10_stop : MI := (yX10_stop, cX10_stop, 2, (some (.object "RightsHouseModel$Stop")), { frames := 0, cells := 0, slots := 0, locals := 0 })
theorem vwX10_stop : VW iX10_stop 1 := ⟨⟨GT_at 1076 (by decide +kernel) (by decide +kernel), GT_at 10 (by decide +kernel) (by decide +kernel), ⟨by decide +kernel, by decide +kernel⟩, by decide +kernel⟩, GT_at 1075 (by decide +kernel) (by decide +kernel), GT_sel 16 (by decide +kernel) (by decide +kernel)⟩
abbrev iX10_byteAt : MI := (yX10_byteAt, cX10_byteAt, 2, (some .int), { frames := 0, cells := 0, slots := 0, locals := 0 })
theorem vwX10_byteAt : VW iX10_byteAt 1 := ⟨⟨GT_at 1050 (by decide +kernel) (by decide +kernel), GT_at 10 (by decide +kernel) (by decide +kernel), ⟨by decide +kernel, by decide +kernel⟩, by decide +kernel⟩, GT_at 1049 (by decide +kernel) (by decide +kernel), GT_sel 14 (by decide +kernel) (by decide +kernel)⟩
abbrev iX10_isLetter : MI := (yX10_isLetter, cX10_isLetter, 1, (some .boolean), { frames := 0, cells := 0, slots := 0, locals := 0 })
theorem swX10_isLetter : SW iX10_isLetter 1 := ⟨⟨GT_at 1053 (by decide +kernel) (by decide +kernel), GT_at 10 (by decide +kernel) (by decide +kernel), ⟨by decide +kernel, by decide +kernel⟩, by decide +kernel⟩, GT_at 1052 (by decide +kernel) (by decide +kernel)⟩
abbrev iX10_isDigit : MI := (yX10_isDigit, cX10_isDigit, 1, (some .boolean), { frames := 0, cells := 0, slots := 0, locals := 0 })
theorem swX10_isDigit : SW iX10_isDigit 1 := ⟨⟨GT_at 1057 (by decide +kernel) (by decide +kernel), GT_at 10 (by decide +kernel) (by decide +kernel), ⟨by decide +kernel, by decide +kernel⟩, by decide +kernel⟩, GT_at 1056 (by decide +kernel) (by decide +kernel)⟩
abbrev iX10_wordOf : MI := (yX10_wordOf, cX10_wordOf, 4, (some .long), { frames := 5, cells := 0, slots := 0, locals := 106 })
theorem swX10_wordOf : SW iX10_wordOf 1 := ⟨⟨GT_at 1065 (by decide +kernel) (by decide +kernel), GT_at 10 (by decide +kernel) (by decide +kernel), ⟨by decide +kernel, by decide +kernel⟩, by decide +kernel⟩, GT_at 1064 (by decide +kernel) (by decide +kernel)⟩
abbrev iX10_next : MI := (yX10_next, cX10_next, 3, none, { frames := 1, cells := 0, slots := 0, locals := 21 })
theorem vwX10_next : VW iX10_next 0 := ⟨⟨GT_at 1046 (by decide +kernel) (by decide +kernel), GT_at 10 (by decide +kernel) (by decide +kernel), ⟨by decide +kernel, by decide +kernel⟩, by decide +kernel⟩, GT_at 1045 (by decide +kernel) (by decide +kernel), GT_sel 13 (by decide +kernel) (by decide +kernel)⟩
abbrev iX10_isWord : MI := (yX10_isWord, cX10_isWord, 2, (some .boolean), { frames := 6, cells := 0, slots := 0, locals := 129 })
theorem vwX10_isWord : VW iX10_isWord 1 := ⟨⟨GT_at 1062 (by decide +kernel) (by decide +kernel), GT_at 10 (by decide +kernel) (by decide +kernel), ⟨by decide +kernel, by decide +kernel⟩, by decide +kernel⟩, GT_at 1061 (by decide +kernel) (by decide +kernel), GT_sel 15 (by decide +kernel) (by decide +kernel)⟩
abbrev iX10_is : MI := (yX10_is, cX10_is, 2, (some .boolean), { frames := 0, cells := 0, slots := 0, locals := 0 })
theorem vwX10_is : VW iX10_is 1 := ⟨⟨GT_at 1107 (by decide +kernel) (by decide +kernel), GT_at 10 (by decide +kernel) (by decide +kernel), ⟨by decide +kernel, by decide +kernel⟩, by decide +kernel⟩, GT_at 1106 (by decide +kernel) (by decide +kernel), GT_sel 23 (by decide +kernel) (by decide +kernel)⟩
abbrev iX10_needWord : MI := (yX10_needWord, cX10_needWord, 2, none, { frames := 7, cells := 0, slots := 0, locals := 150 })
theorem vwX10_needWord : VW iX10_needWord 1 := ⟨⟨GT_at 1089 (by decide +kernel) (by decide +kernel), GT_at 10 (by decide +kernel) (by decide +kernel), ⟨by decide +kernel, by decide +kernel⟩, by decide +kernel⟩, GT_at 1088 (by decide +kernel) (by decide +kernel), GT_sel 19 (by decide +kernel) (by decide +kernel)⟩
abbrev iX10_nameHere : MI := (yX10_nameHere, cX10_nameHere, 1, (some .int), { frames := 1, cells := 0, slots := 0, locals := 21 })
theorem vwX10_nameHere : VW iX10_nameHere 0 := ⟨⟨GT_at 1097 (by decide +kernel) (by decide +kernel), GT_at 10 (by decide +kernel) (by decide +kernel), ⟨by decide +kernel, by decide +kernel⟩, by decide +kernel⟩, GT_at 1096 (by decide +kernel) (by decide +kernel), GT_sel 21 (by decide +kernel) (by decide +kernel)⟩
abbrev iX10_needName : MI := (yX10_needName, cX10_needName, 2, (some .int), { frames := 2, cells := 0, slots := 0, locals := 43 })
theorem vwX10_needName : VW iX10_needName 0 := ⟨⟨GT_at 1093 (by decide +kernel) (by decide +kernel), GT_at 10 (by decide +kernel) (by decide +kernel), ⟨by decide +kernel, by decide +kernel⟩, by decide +kernel⟩, GT_at 1092 (by decide +kernel) (by decide +kernel), GT_sel 20 (by decide +kernel) (by decide +kernel)⟩
abbrev iX10_needWhole : MI := (yX10_needWhole, cX10_needWhole, 3, (some .int), { frames := 2, cells := 0, slots := 0, locals := 43 })
theorem vwX10_needWhole : VW iX10_needWhole 1 := ⟨⟨GT_at 1084 (by decide +kernel) (by decide +kernel), GT_at 10 (by decide +kernel) (by decide +kernel), ⟨by decide +kernel, by decide +kernel⟩, by decide +kernel⟩, GT_at 1083 (by decide +kernel) (by decide +kernel), GT_sel 18 (by decide +kernel) (by decide +kernel)⟩
abbrev iX10_reads : MI := (yX10_reads, cX10_reads, 3, none, { frames := 9, cells := 0, slots := 0, locals := 193 })
theorem vwX10_reads : VW iX10_reads 0 := ⟨⟨GT_at 1042 (by decide +kernel) (by decide +kernel), GT_at 10 (by decide +kernel) (by decide +kernel), ⟨by decide +kernel, by decide +kernel⟩, by decide +kernel⟩, GT_at 1041 (by decide +kernel) (by decide +kernel), GT_sel 12 (by decide +kernel) (by decide +kernel)⟩
abbrev iX10_readLine : MI := (yX10_readLine, cX10_readLine, 3, none, { frames := 8, cells := 0, slots := 0, locals := 171 })
theorem vwX10_readLine : VW iX10_readLine 2 := ⟨⟨GT_at 1080 (by decide +kernel) (by decide +kernel), GT_at 10 (by decide +kernel) (by decide +kernel), ⟨by decide +kernel, by decide +kernel⟩, by decide +kernel⟩, GT_at 1079 (by decide +kernel) (by decide +kernel), GT_sel 17 (by decide +kernel) (by decide +kernel)⟩
abbrev iX10_readFrom : MI := (yX10_readFrom, cX10_readFrom, 4, none, { frames := 2, cells := 0, slots := 0, locals := 43 })
theorem vwX10_readFrom : VW iX10_readFrom 1 := ⟨⟨GT_at 1103 (by decide +kernel) (by decide +kernel), GT_at 10 (by decide +kernel) (by decide +kernel), ⟨by decide +kernel, by decide +kernel⟩, by decide +kernel⟩, GT_at 1102 (by decide +kernel) (by decide +kernel), GT_sel 22 (by decide +kernel) (by decide +kernel)⟩
abbrev iX10_feed : MI := (yX10_feed, cX10_feed, 8, (some .int), { frames := 0, cells := 0, slots := 0, locals := 0 })
theorem vwX10_feed : VW iX10_feed 5 := ⟨⟨GT_at 1034 (by decide +kernel) (by decide +kernel), GT_at 10 (by decide +kernel) (by decide +kernel), ⟨by decide +kernel, by decide +kernel⟩, by decide +kernel⟩, GT_at 1032 (by decide +kernel) (by decide +kernel), GT_at 1033 (by decide +kernel) (by decide +kernel)⟩
abbrev iX10_lines : MI := (yX10_lines, cX10_lines, 5, (some .int), { frames := 10, cells := 0, slots := 0, locals := 215 })
abbrev iX10_fault : MI := (yX10_fault, cX10_fault, 1, (some .int), { frames := 0, cells := 0, slots := 0, locals := 0 })
theorem vwX10_fault : VW iX10_fault 0 := ⟨⟨GT_at 1114 (by decide +kernel) (by decide +kernel), GT_at 10 (by decide +kernel) (by decide +kernel), ⟨by decide +kernel, by decide +kernel⟩, by decide +kernel⟩, GT_at 1112 (by decide +kernel) (by decide +kernel), GT_at 1113 (by decide +kernel) (by decide +kernel)⟩
abbrev iX10_where : MI := (yX10_where, cX10_where, 1, (some .int), { frames := 0, cells := 0, slots := 0, locals := 0 })
theorem vwX10_where : VW iX10_where 0 := ⟨⟨GT_at 1118 (by decide +kernel) (by decide +kernel), GT_at 10 (by decide +kernel) (by decide +kernel), ⟨by decide +kernel, by decide +kernel⟩, by decide +kernel⟩, GT_at 1116 (by decide +kernel) (by decide +kernel), GT_at 1117 (by decide +kernel) (by decide +kernel)⟩
abbrev iX10_line : MI := (yX10_line, cX10_line, 5, (some .int), { frames := 1, cells := 0, slots := 0, locals := 21 })
theorem vwX10_line : VW iX10_line 3 := ⟨⟨GT_at 1122 (by decide +kernel) (by decide +kernel), GT_at 10 (by decide +kernel) (by decide +kernel), ⟨by decide +kernel, by decide +kernel⟩, by decide +kernel⟩, GT_at 1120 (by decide +kernel) (by decide +kernel), GT_at 1121 (by decide +kernel) (by decide +kernel)⟩
abbrev iX10_meant : MI := (yX10_meant, cX10_meant, 4, (some .boolean), { frames := 1, cells := 0, slots := 0, locals := 21 })
theorem vwX10_meant : VW iX10_meant 3 := ⟨⟨GT_at 1126 (by decide +kernel) (by decide +kernel), GT_at 10 (by decide +kernel) (by decide +kernel), ⟨by decide +kernel, by decide +kernel⟩, by decide +kernel⟩, GT_at 1124 (by decide +kernel) (by decide +kernel), GT_at 1125 (by decide +kernel) (by decide +kernel)⟩
abbrev iX10_asks : MI := (yX10_asks, cX10_asks, 4, none, { frames := 0, cells := 0, slots := 0, locals := 0 })
theorem vwX10_asks : VW iX10_asks 0 := ⟨⟨GT_at 1141 (by decide +kernel) (by decide +kernel), GT_at 10 (by decide +kernel) (by decide +kernel), ⟨by decide +kernel, by decide +kernel⟩, by decide +kernel⟩, GT_at 1140 (by decide +kernel) (by decide +kernel), GT_sel 25 (by decide +kernel) (by decide +kernel)⟩
abbrev iX10_comes : MI := (yX10_comes, cX10_comes, 4, (some .boolean), { frames := 0, cells := 0, slots := 0, locals := 0 })
theorem vwX10_comes : VW iX10_comes 2 := ⟨⟨GT_at 1149 (by decide +kernel) (by decide +kernel), GT_at 10 (by decide +kernel) (by decide +kernel), ⟨by decide +kernel, by decide +kernel⟩, by decide +kernel⟩, GT_at 1148 (by decide +kernel) (by decide +kernel), GT_sel 27 (by decide +kernel) (by decide +kernel)⟩
abbrev iX10_works : MI := (yX10_works, cX10_works, 5, none, { frames := 2, cells := 0, slots := 0, locals := 47 })
theorem vwX10_works : VW iX10_works 0 := ⟨⟨GT_at 1137 (by decide +kernel) (by decide +kernel), GT_at 10 (by decide +kernel) (by decide +kernel), ⟨by decide +kernel, by decide +kernel⟩, by decide +kernel⟩, GT_at 1136 (by decide +kernel) (by decide +kernel), GT_sel 24 (by decide +kernel) (by decide +kernel)⟩
abbrev iX10_goes : MI := (yX10_goes, cX10_goes, 5, (some .boolean), { frames := 1, cells := 0, slots := 0, locals := 23 })
theorem vwX10_goes : VW iX10_goes 2 := ⟨⟨GT_at 1145 (by decide +kernel) (by decide +kernel), GT_at 10 (by decide +kernel) (by decide +kernel), ⟨by decide +kernel, by decide +kernel⟩, by decide +kernel⟩, GT_at 1144 (by decide +kernel) (by decide +kernel), GT_sel 26 (by decide +kernel) (by decide +kernel)⟩
abbrev iX10_holds : MI := (yX10_holds, cX10_holds, 3, (some .int), { frames := 3, cells := 0, slots := 0, locals := 71 })
theorem vwX10_holds : VW iX10_holds 2 := ⟨⟨GT_at 1133 (by decide +kernel) (by decide +kernel), GT_at 10 (by decide +kernel) (by decide +kernel), ⟨by decide +kernel, by decide +kernel⟩, by decide +kernel⟩, GT_at 1131 (by decide +kernel) (by decide +kernel), GT_at 1132 (by decide +kernel) (by decide +kernel)⟩
abbrev iX10_result : MI := (yX10_result, cX10_result, 2, (some .int), { frames := 3, cells := 0, slots := 0, locals := 71 })
theorem vwX10_result : VW iX10_result 1 := ⟨⟨GT_at 1153 (by decide +kernel) (by decide +kernel), GT_at 10 (by decide +kernel) (by decide +kernel), ⟨by decide +kernel, by decide +kernel⟩, by decide +kernel⟩, GT_at 1151 (by decide +kernel) (by decide +kernel), GT_at 1152 (by decide +kernel) (by decide +kernel)⟩
abbrev iX10_asked : MI := (yX10_asked, cX10_asked, 2, (some .int), { frames := 1, cells := 0, slots := 0, locals := 23 })
theorem vwX10_asked : VW iX10_asked 1 := ⟨⟨GT_at 1157 (by decide +kernel) (by decide +kernel), GT_at 10 (by decide +kernel) (by decide +kernel), ⟨by decide +kernel, by decide +kernel⟩, by decide +kernel⟩, GT_at 1155 (by decide +kernel) (by decide +kernel), GT_at 1156 (by decide +kernel) (by decide +kernel)⟩
abbrev iX10_door : MI := (yX10_door, cX10_door, 4, (some .int), { frames := 3, cells := 0, slots := 0, locals := 71 })
theorem vwX10_door : VW iX10_door 1 := ⟨⟨GT_at 1161 (by decide +kernel) (by decide +kernel), GT_at 10 (by decide +kernel) (by decide +kernel), ⟨by decide +kernel, by decide +kernel⟩, by decide +kernel⟩, GT_at 1159 (by decide +kernel) (by decide +kernel), GT_at 1160 (by decide +kernel) (by decide +kernel)⟩
abbrev iX10_leaks : MI := (yX10_leaks, cX10_leaks, 3, (some .int), { frames := 3, cells := 0, slots := 0, locals := 71 })
theorem vwX10_leaks : VW iX10_leaks 0 := ⟨⟨GT_at 1165 (by decide +kernel) (by decide +kernel), GT_at 10 (by decide +kernel) (by decide +kernel), ⟨by decide +kernel, by decide +kernel⟩, by decide +kernel⟩, GT_at 1163 (by decide +kernel) (by decide +kernel), GT_at 1164 (by decide +kernel) (by decide +kernel)⟩
abbrev iX10_misuses : MI := (yX10_misuses, cX10_misuses, 3, (some .int), { frames := 1, cells := 0, slots := 0, locals := 22 })
theorem vwX10_misuses : VW iX10_misuses 0 := ⟨⟨GT_at 1176 (by decide +kernel) (by decide +kernel), GT_at 10 (by decide +kernel) (by decide +kernel), ⟨by decide +kernel, by decide +kernel⟩, by decide +kernel⟩, GT_at 1175 (by decide +kernel) (by decide +kernel), GT_sel 28 (by decide +kernel) (by decide +kernel)⟩
abbrev iX10_misuse : MI := (yX10_misuse, cX10_misuse, 4, (some .int), { frames := 3, cells := 0, slots := 0, locals := 71 })
theorem vwX10_misuse : VW iX10_misuse 1 := ⟨⟨GT_at 1172 (by decide +kernel) (by decide +kernel), GT_at 10 (by decide +kernel) (by decide +kernel), ⟨by decide +kernel, by decide +kernel⟩, by decide +kernel⟩, GT_at 1170 (by decide +kernel) (by decide +kernel), GT_at 1171 (by decide +kernel) (by decide +kernel)⟩
abbrev iX10_wrong : MI := (yX10_wrong, cX10_wrong, 5, (some .int), { frames := 3, cells := 0, slots := 0, locals := 71 })
theorem vwX10_wrong : VW iX10_wrong 1 := ⟨⟨GT_at 1180 (by decide +kernel) (by decide +kernel), GT_at 10 (by decide +kernel) (by decide +kernel), ⟨by decide +kernel, by decide +kernel⟩, by decide +kernel⟩, GT_at 1178 (by decide +kernel) (by decide +kernel), GT_at 1179 (by decide +kernel) (by decide +kernel)⟩
abbrev iX10_leads : MI := (yX10_leads, cX10_leads, 9, (some .int), { frames := 1, cells := 0, slots := 0, locals := 22 })
theorem vwX10_leads : VW iX10_leads 5 := ⟨⟨GT_at 1193 (by decide +kernel) (by decide +kernel), GT_at 10 (by decide +kernel) (by decide +kernel), ⟨by decide +kernel, by decide +kernel⟩, by decide +kernel⟩, GT_at 1192 (by decide +kernel) (by decide +kernel), GT_sel 30 (by decide +kernel) (by decide +kernel)⟩
abbrev iX10_into : MI := (yX10_into, cX10_into, 3, (some .int), { frames := 0, cells := 0, slots := 0, locals := 0 })
theorem vwX10_into : VW iX10_into 2 := ⟨⟨GT_at 1197 (by decide +kernel) (by decide +kernel), GT_at 10 (by decide +kernel) (by decide +kernel), ⟨by decide +kernel, by decide +kernel⟩, by decide +kernel⟩, GT_at 1196 (by decide +kernel) (by decide +kernel), GT_sel 31 (by decide +kernel) (by decide +kernel)⟩
abbrev iX10_measures : MI := (yX10_measures, cX10_measures, 8, none, { frames := 2, cells := 0, slots := 0, locals := 50 })
theorem vwX10_measures : VW iX10_measures 2 := ⟨⟨GT_at 1188 (by decide +kernel) (by decide +kernel), GT_at 10 (by decide +kernel) (by decide +kernel), ⟨by decide +kernel, by decide +kernel⟩, by decide +kernel⟩, GT_at 1187 (by decide +kernel) (by decide +kernel), GT_sel 29 (by decide +kernel) (by decide +kernel)⟩
abbrev iX10_way : MI := (yX10_way, cX10_way, 8, (some .int), { frames := 3, cells := 0, slots := 0, locals := 77 })
theorem vwX10_way : VW iX10_way 2 := ⟨⟨GT_at 1184 (by decide +kernel) (by decide +kernel), GT_at 10 (by decide +kernel) (by decide +kernel), ⟨by decide +kernel, by decide +kernel⟩, by decide +kernel⟩, GT_at 1182 (by decide +kernel) (by decide +kernel), GT_at 1183 (by decide +kernel) (by decide +kernel)⟩
abbrev iX10_follows : MI := (yX10_follows, cX10_follows, 7, (some .int), { frames := 2, cells := 0, slots := 0, locals := 50 })
theorem vwX10_follows : VW iX10_follows 3 := ⟨⟨GT_at 1201 (by decide +kernel) (by decide +kernel), GT_at 10 (by decide +kernel) (by decide +kernel), ⟨by decide +kernel, by decide +kernel⟩, by decide +kernel⟩, GT_at 1200 (by decide +kernel) (by decide +kernel), GT_sel 32 (by decide +kernel) (by decide +kernel)⟩
abbrev iX10_step : MI := (yX10_step, cX10_step, 2, (some .int), { frames := 0, cells := 0, slots := 0, locals := 0 })
theorem vwX10_step : VW iX10_step 1 := ⟨⟨GT_at 1205 (by decide +kernel) (by decide +kernel), GT_at 10 (by decide +kernel) (by decide +kernel), ⟨by decide +kernel, by decide +kernel⟩, by decide +kernel⟩, GT_at 1203 (by decide +kernel) (by decide +kernel), GT_at 1204 (by decide +kernel) (by decide +kernel)⟩
abbrev iX10_neededOf : MI := (yX10_neededOf, cX10_neededOf, 4, (some .int), { frames := 0, cells := 0, slots := 0, locals := 0 })
theorem vwX10_neededOf : VW iX10_neededOf 1 := ⟨⟨GT_at 1213 (by decide +kernel) (by decide +kernel), GT_at 10 (by decide +kernel) (by decide +kernel), ⟨by decide +kernel, by decide +kernel⟩, by decide +kernel⟩, GT_at 1212 (by decide +kernel) (by decide +kernel), GT_sel 33 (by decide +kernel) (by decide +kernel)⟩
abbrev iX10_needed : MI := (yX10_needed, cX10_needed, 2, (some .int), { frames := 1, cells := 0, slots := 0, locals := 23 })
theorem vwX10_needed : VW iX10_needed 1 := ⟨⟨GT_at 1209 (by decide +kernel) (by decide +kernel), GT_at 10 (by decide +kernel) (by decide +kernel), ⟨by decide +kernel, by decide +kernel⟩, by decide +kernel⟩, GT_at 1207 (by decide +kernel) (by decide +kernel), GT_at 1208 (by decide +kernel) (by decide +kernel)⟩
abbrev iX10_idle : MI := (yX10_idle, cX10_idle, 2, (some .int), { frames := 1, cells := 0, slots := 0, locals := 23 })
theorem vwX10_idle : VW iX10_idle 1 := ⟨⟨GT_at 1217 (by decide +kernel) (by decide +kernel), GT_at 10 (by decide +kernel) (by decide +kernel), ⟨by decide +kernel, by decide +kernel⟩, by decide +kernel⟩, GT_at 1215 (by decide +kernel) (by decide +kernel), GT_at 1216 (by decide +kernel) (by decide +kernel)⟩
abbrev iX10_lacking : MI := (yX10_lacking, cX10_lacking, 2, (some .int), { frames := 1, cells := 0, slots := 0, locals := 23 })
theorem vwX10_lacking : VW iX10_lacking 1 := ⟨⟨GT_at 1221 (by decide +kernel) (by decide +kernel), GT_at 10 (by decide +kernel) (by decide +kernel), ⟨by decide +kernel, by decide +kernel⟩, by decide +kernel⟩, GT_at 1219 (by decide +kernel) (by decide +kernel), GT_at 1220 (by decide +kernel) (by decide +kernel)⟩
abbrev iX10_helped : MI := (yX10_helped, cX10_helped, 6, (some .int), { frames := 1, cells := 0, slots := 0, locals := 23 })
theorem vwX10_helped : VW iX10_helped 1 := ⟨⟨GT_at 1225 (by decide +kernel) (by decide +kernel), GT_at 10 (by decide +kernel) (by decide +kernel), ⟨by decide +kernel, by decide +kernel⟩, by decide +kernel⟩, GT_at 1223 (by decide +kernel) (by decide +kernel), GT_at 1224 (by decide +kernel) (by decide +kernel)⟩
abbrev iX10_trim : MI := (yX10_trim, cX10_trim, 4, (some .int), { frames := 1, cells := 0, slots := 0, locals := 23 })
theorem vwX10_trim : VW iX10_trim 0 := ⟨⟨GT_at 1229 (by decide +kernel) (by decide +kernel), GT_at 10 (by decide +kernel) (by decide +kernel), ⟨by decide +kernel, by decide +kernel⟩, by decide +kernel⟩, GT_at 1227 (by decide +kernel) (by decide +kernel), GT_at 1228 (by decide +kernel) (by decide +kernel)⟩
abbrev iX10_turns : MI := (yX10_turns, cX10_turns, 2, none, { frames := 0, cells := 0, slots := 0, locals := 0 })
theorem vwX10_turns : VW iX10_turns 1 := ⟨⟨GT_at 1240 (by decide +kernel) (by decide +kernel), GT_at 10 (by decide +kernel) (by decide +kernel), ⟨by decide +kernel, by decide +kernel⟩, by decide +kernel⟩, GT_at 1239 (by decide +kernel) (by decide +kernel), GT_sel 34 (by decide +kernel) (by decide +kernel)⟩
abbrev iX10_isWell : MI := (yX10_isWell, cX10_isWell, 3, (some .boolean), { frames := 3, cells := 0, slots := 0, locals := 71 })
theorem vwX10_isWell : VW iX10_isWell 0 := ⟨⟨GT_at 1244 (by decide +kernel) (by decide +kernel), GT_at 10 (by decide +kernel) (by decide +kernel), ⟨by decide +kernel, by decide +kernel⟩, by decide +kernel⟩, GT_at 1243 (by decide +kernel) (by decide +kernel), GT_sel 35 (by decide +kernel) (by decide +kernel)⟩
abbrev iX10_cure : MI := (yX10_cure, cX10_cure, 5, (some .int), { frames := 4, cells := 0, slots := 0, locals := 93 })
theorem vwX10_cure : VW iX10_cure 0 := ⟨⟨GT_at 1233 (by decide +kernel) (by decide +kernel), GT_at 10 (by decide +kernel) (by decide +kernel), ⟨by decide +kernel, by decide +kernel⟩, by decide +kernel⟩, GT_at 1231 (by decide +kernel) (by decide +kernel), GT_at 1232 (by decide +kernel) (by decide +kernel)⟩
abbrev iX10_isAhead : MI := (yX10_isAhead, cX10_isAhead, 3, (some .boolean), { frames := 0, cells := 0, slots := 0, locals := 0 })
theorem swX10_isAhead : SW iX10_isAhead 2 := ⟨⟨GT_at 1236 (by decide +kernel) (by decide +kernel), GT_at 10 (by decide +kernel) (by decide +kernel), ⟨by decide +kernel, by decide +kernel⟩, by decide +kernel⟩, GT_at 1235 (by decide +kernel) (by decide +kernel)⟩
abbrev iX10_cured : MI := (yX10_cured, cX10_cured, 2, (some .int), { frames := 0, cells := 0, slots := 0, locals := 0 })
theorem vwX10_cured : VW iX10_cured 1 := ⟨⟨GT_at 1248 (by decide +kernel) (by decide +kernel), GT_at 10 (by decide +kernel) (by decide +kernel), ⟨by decide +kernel, by decide +kernel⟩, by decide +kernel⟩, GT_at 1246 (by decide +kernel) (by decide +kernel), GT_at 1247 (by decide +kernel) (by decide +kernel)⟩
abbrev iX10_without : MI := (yX10_without, cX10_without, 4, (some .int), { frames := 3, cells := 0, slots := 0, locals := 71 })
theorem vwX10_without : VW iX10_without 2 := ⟨⟨GT_at 1252 (by decide +kernel) (by decide +kernel), GT_at 10 (by decide +kernel) (by decide +kernel), ⟨by decide +kernel, by decide +kernel⟩, by decide +kernel⟩, GT_at 1250 (by decide +kernel) (by decide +kernel), GT_at 1251 (by decide +kernel) (by decide +kernel)⟩
abbrev iX10_key : MI := (yX10_key, cX10_key, 7, (some .int), { frames := 3, cells := 0, slots := 0, locals := 71 })
theorem vwX10_key : VW iX10_key 0 := ⟨⟨GT_at 1256 (by decide +kernel) (by decide +kernel), GT_at 10 (by decide +kernel) (by decide +kernel), ⟨by decide +kernel, by decide +kernel⟩, by decide +kernel⟩, GT_at 1254 (by decide +kernel) (by decide +kernel), GT_at 1255 (by decide +kernel) (by decide +kernel)⟩
abbrev iX10_count : MI := (yX10_count, cX10_count, 4, (some .int), { frames := 1, cells := 0, slots := 0, locals := 22 })
theorem vwX10_count : VW iX10_count 1 := ⟨⟨GT_at 1260 (by decide +kernel) (by decide +kernel), GT_at 10 (by decide +kernel) (by decide +kernel), ⟨by decide +kernel, by decide +kernel⟩, by decide +kernel⟩, GT_at 1258 (by decide +kernel) (by decide +kernel), GT_at 1259 (by decide +kernel) (by decide +kernel)⟩
abbrev iX10_trouble : MI := (yX10_trouble, cX10_trouble, 1, (some .int), { frames := 0, cells := 0, slots := 0, locals := 0 })
theorem vwX10_trouble : VW iX10_trouble 0 := ⟨⟨GT_at 1264 (by decide +kernel) (by decide +kernel), GT_at 10 (by decide +kernel) (by decide +kernel), ⟨by decide +kernel, by decide +kernel⟩, by decide +kernel⟩, GT_at 1262 (by decide +kernel) (by decide +kernel), GT_at 1263 (by decide +kernel) (by decide +kernel)⟩
abbrev iJ6_bitCount_0f7a4 : MI := (yJ6_bitCount_0f7a4, cJ6_bitCount_0f7a4, 1, (some .int), { frames := 0, cells := 0, slots := 0, locals := 0 })
theorem swJ6_bitCount_0f7a4 : SW iJ6_bitCount_0f7a4 1 := ⟨⟨GT_at 618 (by decide +kernel) (by decide +kernel), GT_at 21 (by decide +kernel) (by decide +kernel), ⟨by decide +kernel, by decide +kernel⟩, by decide +kernel⟩, GT_at 617 (by decide +kernel) (by decide +kernel)⟩
abbrev iJ9_min_7cf53 : MI := (yJ9_min_7cf53, cJ9_min_7cf53, 2, (some .int), { frames := 0, cells := 0, slots := 0, locals := 0 })
theorem swJ9_min_7cf53 : SW iJ9_min_7cf53 2 := ⟨⟨GT_at 659 (by decide +kernel) (by decide +kernel), GT_at 22 (by decide +kernel) (by decide +kernel), ⟨by decide +kernel, by decide +kernel⟩, by decide +kernel⟩, GT_at 658 (by decide +kernel) (by decide +kernel)⟩
abbrev iJ0_length_8abf5 : MI := (yJ0_length_8abf5, cJ0_length_8abf5, 1, (some .int), { frames := 1, cells := 0, slots := 0, locals := 20 })
theorem vwJ0_length_8abf5 : VW iJ0_length_8abf5 0 := ⟨⟨GT_at 399 (by decide +kernel) (by decide +kernel), GT_at 15 (by decide +kernel) (by decide +kernel), ⟨by decide +kernel, by decide +kernel⟩, by decide +kernel⟩, GT_at 397 (by decide +kernel) (by decide +kernel), GT_at 398 (by decide +kernel) (by decide +kernel)⟩
abbrev iJ0_charAt_5068e : MI := (yJ0_charAt_5068e, cJ0_charAt_5068e, 2, (some .char), { frames := 4, cells := 0, slots := 0, locals := 85 })
theorem vwJ0_charAt_5068e : VW iJ0_charAt_5068e 1 := ⟨⟨GT_at 409 (by decide +kernel) (by decide +kernel), GT_at 15 (by decide +kernel) (by decide +kernel), ⟨by decide +kernel, by decide +kernel⟩, by decide +kernel⟩, GT_at 407 (by decide +kernel) (by decide +kernel), GT_at 408 (by decide +kernel) (by decide +kernel)⟩
abbrev iJ0_coder_7d493 : MI := (yJ0_coder_7d493, cJ0_coder_7d493, 1, (some .byte), { frames := 0, cells := 0, slots := 0, locals := 0 })
theorem vwJ0_coder_7d493 : VW iJ0_coder_7d493 0 := ⟨⟨GT_at 403 (by decide +kernel) (by decide +kernel), GT_at 15 (by decide +kernel) (by decide +kernel), ⟨by decide +kernel, by decide +kernel⟩, by decide +kernel⟩, GT_at 401 (by decide +kernel) (by decide +kernel), GT_at 402 (by decide +kernel) (by decide +kernel)⟩
abbrev iJ0_isLatin1_aae02 : MI := (yJ0_isLatin1_aae02, cJ0_isLatin1_aae02, 1, (some .boolean), { frames := 0, cells := 0, slots := 0, locals := 0 })
theorem vwJ0_isLatin1_aae02 : VW iJ0_isLatin1_aae02 0 := ⟨⟨GT_at 413 (by decide +kernel) (by decide +kernel), GT_at 15 (by decide +kernel) (by decide +kernel), ⟨by decide +kernel, by decide +kernel⟩, by decide +kernel⟩, GT_at 411 (by decide +kernel) (by decide +kernel), GT_at 412 (by decide +kernel) (by decide +kernel)⟩
abbrev iJ0_checkIndex_df160 : MI := (yJ0_checkIndex_df160, cJ0_checkIndex_df160, 2, none, { frames := 1, cells := 0, slots := 0, locals := 22 })
theorem swJ0_checkIndex_df160 : SW iJ0_checkIndex_df160 2 := ⟨⟨GT_at 419 (by decide +kernel) (by decide +kernel), GT_at 15 (by decide +kernel) (by decide +kernel), ⟨by decide +kernel, by decide +kernel⟩, by decide +kernel⟩, GT_at 418 (by decide +kernel) (by decide +kernel)⟩
abbrev iJ1_charAt_3b067 : MI := (yJ1_charAt_3b067, cJ1_charAt_3b067, 2, (some .char), { frames := 2, cells := 0, slots := 0, locals := 43 })
theorem swJ1_charAt_3b067 : SW iJ1_charAt_3b067 2 := ⟨⟨GT_at 416 (by decide +kernel) (by decide +kernel), GT_at 16 (by decide +kernel) (by decide +kernel), ⟨by decide +kernel, by decide +kernel⟩, by decide +kernel⟩, GT_at 415 (by decide +kernel) (by decide +kernel)⟩
abbrev iJ2_getChar_3b067 : MI := (yJ2_getChar_3b067, cJ2_getChar_3b067, 2, (some .char), { frames := 1, cells := 0, slots := 0, locals := 20 })
theorem swJ2_getChar_3b067 : SW iJ2_getChar_3b067 2 := ⟨⟨GT_at 437 (by decide +kernel) (by decide +kernel), GT_at 18 (by decide +kernel) (by decide +kernel), ⟨by decide +kernel, by decide +kernel⟩, by decide +kernel⟩, GT_at 436 (by decide +kernel) (by decide +kernel)⟩
abbrev iJ2_length_9d52b : MI := (yJ2_length_9d52b, cJ2_length_9d52b, 1, (some .int), { frames := 0, cells := 0, slots := 0, locals := 0 })
theorem swJ2_length_9d52b : SW iJ2_length_9d52b 1 := ⟨⟨GT_at 433 (by decide +kernel) (by decide +kernel), GT_at 18 (by decide +kernel) (by decide +kernel), ⟨by decide +kernel, by decide +kernel⟩, by decide +kernel⟩, GT_at 432 (by decide +kernel) (by decide +kernel)⟩
abbrev iJ2_charAt_3b067 : MI := (yJ2_charAt_3b067, cJ2_charAt_3b067, 2, (some .char), { frames := 3, cells := 0, slots := 0, locals := 64 })
theorem swJ2_charAt_3b067 : SW iJ2_charAt_3b067 2 := ⟨⟨GT_at 427 (by decide +kernel) (by decide +kernel), GT_at 18 (by decide +kernel) (by decide +kernel), ⟨by decide +kernel, by decide +kernel⟩, by decide +kernel⟩, GT_at 426 (by decide +kernel) (by decide +kernel)⟩
abbrev iJ2_checkIndex_2214a : MI := (yJ2_checkIndex_2214a, cJ2_checkIndex_2214a, 2, none, { frames := 2, cells := 0, slots := 0, locals := 43 })
theorem swJ2_checkIndex_2214a : SW iJ2_checkIndex_2214a 2 := ⟨⟨GT_at 430 (by decide +kernel) (by decide +kernel), GT_at 18 (by decide +kernel) (by decide +kernel), ⟨by decide +kernel, by decide +kernel⟩, by decide +kernel⟩, GT_at 429 (by decide +kernel) (by decide +kernel)⟩
abbrev iJ7_fill_53178 : MI := (yJ7_fill_53178, cJ7_fill_53178, 4, none, { frames := 0, cells := 0, slots := 0, locals := 0 })
theorem swJ7_fill_53178 : SW iJ7_fill_53178 2 := ⟨⟨GT_at 550 (by decide +kernel) (by decide +kernel), GT_at 20 (by decide +kernel) (by decide +kernel), ⟨by decide +kernel, by decide +kernel⟩, by decide +kernel⟩, GT_at 549 (by decide +kernel) (by decide +kernel)⟩
abbrev iJ3_checkIndex_8e157 : MI := (yJ3_checkIndex_8e157, cJ3_checkIndex_8e157, 3, (some .int), { frames := 0, cells := 0, slots := 0, locals := 0 })
theorem swJ3_checkIndex_8e157 : SW iJ3_checkIndex_8e157 3 := ⟨⟨GT_at 424 (by decide +kernel) (by decide +kernel), GT_at 17 (by decide +kernel) (by decide +kernel), ⟨by decide +kernel, by decide +kernel⟩, by decide +kernel⟩, GT_at 423 (by decide +kernel) (by decide +kernel)⟩
theorem mwX8_3 : Cond.methodLink RX8 3 objectInit ∈ GT := GT_at 29 (by decide +kernel) (by decide +kernel)
theorem mwX8_11 : Cond.methodLink RX8 11 yX6_init ∈ GT := GT_at 34 (by decide +kernel) (by decide +kernel)
theorem mwX8_18 : Cond.methodLink RX8 18 yX2_init ∈ GT := GT_at 50 (by decide +kernel) (by decide +kernel)
theorem mwX8_25 : Cond.methodLink RX8 25 yX3_init ∈ GT := GT_at 121 (by decide +kernel) (by decide +kernel)
theorem mwX8_34 : Cond.methodLink RX8 34 yX1_init ∈ GT := GT_at 166 (by decide +kernel) (by decide +kernel)
theorem mwX8_43 : Cond.methodLink RX8 43 yX0_init ∈ GT := GT_at 215 (by decide +kernel) (by decide +kernel)
theorem mwX8_52 : Cond.methodLink RX8 52 yX7_init ∈ GT := GT_at 237 (by decide +kernel) (by decide +kernel)
theorem mwX8_59 : Cond.methodLink RX8 59 yX4_init ∈ GT := GT_at 261 (by decide +kernel) (by decide +kernel)
theorem mwX8_74 : Cond.methodLink RX8 74 yX8_isGrants ∈ GT := GT_at 327 (by decide +kernel) (by decide +kernel)
theorem mwX8_78 : Cond.methodLink RX8 78 yX8_refuse ∈ GT := GT_at 331 (by decide +kernel) (by decide +kernel)
theorem mwX8_85 : Cond.methodLink RX8 85 yX2_add ∈ GT := GT_at 335 (by decide +kernel) (by decide +kernel)
theorem mwX8_88 : Cond.methodLink RX8 88 yX8_accept ∈ GT := GT_at 339 (by decide +kernel) (by decide +kernel)
theorem mwX8_91 : Cond.methodLink RX8 91 yX2_has ∈ GT := GT_at 347 (by decide +kernel) (by decide +kernel)
theorem mwX8_94 : Cond.methodLink RX8 94 yX8_deny ∈ GT := GT_at 351 (by decide +kernel) (by decide +kernel)
theorem mwX8_101 : Cond.methodLink RX8 101 yX8_allow ∈ GT := GT_at 355 (by decide +kernel) (by decide +kernel)
theorem mwX8_106 : Cond.methodLink RX8 106 yX6_append ∈ GT := GT_at 363 (by decide +kernel) (by decide +kernel)
theorem mwX8_110 : Cond.methodLink RX8 110 yX3_read ∈ GT := GT_at 371 (by decide +kernel) (by decide +kernel)
theorem mwX8_122 : Cond.methodLink RX8 122 yX5_take ∈ GT := GT_at 490 (by decide +kernel) (by decide +kernel)
theorem mwX8_135 : Cond.methodLink RX8 135 yX5_has ∈ GT := GT_at 510 (by decide +kernel) (by decide +kernel)
theorem mwX8_148 : Cond.methodLink RX8 148 yX8_isRight ∈ GT := GT_at 518 (by decide +kernel) (by decide +kernel)
theorem mwX8_151 : Cond.methodLink RX8 151 yX0_tell ∈ GT := GT_at 521 (by decide +kernel) (by decide +kernel)
theorem mwX8_155 : Cond.methodLink RX8 155 yX8_bringUpToDate ∈ GT := GT_at 529 (by decide +kernel) (by decide +kernel)
theorem mwX8_158 : Cond.methodLink RX8 158 yX8_spot ∈ GT := GT_at 578 (by decide +kernel) (by decide +kernel)
theorem mwX8_162 : Cond.methodLink RX8 162 yX1_secretsAt ∈ GT := GT_at 579 (by decide +kernel) (by decide +kernel)
theorem mwX8_166 : Cond.methodLink RX8 166 yX1_isLive ∈ GT := GT_at 591 (by decide +kernel) (by decide +kernel)
theorem mwX8_169 : Cond.methodLink RX8 169 yX8_lookAtDoors ∈ GT := GT_at 596 (by decide +kernel) (by decide +kernel)
theorem mwX8_175 : Cond.methodLink RX8 175 yX0_misuses ∈ GT := GT_at 612 (by decide +kernel) (by decide +kernel)
theorem mwX8_179 : Cond.methodLink RX8 179 yX0_services ∈ GT := GT_at 622 (by decide +kernel) (by decide +kernel)
theorem mwX8_182 : Cond.methodLink RX8 182 yX0_misuseAt ∈ GT := GT_at 634 (by decide +kernel) (by decide +kernel)
theorem mwX8_185 : Cond.methodLink RX8 185 yX7_find ∈ GT := GT_at 642 (by decide +kernel) (by decide +kernel)
theorem mwX8_195 : Cond.methodLink RX8 195 yX1_uses ∈ GT := GT_at 680 (by decide +kernel) (by decide +kernel)
theorem mwX8_198 : Cond.methodLink RX8 198 yX1_usesOfHelpers ∈ GT := GT_at 696 (by decide +kernel) (by decide +kernel)
theorem mwX8_201 : Cond.methodLink RX8 201 yJ6_bitCount_0f7a4 ∈ GT := GT_at 705 (by decide +kernel) (by decide +kernel)
theorem mwX8_207 : Cond.methodLink RX8 207 yX4_gather ∈ GT := GT_at 710 (by decide +kernel) (by decide +kernel)
theorem mwX8_210 : Cond.methodLink RX8 210 yX4_search ∈ GT := GT_at 716 (by decide +kernel) (by decide +kernel)
theorem mwX8_216 : Cond.methodLink RX8 216 yX4_misusesWithTurned ∈ GT := GT_at 747 (by decide +kernel) (by decide +kernel)
theorem mwX8_219 : Cond.methodLink RX8 219 yX4_bestSingle ∈ GT := GT_at 756 (by decide +kernel) (by decide +kernel)
theorem mwX8_222 : Cond.methodLink RX8 222 yX2_allLines ∈ GT := GT_at 765 (by decide +kernel) (by decide +kernel)
theorem mwX8_225 : Cond.methodLink RX8 225 yX2_allGrants ∈ GT := GT_at 769 (by decide +kernel) (by decide +kernel)
theorem mwX8_228 : Cond.methodLink RX8 228 yX0_toldPairs ∈ GT := GT_at 774 (by decide +kernel) (by decide +kernel)
theorem mwX8_231 : Cond.methodLink RX8 231 yX1_trace ∈ GT := GT_at 533 (by decide +kernel) (by decide +kernel)
theorem mwX8_234 : Cond.methodLink RX8 234 yX0_look ∈ GT := GT_at 600 (by decide +kernel) (by decide +kernel)
theorem mwX0_3 : Cond.methodLink RX0 3 objectInit ∈ GT := GT_at 218 (by decide +kernel) (by decide +kernel)
theorem mwX0_26 : Cond.methodLink RX0 26 yJ7_fill_53178 ∈ GT := GT_at 604 (by decide +kernel) (by decide +kernel)
theorem mwX0_51 : Cond.methodLink RX0 51 yX1_secretsAt ∈ GT := GT_at 607 (by decide +kernel) (by decide +kernel)
theorem mwX0_55 : Cond.methodLink RX0 55 yJ6_bitCount_0f7a4 ∈ GT := GT_at 616 (by decide +kernel) (by decide +kernel)
theorem mwX1_3 : Cond.methodLink RX1 3 objectInit ∈ GT := GT_at 169 (by decide +kernel) (by decide +kernel)
theorem mwX1_55 : Cond.methodLink RX1 55 yX1_isLive ∈ GT := GT_at 551 (by decide +kernel) (by decide +kernel)
theorem mwX1_59 : Cond.methodLink RX1 59 yX1_uses ∈ GT := GT_at 700 (by decide +kernel) (by decide +kernel)
theorem mwX1_66 : Cond.methodLink RX1 66 yX1_findLive ∈ GT := GT_at 537 (by decide +kernel) (by decide +kernel)
theorem mwX1_72 : Cond.methodLink RX1 72 yJ7_fill_53178 ∈ GT := GT_at 548 (by decide +kernel) (by decide +kernel)
theorem mwX1_85 : Cond.methodLink RX1 85 yX1_note ∈ GT := GT_at 555 (by decide +kernel) (by decide +kernel)
theorem mwX1_89 : Cond.methodLink RX1 89 yX1_spread ∈ GT := GT_at 570 (by decide +kernel) (by decide +kernel)
theorem mwX1_93 : Cond.methodLink RX1 93 yX5_helpers ∈ GT := GT_at 541 (by decide +kernel) (by decide +kernel)
theorem mwX1_110 : Cond.methodLink RX1 110 yX1_noteLet ∈ GT := GT_at 562 (by decide +kernel) (by decide +kernel)
theorem mwX1_113 : Cond.methodLink RX1 113 yX1_link ∈ GT := GT_at 566 (by decide +kernel) (by decide +kernel)
theorem mwX1_123 : Cond.methodLink RX1 123 yX1_seed ∈ GT := GT_at 574 (by decide +kernel) (by decide +kernel)
theorem mwX2_3 : Cond.methodLink RX2 3 objectInit ∈ GT := GT_at 53 (by decide +kernel) (by decide +kernel)
theorem mwX2_21 : Cond.methodLink RX2 21 yX5_init ∈ GT := GT_at 57 (by decide +kernel) (by decide +kernel)
theorem mwX2_27 : Cond.methodLink RX2 27 yJ6_bitCount_0f7a4 ∈ GT := GT_at 773 (by decide +kernel) (by decide +kernel)
theorem mwX3_3 : Cond.methodLink RX3 3 objectInit ∈ GT := GT_at 124 (by decide +kernel) (by decide +kernel)
theorem mwX3_11 : Cond.methodLink RX3 11 yX5_init ∈ GT := GT_at 126 (by decide +kernel) (by decide +kernel)
theorem mwX3_41 : Cond.methodLink RX3 41 yX3_advance ∈ GT := GT_at 375 (by decide +kernel) (by decide +kernel)
theorem mwX3_44 : Cond.methodLink RX3 44 yX3_readLine ∈ GT := GT_at 383 (by decide +kernel) (by decide +kernel)
theorem mwX3_51 : Cond.methodLink RX3 51 yX3_fail ∈ GT := GT_at 449 (by decide +kernel) (by decide +kernel)
theorem mwX3_55 : Cond.methodLink RX3 55 yX3_kindHere ∈ GT := GT_at 387 (by decide +kernel) (by decide +kernel)
theorem mwX3_59 : Cond.methodLink RX3 59 yX3_takeWhole ∈ GT := GT_at 453 (by decide +kernel) (by decide +kernel)
theorem mwX3_64 : Cond.methodLink RX3 64 yX3_takeWord ∈ GT := GT_at 458 (by decide +kernel) (by decide +kernel)
theorem mwX3_68 : Cond.methodLink RX3 68 yX3_takeName ∈ GT := GT_at 462 (by decide +kernel) (by decide +kernel)
theorem mwX3_71 : Cond.methodLink RX3 71 yX3_keep ∈ GT := GT_at 470 (by decide +kernel) (by decide +kernel)
theorem mwX3_74 : Cond.methodLink RX3 74 yX3_readLet ∈ GT := GT_at 478 (by decide +kernel) (by decide +kernel)
theorem mwX3_77 : Cond.methodLink RX3 77 yX3_readAsk ∈ GT := GT_at 483 (by decide +kernel) (by decide +kernel)
theorem mwX3_90 : Cond.methodLink RX3 90 yX5_add ∈ GT := GT_at 474 (by decide +kernel) (by decide +kernel)
theorem mwX3_96 : Cond.methodLink RX3 96 yX3_isName ∈ GT := GT_at 466 (by decide +kernel) (by decide +kernel)
theorem mwX3_109 : Cond.methodLink RX3 109 yX3_isWord ∈ GT := GT_at 392 (by decide +kernel) (by decide +kernel)
theorem mwX3_124 : Cond.methodLink RX3 124 yJ0_length_8abf5 ∈ GT := GT_at 396 (by decide +kernel) (by decide +kernel)
theorem mwX3_129 : Cond.methodLink RX3 129 yJ0_charAt_5068e ∈ GT := GT_at 406 (by decide +kernel) (by decide +kernel)
theorem mwX3_133 : Cond.methodLink RX3 133 yX3_signAt ∈ GT := GT_at 379 (by decide +kernel) (by decide +kernel)
theorem mwX4_3 : Cond.methodLink RX4 3 objectInit ∈ GT := GT_at 264 (by decide +kernel) (by decide +kernel)
theorem mwX4_36 : Cond.methodLink RX4 36 yX4_startTrial ∈ GT := GT_at 725 (by decide +kernel) (by decide +kernel)
theorem mwX4_39 : Cond.methodLink RX4 39 yX0_look ∈ GT := GT_at 734 (by decide +kernel) (by decide +kernel)
theorem mwX4_45 : Cond.methodLink RX4 45 yX0_misuses ∈ GT := GT_at 751 (by decide +kernel) (by decide +kernel)
theorem mwX4_54 : Cond.methodLink RX4 54 arraycopyName ∈ GT := GT_at 729 (by decide +kernel) (by decide +kernel)
theorem mwX4_64 : Cond.methodLink RX4 64 yX1_uses ∈ GT := GT_at 714 (by decide +kernel) (by decide +kernel)
theorem mwX4_74 : Cond.methodLink RX4 74 yX4_misusesWithTurned ∈ GT := GT_at 760 (by decide +kernel) (by decide +kernel)
theorem mwX4_87 : Cond.methodLink RX4 87 yJ6_bitCount_0f7a4 ∈ GT := GT_at 720 (by decide +kernel) (by decide +kernel)
theorem mwX4_92 : Cond.methodLink RX4 92 yX4_isCure ∈ GT := GT_at 721 (by decide +kernel) (by decide +kernel)
theorem mwX4_96 : Cond.methodLink RX4 96 yX4_keep ∈ GT := GT_at 735 (by decide +kernel) (by decide +kernel)
theorem mwX4_100 : Cond.methodLink RX4 100 yX4_isChosen ∈ GT := GT_at 730 (by decide +kernel) (by decide +kernel)
theorem mwX5_3 : Cond.methodLink RX5 3 objectInit ∈ GT := GT_at 60 (by decide +kernel) (by decide +kernel)
theorem mwX5_31 : Cond.methodLink RX5 31 arraycopyName ∈ GT := GT_at 494 (by decide +kernel) (by decide +kernel)
theorem mwX6_3 : Cond.methodLink RX6 3 objectInit ∈ GT := GT_at 37 (by decide +kernel) (by decide +kernel)
theorem mwX7_3 : Cond.methodLink RX7 3 objectInit ∈ GT := GT_at 240 (by decide +kernel) (by decide +kernel)
theorem mwX7_26 : Cond.methodLink RX7 26 yX7_measure ∈ GT := GT_at 646 (by decide +kernel) (by decide +kernel)
theorem mwX7_30 : Cond.methodLink RX7 30 yX7_bestGet ∈ GT := GT_at 660 (by decide +kernel) (by decide +kernel)
theorem mwX7_34 : Cond.methodLink RX7 34 yX7_walk ∈ GT := GT_at 664 (by decide +kernel) (by decide +kernel)
theorem mwX7_41 : Cond.methodLink RX7 41 yJ7_fill_53178 ∈ GT := GT_at 650 (by decide +kernel) (by decide +kernel)
theorem mwX7_69 : Cond.methodLink RX7 69 yX7_farThrough ∈ GT := GT_at 653 (by decide +kernel) (by decide +kernel)
theorem mwX7_72 : Cond.methodLink RX7 72 yJ9_min_7cf53 ∈ GT := GT_at 657 (by decide +kernel) (by decide +kernel)
theorem mwX7_102 : Cond.methodLink RX7 102 yX7_append ∈ GT := GT_at 668 (by decide +kernel) (by decide +kernel)
theorem mwX7_106 : Cond.methodLink RX7 106 yX7_firstLink ∈ GT := GT_at 672 (by decide +kernel) (by decide +kernel)
theorem mwX10_3 : Cond.methodLink RX10 3 objectInit ∈ GT := GT_at 858 (by decide +kernel) (by decide +kernel)
theorem mwX10_40 : Cond.methodLink RX10 40 yX9_init ∈ GT := GT_at 868 (by decide +kernel) (by decide +kernel)
theorem mwX10_90 : Cond.methodLink RX10 90 yX10_in ∈ GT := GT_at 1004 (by decide +kernel) (by decide +kernel)
theorem mwX10_94 : Cond.methodLink RX10 94 yX10_refused ∈ GT := GT_at 1007 (by decide +kernel) (by decide +kernel)
theorem mwX10_98 : Cond.methodLink RX10 98 yX10_done ∈ GT := GT_at 1011 (by decide +kernel) (by decide +kernel)
theorem mwX10_101 : Cond.methodLink RX10 101 yX10_isPart ∈ GT := GT_at 1019 (by decide +kernel) (by decide +kernel)
theorem mwX10_105 : Cond.methodLink RX10 105 yX10_denied ∈ GT := GT_at 1023 (by decide +kernel) (by decide +kernel)
theorem mwX10_108 : Cond.methodLink RX10 108 yX10_granted ∈ GT := GT_at 1027 (by decide +kernel) (by decide +kernel)
theorem mwX10_121 : Cond.methodLink RX10 121 yJ0_length_8abf5 ∈ GT := GT_at 1066 (by decide +kernel) (by decide +kernel)
theorem mwX10_129 : Cond.methodLink RX10 129 yJ0_charAt_5068e ∈ GT := GT_at 1067 (by decide +kernel) (by decide +kernel)
theorem mwX10_136 : Cond.methodLink RX10 136 yX10_byteAt ∈ GT := GT_at 1047 (by decide +kernel) (by decide +kernel)
theorem mwX10_145 : Cond.methodLink RX10 145 yX10_isLetter ∈ GT := GT_at 1051 (by decide +kernel) (by decide +kernel)
theorem mwX10_152 : Cond.methodLink RX10 152 yX10_isDigit ∈ GT := GT_at 1055 (by decide +kernel) (by decide +kernel)
theorem mwX10_158 : Cond.methodLink RX10 158 yX10_wordOf ∈ GT := GT_at 1063 (by decide +kernel) (by decide +kernel)
theorem mwX10_162 : Cond.methodLink RX10 162 yX10_isWord ∈ GT := GT_at 1059 (by decide +kernel) (by decide +kernel)
theorem mwX10_166 : Cond.methodLink RX10 166 yX10_stop ∈ GT := GT_at 1073 (by decide +kernel) (by decide +kernel)
theorem mwX10_169 : Cond.methodLink RX10 169 yX10_next ∈ GT := GT_at 1043 (by decide +kernel) (by decide +kernel)
theorem mwX10_174 : Cond.methodLink RX10 174 yX10_nameHere ∈ GT := GT_at 1094 (by decide +kernel) (by decide +kernel)
theorem mwX10_189 : Cond.methodLink RX10 189 yX10_readLine ∈ GT := GT_at 1077 (by decide +kernel) (by decide +kernel)
theorem mwX10_193 : Cond.methodLink RX10 193 yX10_is ∈ GT := GT_at 1104 (by decide +kernel) (by decide +kernel)
theorem mwX10_196 : Cond.methodLink RX10 196 yX10_needWhole ∈ GT := GT_at 1081 (by decide +kernel) (by decide +kernel)
theorem mwX10_201 : Cond.methodLink RX10 201 yX10_needWord ∈ GT := GT_at 1086 (by decide +kernel) (by decide +kernel)
theorem mwX10_205 : Cond.methodLink RX10 205 yX10_needName ∈ GT := GT_at 1090 (by decide +kernel) (by decide +kernel)
theorem mwX10_209 : Cond.methodLink RX10 209 yX10_readFrom ∈ GT := GT_at 1100 (by decide +kernel) (by decide +kernel)
theorem mwX10_225 : Cond.methodLink RX10 225 yX10_reads ∈ GT := GT_at 1039 (by decide +kernel) (by decide +kernel)
theorem mwX10_228 : Cond.methodLink RX10 228 yX10_isRight ∈ GT := GT_at 1127 (by decide +kernel) (by decide +kernel)
theorem mwX10_231 : Cond.methodLink RX10 231 yX10_asks ∈ GT := GT_at 1138 (by decide +kernel) (by decide +kernel)
theorem mwX10_234 : Cond.methodLink RX10 234 yX10_goes ∈ GT := GT_at 1142 (by decide +kernel) (by decide +kernel)
theorem mwX10_238 : Cond.methodLink RX10 238 yX10_comes ∈ GT := GT_at 1146 (by decide +kernel) (by decide +kernel)
theorem mwX10_241 : Cond.methodLink RX10 241 yX10_works ∈ GT := GT_at 1134 (by decide +kernel) (by decide +kernel)
theorem mwX10_244 : Cond.methodLink RX10 244 yX10_bits ∈ GT := GT_at 1166 (by decide +kernel) (by decide +kernel)
theorem mwX10_247 : Cond.methodLink RX10 247 yX10_misuses ∈ GT := GT_at 1173 (by decide +kernel) (by decide +kernel)
theorem mwX10_250 : Cond.methodLink RX10 250 yX10_into ∈ GT := GT_at 1194 (by decide +kernel) (by decide +kernel)
theorem mwX10_255 : Cond.methodLink RX10 255 yX10_leads ∈ GT := GT_at 1190 (by decide +kernel) (by decide +kernel)
theorem mwX10_259 : Cond.methodLink RX10 259 yX10_measures ∈ GT := GT_at 1185 (by decide +kernel) (by decide +kernel)
theorem mwX10_265 : Cond.methodLink RX10 265 yX10_follows ∈ GT := GT_at 1198 (by decide +kernel) (by decide +kernel)
theorem mwX10_269 : Cond.methodLink RX10 269 yX10_neededOf ∈ GT := GT_at 1210 (by decide +kernel) (by decide +kernel)
theorem mwX10_275 : Cond.methodLink RX10 275 yX10_isAhead ∈ GT := GT_at 1234 (by decide +kernel) (by decide +kernel)
theorem mwX10_278 : Cond.methodLink RX10 278 yX10_turns ∈ GT := GT_at 1237 (by decide +kernel) (by decide +kernel)
theorem mwX10_281 : Cond.methodLink RX10 281 yX10_isWell ∈ GT := GT_at 1241 (by decide +kernel) (by decide +kernel)
theorem mwJ0_335 : Cond.methodLink RJ0 335 yJ0_coder_7d493 ∈ GT := GT_at 400 (by decide +kernel) (by decide +kernel)
theorem mwJ0_492 : Cond.methodLink RJ0 492 yJ0_isLatin1_aae02 ∈ GT := GT_at 410 (by decide +kernel) (by decide +kernel)
theorem mwJ0_495 : Cond.methodLink RJ0 495 yJ1_charAt_3b067 ∈ GT := GT_at 414 (by decide +kernel) (by decide +kernel)
theorem mwJ0_498 : Cond.methodLink RJ0 498 yJ2_charAt_3b067 ∈ GT := GT_at 425 (by decide +kernel) (by decide +kernel)
theorem mwJ0_1059 : Cond.methodLink RJ0 1059 yJ3_checkIndex_8e157 ∈ GT := GT_at 422 (by decide +kernel) (by decide +kernel)
theorem mwJ1_9 : Cond.methodLink RJ1 9 yJ0_checkIndex_df160 ∈ GT := GT_at 417 (by decide +kernel) (by decide +kernel)
theorem mwJ2_48 : Cond.methodLink RJ2 48 yJ2_length_9d52b ∈ GT := GT_at 431 (by decide +kernel) (by decide +kernel)
theorem mwJ2_67 : Cond.methodLink RJ2 67 yJ2_checkIndex_2214a ∈ GT := GT_at 428 (by decide +kernel) (by decide +kernel)
theorem mwJ2_71 : Cond.methodLink RJ2 71 yJ2_getChar_3b067 ∈ GT := GT_at 435 (by decide +kernel) (by decide +kernel)
theorem mwJ2_414 : Cond.methodLink RJ2 414 yJ0_checkIndex_df160 ∈ GT := GT_at 434 (by decide +kernel) (by decide +kernel)
theorem acN : Cond.native arraycopyName ∈ GT := GT_at 496 (by decide +kernel) (by decide +kernel)
theorem acS : Cond.static arraycopyName ∈ GT := GT_at 495 (by decide +kernel) (by decide +kernel)
theorem acI : Cond.initialized "java/lang/System" ∈ GT := GT_at 19 (by decide +kernel) (by decide +kernel)
