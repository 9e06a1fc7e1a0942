-- the code words, by place
theorem xmts_len : xmts.length = 192 := by decide +kernel
set_option maxRecDepth 20000 in
theorem xcw_0 : lw_tbl[181]? = some (Cond.code yX0_init cX0_init 7 none) := rfl
set_option maxRecDepth 20000 in
theorem xcw_1 : lw_tbl[1109]? = some (Cond.code yX0_inChainAt cX0_inChainAt 3 (some (.object "StakeChain$Block"))) := rfl
set_option maxRecDepth 20000 in
theorem xcw_2 : lw_tbl[1125]? = some (Cond.code yX0_isInLineWith cX0_isInLineWith 5 (some .boolean)) := rfl
set_option maxRecDepth 20000 in
theorem xcw_3 : lw_tbl[290]? = some (Cond.code yX1_init cX1_init 2 none) := rfl
set_option maxRecDepth 20000 in
theorem xcw_4 : lw_tbl[1085]? = some (Cond.code yX1_reach cX1_reach 7 (some .int)) := rfl
set_option maxRecDepth 20000 in
theorem xcw_5 : lw_tbl[1105]? = some (Cond.code yX1_halfWay cX1_halfWay 2 (some (.object "StakeChain$Block"))) := rfl
set_option maxRecDepth 20000 in
theorem xcw_6 : lw_tbl[1090]? = some (Cond.code yX1_mayTrust cX1_mayTrust 6 (some .boolean)) := rfl
set_option maxRecDepth 20000 in
theorem xcw_7 : lw_tbl[1101]? = some (Cond.code yX1_isCertified cX1_isCertified 3 (some .boolean)) := rfl
set_option maxRecDepth 20000 in
theorem xcw_8 : lw_tbl[1095]? = some (Cond.code yX1_isMostOfClaim cX1_isMostOfClaim 2 (some .boolean)) := rfl
set_option maxRecDepth 20000 in
theorem xcw_9 : lw_tbl[505]? = some (Cond.code yX2_init cX2_init 5 none) := rfl
set_option maxRecDepth 20000 in
theorem xcw_10 : lw_tbl[103]? = some (Cond.code yX3_init cX3_init 2 none) := rfl
set_option maxRecDepth 20000 in
theorem xcw_11 : lw_tbl[287]? = some (Cond.code yX3_genesis cX3_genesis 1 (some (.object "StakeChain$Block"))) := rfl
set_option maxRecDepth 20000 in
theorem xcw_12 : lw_tbl[439]? = some (Cond.code yX3_isFull cX3_isFull 1 (some .boolean)) := rfl
set_option maxRecDepth 20000 in
theorem xcw_13 : lw_tbl[643]? = some (Cond.code yX3_get cX3_get 2 (some (.object "StakeChain$Block"))) := rfl
set_option maxRecDepth 20000 in
theorem xcw_14 : lw_tbl[952]? = some (Cond.code yX3_isTransactionOrNone cX3_isTransactionOrNone 2 (some .boolean)) := rfl
set_option maxRecDepth 20000 in
theorem xcw_15 : lw_tbl[859]? = some (Cond.code yX3_addTransaction cX3_addTransaction 2 (some .int)) := rfl
set_option maxRecDepth 20000 in
theorem xcw_16 : lw_tbl[821]? = some (Cond.code yX3_addProof cX3_addProof 5 (some .int)) := rfl
set_option maxRecDepth 20000 in
theorem xcw_17 : lw_tbl[435]? = some (Cond.code yX3_addBest cX3_addBest 5 (some .int)) := rfl
set_option maxRecDepth 20000 in
theorem xcw_18 : lw_tbl[964]? = some (Cond.code yX3_addGiven cX3_addGiven 7 (some .int)) := rfl
set_option maxRecDepth 20000 in
theorem xcw_19 : lw_tbl[974]? = some (Cond.code yX3_isValid cX3_isValid 5 (some .boolean)) := rfl
set_option maxRecDepth 20000 in
theorem xcw_20 : lw_tbl[443]? = some (Cond.code yX3_openTrial cX3_openTrial 4 none) := rfl
set_option maxRecDepth 20000 in
theorem xcw_21 : lw_tbl[496]? = some (Cond.code yX3_add cX3_add 7 (some .int)) := rfl
set_option maxRecDepth 20000 in
theorem xcw_22 : lw_tbl[967]? = some (Cond.code yX3_hundreds cX3_hundreds 3 (some (.array .int))) := rfl
set_option maxRecDepth 20000 in
theorem xcw_23 : lw_tbl[310]? = some (Cond.code yX4_init cX4_init 1 none) := rfl
set_option maxRecDepth 20000 in
theorem xcw_24 : lw_tbl[674]? = some (Cond.code yX4_clear cX4_clear 1 none) := rfl
set_option maxRecDepth 20000 in
theorem xcw_25 : lw_tbl[1011]? = some (Cond.code yX4_end cX4_end 1 (some (.object "StakeChain$Entry"))) := rfl
set_option maxRecDepth 20000 in
theorem xcw_26 : lw_tbl[1020]? = some (Cond.code yX4_sentAt cX4_sentAt 3 (some (.object "StakeChain$Message"))) := rfl
set_option maxRecDepth 20000 in
theorem xcw_27 : lw_tbl[552]? = some (Cond.code yX4_write cX4_write 3 none) := rfl
set_option maxRecDepth 20000 in
theorem xcw_28 : lw_tbl[570]? = some (Cond.code yX5_init cX5_init 8 none) := rfl
set_option maxRecDepth 20000 in
theorem xcw_29 : lw_tbl[825]? = some (Cond.code yX5_isAgainst cX5_isAgainst 2 (some .boolean)) := rfl
set_option maxRecDepth 20000 in
theorem xcw_30 : lw_tbl[304]? = some (Cond.code yX6_init cX6_init 3 none) := rfl
set_option maxRecDepth 20000 in
theorem xcw_31 : lw_tbl[427]? = some (Cond.code yX6_height cX6_height 1 (some .int)) := rfl
set_option maxRecDepth 20000 in
theorem xcw_32 : lw_tbl[411]? = some (Cond.code yX6_acts cX6_acts 1 (some .boolean)) := rfl
set_option maxRecDepth 20000 in
theorem xcw_33 : lw_tbl[659]? = some (Cond.code yX6_isMost cX6_isMost 2 (some .boolean)) := rfl
set_option maxRecDepth 20000 in
theorem xcw_34 : lw_tbl[687]? = some (Cond.code yX6_isSome cX6_isSome 2 (some .boolean)) := rfl
set_option maxRecDepth 20000 in
theorem xcw_35 : lw_tbl[423]? = some (Cond.code yX6_proposerOf cX6_proposerOf 2 (some .int)) := rfl
set_option maxRecDepth 20000 in
theorem xcw_36 : lw_tbl[647]? = some (Cond.code yX6_isGood cX6_isGood 2 (some .boolean)) := rfl
set_option maxRecDepth 20000 in
theorem xcw_37 : lw_tbl[402]? = some (Cond.code yX6_enter cX6_enter 2 none) := rfl
set_option maxRecDepth 20000 in
theorem xcw_38 : lw_tbl[678]? = some (Cond.code yX6_unlock cX6_unlock 1 none) := rfl
set_option maxRecDepth 20000 in
theorem xcw_39 : lw_tbl[670]? = some (Cond.code yX6_adopt cX6_adopt 2 none) := rfl
set_option maxRecDepth 20000 in
theorem xcw_40 : lw_tbl[655]? = some (Cond.code yX6_hasHeard cX6_hasHeard 2 (some .boolean)) := rfl
set_option maxRecDepth 20000 in
theorem xcw_41 : lw_tbl[626]? = some (Cond.code yX6_heardAsFirst cX6_heardAsFirst 2 (some .boolean)) := rfl
set_option maxRecDepth 20000 in
theorem xcw_42 : lw_tbl[622]? = some (Cond.code yX6_learn cX6_learn 4 none) := rfl
set_option maxRecDepth 20000 in
theorem xcw_43 : lw_tbl[556]? = some (Cond.code yX6_fail cX6_fail 1 none) := rfl
set_option maxRecDepth 20000 in
theorem xcw_44 : lw_tbl[1024]? = some (Cond.code yX6_restore cX6_restore 2 none) := rfl
set_option maxRecDepth 20000 in
theorem xcw_45 : lw_tbl[259]? = some (Cond.code yX7_init cX7_init 1 none) := rfl
set_option maxRecDepth 20000 in
theorem xcw_46 : lw_tbl[419]? = some (Cond.code yX7_isFull cX7_isFull 1 (some .boolean)) := rfl
set_option maxRecDepth 20000 in
theorem xcw_47 : lw_tbl[797]? = some (Cond.code yX7_get cX7_get 2 (some (.object "StakeChain$Message"))) := rfl
set_option maxRecDepth 20000 in
theorem xcw_48 : lw_tbl[618]? = some (Cond.code yX7_firstOf cX7_firstOf 3 (some (.object "StakeChain$Message"))) := rfl
set_option maxRecDepth 20000 in
theorem xcw_49 : lw_tbl[634]? = some (Cond.code yX7_roundsOf cX7_roundsOf 2 (some .int)) := rfl
set_option maxRecDepth 20000 in
theorem xcw_50 : lw_tbl[566]? = some (Cond.code yX7_add cX7_add 9 (some (.object "StakeChain$Message"))) := rfl
set_option maxRecDepth 20000 in
theorem xcw_51 : lw_tbl[990]? = some (Cond.code yX7_precommittersOf cX7_precommittersOf 5 (some .int)) := rfl
set_option maxRecDepth 20000 in
theorem xcw_52 : lw_tbl[113]? = some (Cond.code yX8_init cX8_init 1 none) := rfl
set_option maxRecDepth 20000 in
theorem xcw_53 : lw_tbl[170]? = some (Cond.code yX8_beFirst cX8_beFirst 2 none) := rfl
set_option maxRecDepth 20000 in
theorem xcw_54 : lw_tbl[447]? = some (Cond.code yX8_beLike cX8_beLike 2 none) := rfl
set_option maxRecDepth 20000 in
theorem xcw_55 : lw_tbl[454]? = some (Cond.code yX8_giveBack cX8_giveBack 4 none) := rfl
set_option maxRecDepth 20000 in
theorem xcw_56 : lw_tbl[458]? = some (Cond.code yX8_perform cX8_perform 5 (some .boolean)) := rfl
set_option maxRecDepth 20000 in
theorem xcw_57 : lw_tbl[466]? = some (Cond.code yX8_allows cX8_allows 6 (some .boolean)) := rfl
set_option maxRecDepth 20000 in
theorem xcw_58 : lw_tbl[470]? = some (Cond.code yX8_bond cX8_bond 3 none) := rfl
set_option maxRecDepth 20000 in
theorem xcw_59 : lw_tbl[474]? = some (Cond.code yX8_unbond cX8_unbond 4 none) := rfl
set_option maxRecDepth 20000 in
theorem xcw_60 : lw_tbl[478]? = some (Cond.code yX8_punish cX8_punish 5 none) := rfl
set_option maxRecDepth 20000 in
theorem xcw_61 : lw_tbl[462]? = some (Cond.code yX8_placeOf cX8_placeOf 4 (some .int)) := rfl
set_option maxRecDepth 20000 in
theorem xcw_62 : lw_tbl[177]? = some (Cond.code yX8_settle cX8_settle 3 none) := rfl
set_option maxRecDepth 20000 in
theorem xcw_63 : lw_tbl[663]? = some (Cond.code yX8_isMost cX8_isMost 2 (some .boolean)) := rfl
set_option maxRecDepth 20000 in
theorem xcw_64 : lw_tbl[691]? = some (Cond.code yX8_isSome cX8_isSome 2 (some .boolean)) := rfl
set_option maxRecDepth 20000 in
theorem xcw_65 : lw_tbl[431]? = some (Cond.code yX8_proposerOf cX8_proposerOf 6 (some .int)) := rfl
set_option maxRecDepth 20000 in
theorem xcw_66 : lw_tbl[1063]? = some (Cond.code yX8_bondOf cX8_bondOf 4 (some .int)) := rfl
set_option maxRecDepth 20000 in
theorem xcw_67 : lw_tbl[1059]? = some (Cond.code yX8_returnsOf cX8_returnsOf 4 (some .int)) := rfl
set_option maxRecDepth 20000 in
theorem xcw_68 : lw_tbl[1074]? = some (Cond.code yX8_everything cX8_everything 3 (some .int)) := rfl
set_option maxRecDepth 20000 in
theorem xcw_69 : lw_tbl[829]? = some (Cond.code yX9_init cX9_init 7 none) := rfl
set_option maxRecDepth 20000 in
theorem xcw_70 : lw_tbl[95]? = some (Cond.code yX10_init cX10_init 2 none) := rfl
set_option maxRecDepth 20000 in
theorem xcw_71 : lw_tbl[725]? = some (Cond.code yX10_submit cX10_submit 5 (some .int)) := rfl
set_option maxRecDepth 20000 in
theorem xcw_72 : lw_tbl[870]? = some (Cond.code yX10_fault cX10_fault 2 (some .int)) := rfl
set_option maxRecDepth 20000 in
theorem xcw_73 : lw_tbl[900]? = some (Cond.code yX10_deliver cX10_deliver 5 (some .int)) := rfl
set_option maxRecDepth 20000 in
theorem xcw_74 : lw_tbl[912]? = some (Cond.code yX10_spread cX10_spread 7 (some .int)) := rfl
set_option maxRecDepth 20000 in
theorem xcw_75 : lw_tbl[920]? = some (Cond.code yX10_expire cX10_expire 4 (some .int)) := rfl
set_option maxRecDepth 20000 in
theorem xcw_76 : lw_tbl[931]? = some (Cond.code yX10_forge cX10_forge 8 (some .int)) := rfl
set_option maxRecDepth 20000 in
theorem xcw_77 : lw_tbl[947]? = some (Cond.code yX10_block cX10_block 7 (some .int)) := rfl
set_option maxRecDepth 20000 in
theorem xcw_78 : lw_tbl[981]? = some (Cond.code yX10_sync cX10_sync 5 (some .int)) := rfl
set_option maxRecDepth 20000 in
theorem xcw_79 : lw_tbl[998]? = some (Cond.code yX10_power cX10_power 3 none) := rfl
set_option maxRecDepth 20000 in
theorem xcw_80 : lw_tbl[1006]? = some (Cond.code yX10_start cX10_start 5 (some .int)) := rfl
set_option maxRecDepth 20000 in
theorem xcw_81 : lw_tbl[1031]? = some (Cond.code yX10_told cX10_told 4 (some .int)) := rfl
set_option maxRecDepth 20000 in
theorem xcw_82 : lw_tbl[1039]? = some (Cond.code yX10_message cX10_message 4 (some .int)) := rfl
set_option maxRecDepth 20000 in
theorem xcw_83 : lw_tbl[1046]? = some (Cond.code yX10_of cX10_of 4 (some .int)) := rfl
set_option maxRecDepth 20000 in
theorem xcw_84 : lw_tbl[1053]? = some (Cond.code yX10_account cX10_account 5 (some .int)) := rfl
set_option maxRecDepth 20000 in
theorem xcw_85 : lw_tbl[1070]? = some (Cond.code yX10_sum cX10_sum 4 (some .int)) := rfl
set_option maxRecDepth 20000 in
theorem xcw_86 : lw_tbl[1081]? = some (Cond.code yX10_follow cX10_follow 3 (some .int)) := rfl
set_option maxRecDepth 20000 in
theorem xcw_87 : lw_tbl[1117]? = some (Cond.code yX10_count cX10_count 2 (some .int)) := rfl
set_option maxRecDepth 20000 in
theorem xcw_88 : lw_tbl[905]? = some (Cond.code yX10_comesAnew cX10_comesAnew 3 (some .boolean)) := rfl
set_option maxRecDepth 20000 in
theorem xcw_89 : lw_tbl[406]? = some (Cond.code yX10_doAll cX10_doAll 4 none) := rfl
set_option maxRecDepth 20000 in
theorem xcw_90 : lw_tbl[415]? = some (Cond.code yX10_propose cX10_propose 3 (some .boolean)) := rfl
set_option maxRecDepth 20000 in
theorem xcw_91 : lw_tbl[630]? = some (Cond.code yX10_decide cX10_decide 6 (some .boolean)) := rfl
set_option maxRecDepth 20000 in
theorem xcw_92 : lw_tbl[683]? = some (Cond.code yX10_passOn cX10_passOn 4 (some .boolean)) := rfl
set_option maxRecDepth 20000 in
theorem xcw_93 : lw_tbl[695]? = some (Cond.code yX10_prevote cX10_prevote 5 (some .boolean)) := rfl
set_option maxRecDepth 20000 in
theorem xcw_94 : lw_tbl[699]? = some (Cond.code yX10_renewCandidate cX10_renewCandidate 3 (some .boolean)) := rfl
set_option maxRecDepth 20000 in
theorem xcw_95 : lw_tbl[703]? = some (Cond.code yX10_precommitForNone cX10_precommitForNone 2 (some .boolean)) := rfl
set_option maxRecDepth 20000 in
theorem xcw_96 : lw_tbl[924]? = some (Cond.code yX10_endWaiting cX10_endWaiting 2 none) := rfl
set_option maxRecDepth 20000 in
theorem xcw_97 : lw_tbl[500]? = some (Cond.code yX10_send cX10_send 6 none) := rfl
set_option maxRecDepth 20000 in
theorem xcw_98 : lw_tbl[561]? = some (Cond.code yX10_sendRecorded cX10_sendRecorded 4 none) := rfl
set_option maxRecDepth 20000 in
theorem xcw_99 : lw_tbl[1016]? = some (Cond.code yX10_resume cX10_resume 5 none) := rfl
set_option maxRecDepth 20000 in
theorem xcw_100 : lw_tbl[638]? = some (Cond.code yX10_proposalOf cX10_proposalOf 5 (some (.object "StakeChain$Message"))) := rfl
set_option maxRecDepth 20000 in
theorem xcw_101 : lw_tbl[651]? = some (Cond.code yX10_heardFrom cX10_heardFrom 7 (some .int)) := rfl
set_option maxRecDepth 20000 in
theorem xcw_102 : lw_tbl[986]? = some (Cond.code yX10_isCertified cX10_isCertified 4 (some .boolean)) := rfl
set_option maxRecDepth 20000 in
theorem xcw_103 : lw_tbl[873]? = some (Cond.code yX10_isNode cX10_isNode 1 (some .boolean)) := rfl
set_option maxRecDepth 20000 in
theorem xcw_104 : lw_tbl[938]? = some (Cond.code yX10_isFaulty cX10_isFaulty 2 (some .boolean)) := rfl
set_option maxRecDepth 20000 in
theorem xcw_105 : lw_tbl[893]? = some (Cond.code yX10_faultyNodes cX10_faultyNodes 3 (some .int)) := rfl
set_option maxRecDepth 20000 in
theorem xcw_106 : lw_tbl[1121]? = some (Cond.code yX10_splitPairs cX10_splitPairs 4 (some .int)) := rfl
set_option maxRecDepth 20000 in
theorem xcw_107 : lw_tbl[1130]? = some (Cond.code yX10_nodesOffTheClient cX10_nodesOffTheClient 3 (some .int)) := rfl
set_option maxRecDepth 20000 in
theorem xcw_108 : lw_tbl[1134]? = some (Cond.code yX10_greatestHeight cX10_greatestHeight 3 (some .int)) := rfl
set_option maxRecDepth 20000 in
theorem xcw_109 : lw_tbl[1141]? = some (Cond.code yX10_doubleMessages cX10_doubleMessages 5 (some .int)) := rfl
set_option maxRecDepth 20000 in
theorem xcw_110 : lw_tbl[960]? = some (Cond.code yX10_rowOf cX10_rowOf 4 (some (.array .int))) := rfl
set_option maxRecDepth 20000 in
theorem xcw_111 : lw_tbl[666]? = some (Cond.code yX10_weigh cX10_weigh 4 (some .int)) := rfl
set_option maxRecDepth 20000 in
theorem xcw_112 : lw_tbl[970]? = some (Cond.code yX10_isSameRow cX10_isSameRow 3 (some .boolean)) := rfl
set_option maxRecDepth 20000 in
theorem xcw_113 : lw_tbl[1146]? = some (Cond.code yX11_init cX11_init 2 none) := rfl
set_option maxRecDepth 20000 in
theorem xcw_114 : lw_tbl[1465]? = some (Cond.code yX11_thrown cX11_thrown 1 (some .int)) := rfl
set_option maxRecDepth 20000 in
theorem xcw_115 : lw_tbl[1156]? = some (Cond.code yX11_first cX11_first 2 none) := rfl
set_option maxRecDepth 20000 in
theorem xcw_116 : lw_tbl[1152]? = some (Cond.code yX11_state cX11_state 5 none) := rfl
set_option maxRecDepth 20000 in
theorem xcw_117 : lw_tbl[1176]? = some (Cond.code yX11_powerOf cX11_powerOf 4 (some .int)) := rfl
set_option maxRecDepth 20000 in
theorem xcw_118 : lw_tbl[1160]? = some (Cond.code yX11_due cX11_due 4 none) := rfl
set_option maxRecDepth 20000 in
theorem xcw_119 : lw_tbl[1164]? = some (Cond.code yX11_isDone cX11_isDone 11 (some .boolean)) := rfl
set_option maxRecDepth 20000 in
theorem xcw_120 : lw_tbl[1168]? = some (Cond.code yX11_bonds cX11_bonds 3 (some .int)) := rfl
set_option maxRecDepth 20000 in
theorem xcw_121 : lw_tbl[1172]? = some (Cond.code yX11_isDouble cX11_isDouble 3 (some .boolean)) := rfl
set_option maxRecDepth 20000 in
theorem xcw_122 : lw_tbl[1224]? = some (Cond.code yX11_isIn cX11_isIn 5 (some .boolean)) := rfl
set_option maxRecDepth 20000 in
theorem xcw_123 : lw_tbl[1574]? = some (Cond.code yX11_isAbove cX11_isAbove 4 (some .boolean)) := rfl
set_option maxRecDepth 20000 in
theorem xcw_124 : lw_tbl[1220]? = some (Cond.code yX11_made cX11_made 4 (some .int)) := rfl
set_option maxRecDepth 20000 in
theorem xcw_125 : lw_tbl[1245]? = some (Cond.code yX11_isSound cX11_isSound 6 (some .boolean)) := rfl
set_option maxRecDepth 20000 in
theorem xcw_126 : lw_tbl[1184]? = some (Cond.code yX11_height cX11_height 2 (some .int)) := rfl
set_option maxRecDepth 20000 in
theorem xcw_127 : lw_tbl[1180]? = some (Cond.code yX11_set cX11_set 3 none) := rfl
set_option maxRecDepth 20000 in
theorem xcw_128 : lw_tbl[1208]? = some (Cond.code yX11_forget cX11_forget 3 none) := rfl
set_option maxRecDepth 20000 in
theorem xcw_129 : lw_tbl[1192]? = some (Cond.code yX11_proposer cX11_proposer 7 (some .int)) := rfl
set_option maxRecDepth 20000 in
theorem xcw_130 : lw_tbl[1216]? = some (Cond.code yX11_know cX11_know 3 none) := rfl
set_option maxRecDepth 20000 in
theorem xcw_131 : lw_tbl[1253]? = some (Cond.code yX11_clear cX11_clear 2 none) := rfl
set_option maxRecDepth 20000 in
theorem xcw_132 : lw_tbl[1257]? = some (Cond.code yX11_share cX11_share 5 (some .int)) := rfl
set_option maxRecDepth 20000 in
theorem xcw_133 : lw_tbl[1249]? = some (Cond.code yX11_isMost cX11_isMost 7 (some .boolean)) := rfl
set_option maxRecDepth 20000 in
theorem xcw_134 : lw_tbl[1237]? = some (Cond.code yX11_proposal cX11_proposal 6 (some .int)) := rfl
set_option maxRecDepth 20000 in
theorem xcw_135 : lw_tbl[1241]? = some (Cond.code yX11_isGood cX11_isGood 3 (some .boolean)) := rfl
set_option maxRecDepth 20000 in
theorem xcw_136 : lw_tbl[1196]? = some (Cond.code yX11_sent cX11_sent 6 (some .int)) := rfl
set_option maxRecDepth 20000 in
theorem xcw_137 : lw_tbl[1200]? = some (Cond.code yX11_sent_ cX11_sent_ 7 (some .int)) := rfl
set_option maxRecDepth 20000 in
theorem xcw_138 : lw_tbl[1204]? = some (Cond.code yX11_isRecorded cX11_isRecorded 8 (some .boolean)) := rfl
set_option maxRecDepth 20000 in
theorem xcw_139 : lw_tbl[1212]? = some (Cond.code yX11_spoken cX11_spoken 8 (some .int)) := rfl
set_option maxRecDepth 20000 in
theorem xcw_140 : lw_tbl[1188]? = some (Cond.code yX11_begins cX11_begins 5 none) := rfl
set_option maxRecDepth 20000 in
theorem xcw_141 : lw_tbl[1228]? = some (Cond.code yX11_act cX11_act 2 none) := rfl
set_option maxRecDepth 20000 in
theorem xcw_142 : lw_tbl[1261]? = some (Cond.code yX11_decided cX11_decided 3 none) := rfl
set_option maxRecDepth 20000 in
theorem xcw_143 : lw_tbl[1232]? = some (Cond.code yX11_isMoved cX11_isMoved 9 (some .boolean)) := rfl
set_option maxRecDepth 20000 in
theorem xcw_144 : lw_tbl[1472]? = some (Cond.code yX11_in cX11_in 3 (some .boolean)) := rfl
set_option maxRecDepth 20000 in
theorem xcw_145 : lw_tbl[1469]? = some (Cond.code yX11_submit cX11_submit 6 (some .int)) := rfl
set_option maxRecDepth 20000 in
theorem xcw_146 : lw_tbl[1481]? = some (Cond.code yX11_faulty cX11_faulty 3 (some .int)) := rfl
set_option maxRecDepth 20000 in
theorem xcw_147 : lw_tbl[1477]? = some (Cond.code yX11_fault cX11_fault 2 (some .int)) := rfl
set_option maxRecDepth 20000 in
theorem xcw_148 : lw_tbl[1489]? = some (Cond.code yX11_came cX11_came 4 (some .int)) := rfl
set_option maxRecDepth 20000 in
theorem xcw_149 : lw_tbl[1485]? = some (Cond.code yX11_deliver cX11_deliver 3 (some .int)) := rfl
set_option maxRecDepth 20000 in
theorem xcw_150 : lw_tbl[1493]? = some (Cond.code yX11_spread cX11_spread 6 (some .int)) := rfl
set_option maxRecDepth 20000 in
theorem xcw_151 : lw_tbl[1497]? = some (Cond.code yX11_expire cX11_expire 4 (some .int)) := rfl
set_option maxRecDepth 20000 in
theorem xcw_152 : lw_tbl[1501]? = some (Cond.code yX11_forge cX11_forge 8 (some .int)) := rfl
set_option maxRecDepth 20000 in
theorem xcw_153 : lw_tbl[1505]? = some (Cond.code yX11_block cX11_block 10 (some .int)) := rfl
set_option maxRecDepth 20000 in
theorem xcw_154 : lw_tbl[1510]? = some (Cond.code yX11_sync cX11_sync 3 (some .int)) := rfl
set_option maxRecDepth 20000 in
theorem xcw_155 : lw_tbl[1514]? = some (Cond.code yX11_isCertain cX11_isCertain 5 (some .boolean)) := rfl
set_option maxRecDepth 20000 in
theorem xcw_156 : lw_tbl[1518]? = some (Cond.code yX11_power cX11_power 3 none) := rfl
set_option maxRecDepth 20000 in
theorem xcw_157 : lw_tbl[1522]? = some (Cond.code yX11_start cX11_start 5 (some .int)) := rfl
set_option maxRecDepth 20000 in
theorem xcw_158 : lw_tbl[1570]? = some (Cond.code yX11_doubles cX11_doubles 6 (some .int)) := rfl
set_option maxRecDepth 20000 in
theorem xcw_159 : lw_tbl[1526]? = some (Cond.code yX11_told cX11_told 3 (some .int)) := rfl
set_option maxRecDepth 20000 in
theorem xcw_160 : lw_tbl[1530]? = some (Cond.code yX11_message cX11_message 3 (some .int)) := rfl
set_option maxRecDepth 20000 in
theorem xcw_161 : lw_tbl[1534]? = some (Cond.code yX11_of cX11_of 3 (some .int)) := rfl
set_option maxRecDepth 20000 in
theorem xcw_162 : lw_tbl[1538]? = some (Cond.code yX11_account cX11_account 6 (some .int)) := rfl
set_option maxRecDepth 20000 in
theorem xcw_163 : lw_tbl[1542]? = some (Cond.code yX11_sum cX11_sum 6 (some .int)) := rfl
set_option maxRecDepth 20000 in
theorem xcw_164 : lw_tbl[1562]? = some (Cond.code yX11_isSent cX11_isSent 11 (some .boolean)) := rfl
set_option maxRecDepth 20000 in
theorem xcw_165 : lw_tbl[1558]? = some (Cond.code yX11_isEnough cX11_isEnough 4 (some .boolean)) := rfl
set_option maxRecDepth 20000 in
theorem xcw_166 : lw_tbl[1554]? = some (Cond.code yX11_looks cX11_looks 4 (some .boolean)) := rfl
set_option maxRecDepth 20000 in
theorem xcw_167 : lw_tbl[1550]? = some (Cond.code yX11_follows cX11_follows 5 (some .boolean)) := rfl
set_option maxRecDepth 20000 in
theorem xcw_168 : lw_tbl[1546]? = some (Cond.code yX11_follow cX11_follow 2 (some .int)) := rfl
set_option maxRecDepth 20000 in
theorem xcw_169 : lw_tbl[1566]? = some (Cond.code yX11_count cX11_count 7 (some .int)) := rfl
set_option maxRecDepth 20000 in
theorem xcw_170 : lw_tbl[1137]? = some (Cond.code yJ9_max_7cf53 cJ9_max_7cf53 2 (some .int)) := rfl
set_option maxRecDepth 20000 in
theorem xcw_171 : lw_tbl[491]? = some (Cond.code yJ9_min_7cf53 cJ9_min_7cf53 2 (some .int)) := rfl
set_option maxRecDepth 20000 in
theorem xcw_172 : lw_tbl[173]? = some (Cond.code yJ7_fill_53178 cJ7_fill_53178 4 none) := rfl
set_option maxRecDepth 20000 in
theorem xcw_173 : lw_tbl[481]? = some (Cond.code yJ7_copyOf_59c91 cJ7_copyOf_59c91 3 (some (.array .int))) := rfl
set_option maxRecDepth 20000 in
theorem xcw_174 : lw_tbl[719]? = some (Cond.codeWith yL_submit cL_submit 7 (some .int) (xtb 174)) := rfl
set_option maxRecDepth 20000 in
theorem xcw_175 : lw_tbl[865]? = some (Cond.codeWith yL_fault cL_fault 4 (some .int) (xtb 175)) := rfl
set_option maxRecDepth 20000 in
theorem xcw_176 : lw_tbl[896]? = some (Cond.codeWith yL_deliver cL_deliver 5 (some .int) (xtb 176)) := rfl
set_option maxRecDepth 20000 in
theorem xcw_177 : lw_tbl[908]? = some (Cond.codeWith yL_spread cL_spread 6 (some .int) (xtb 177)) := rfl
set_option maxRecDepth 20000 in
theorem xcw_178 : lw_tbl[916]? = some (Cond.codeWith yL_expire cL_expire 4 (some .int) (xtb 178)) := rfl
set_option maxRecDepth 20000 in
theorem xcw_179 : lw_tbl[927]? = some (Cond.codeWith yL_forge cL_forge 9 (some .int) (xtb 179)) := rfl
set_option maxRecDepth 20000 in
theorem xcw_180 : lw_tbl[943]? = some (Cond.codeWith yL_block cL_block 8 (some .int) (xtb 180)) := rfl
set_option maxRecDepth 20000 in
theorem xcw_181 : lw_tbl[977]? = some (Cond.codeWith yL_sync cL_sync 5 (some .int) (xtb 181)) := rfl
set_option maxRecDepth 20000 in
theorem xcw_182 : lw_tbl[994]? = some (Cond.codeWith yL_power cL_power 4 (some .int) (xtb 182)) := rfl
set_option maxRecDepth 20000 in
theorem xcw_183 : lw_tbl[1002]? = some (Cond.codeWith yL_start cL_start 4 (some .int) (xtb 183)) := rfl
set_option maxRecDepth 20000 in
theorem xcw_184 : lw_tbl[1027]? = some (Cond.codeWith yL_told cL_told 5 (some .int) (xtb 184)) := rfl
set_option maxRecDepth 20000 in
theorem xcw_185 : lw_tbl[1035]? = some (Cond.codeWith yL_message cL_message 5 (some .int) (xtb 185)) := rfl
set_option maxRecDepth 20000 in
theorem xcw_186 : lw_tbl[1042]? = some (Cond.codeWith yL_of cL_of 5 (some .int) (xtb 186)) := rfl
set_option maxRecDepth 20000 in
theorem xcw_187 : lw_tbl[1049]? = some (Cond.codeWith yL_account cL_account 6 (some .int) (xtb 187)) := rfl
set_option maxRecDepth 20000 in
theorem xcw_188 : lw_tbl[1066]? = some (Cond.codeWith yL_sum cL_sum 5 (some .int) (xtb 188)) := rfl
set_option maxRecDepth 20000 in
theorem xcw_189 : lw_tbl[1077]? = some (Cond.codeWith yL_follow cL_follow 4 (some .int) (xtb 189)) := rfl
set_option maxRecDepth 20000 in
theorem xcw_190 : lw_tbl[1113]? = some (Cond.codeWith yL_count cL_count 4 (some .int) (xtb 190)) := rfl
def xish (k : Nat) : Bool := decide (k = 191) || (xhts.lookup k).isSome
theorem xcode_in : ∀ (k : Nat) (q : xMt), xmts[k]? = some q → xish k = false → Cond.code q.2.1 q.2.2.1 q.2.2.2.1 q.2.2.2.2.1 ∈ lw_tbl
  | 0, _, h, _ => by cases h; exact List.mem_of_getElem? xcw_0
  | 1, _, h, _ => by cases h; exact List.mem_of_getElem? xcw_1
  | 2, _, h, _ => by cases h; exact List.mem_of_getElem? xcw_2
  | 3, _, h, _ => by cases h; exact List.mem_of_getElem? xcw_3
  | 4, _, h, _ => by cases h; exact List.mem_of_getElem? xcw_4
  | 5, _, h, _ => by cases h; exact List.mem_of_getElem? xcw_5
  | 6, _, h, _ => by cases h; exact List.mem_of_getElem? xcw_6
  | 7, _, h, _ => by cases h; exact List.mem_of_getElem? xcw_7
  | 8, _, h, _ => by cases h; exact List.mem_of_getElem? xcw_8
  | 9, _, h, _ => by cases h; exact List.mem_of_getElem? xcw_9
  | 10, _, h, _ => by cases h; exact List.mem_of_getElem? xcw_10
  | 11, _, h, _ => by cases h; exact List.mem_of_getElem? xcw_11
  | 12, _, h, _ => by cases h; exact List.mem_of_getElem? xcw_12
  | 13, _, h, _ => by cases h; exact List.mem_of_getElem? xcw_13
  | 14, _, h, _ => by cases h; exact List.mem_of_getElem? xcw_14
  | 15, _, h, _ => by cases h; exact List.mem_of_getElem? xcw_15
  | 16, _, h, _ => by cases h; exact List.mem_of_getElem? xcw_16
  | 17, _, h, _ => by cases h; exact List.mem_of_getElem? xcw_17
  | 18, _, h, _ => by cases h; exact List.mem_of_getElem? xcw_18
  | 19, _, h, _ => by cases h; exact List.mem_of_getElem? xcw_19
  | 20, _, h, _ => by cases h; exact List.mem_of_getElem? xcw_20
  | 21, _, h, _ => by cases h; exact List.mem_of_getElem? xcw_21
  | 22, _, h, _ => by cases h; exact List.mem_of_getElem? xcw_22
  | 23, _, h, _ => by cases h; exact List.mem_of_getElem? xcw_23
  | 24, _, h, _ => by cases h; exact List.mem_of_getElem? xcw_24
  | 25, _, h, _ => by cases h; exact List.mem_of_getElem? xcw_25
  | 26, _, h, _ => by cases h; exact List.mem_of_getElem? xcw_26
  | 27, _, h, _ => by cases h; exact List.mem_of_getElem? xcw_27
  | 28, _, h, _ => by cases h; exact List.mem_of_getElem? xcw_28
  | 29, _, h, _ => by cases h; exact List.mem_of_getElem? xcw_29
  | 30, _, h, _ => by cases h; exact List.mem_of_getElem? xcw_30
  | 31, _, h, _ => by cases h; exact List.mem_of_getElem? xcw_31
  | 32, _, h, _ => by cases h; exact List.mem_of_getElem? xcw_32
  | 33, _, h, _ => by cases h; exact List.mem_of_getElem? xcw_33
  | 34, _, h, _ => by cases h; exact List.mem_of_getElem? xcw_34
  | 35, _, h, _ => by cases h; exact List.mem_of_getElem? xcw_35
  | 36, _, h, _ => by cases h; exact List.mem_of_getElem? xcw_36
  | 37, _, h, _ => by cases h; exact List.mem_of_getElem? xcw_37
  | 38, _, h, _ => by cases h; exact List.mem_of_getElem? xcw_38
  | 39, _, h, _ => by cases h; exact List.mem_of_getElem? xcw_39
  | 40, _, h, _ => by cases h; exact List.mem_of_getElem? xcw_40
  | 41, _, h, _ => by cases h; exact List.mem_of_getElem? xcw_41
  | 42, _, h, _ => by cases h; exact List.mem_of_getElem? xcw_42
  | 43, _, h, _ => by cases h; exact List.mem_of_getElem? xcw_43
  | 44, _, h, _ => by cases h; exact List.mem_of_getElem? xcw_44
  | 45, _, h, _ => by cases h; exact List.mem_of_getElem? xcw_45
  | 46, _, h, _ => by cases h; exact List.mem_of_getElem? xcw_46
  | 47, _, h, _ => by cases h; exact List.mem_of_getElem? xcw_47
  | 48, _, h, _ => by cases h; exact List.mem_of_getElem? xcw_48
  | 49, _, h, _ => by cases h; exact List.mem_of_getElem? xcw_49
  | 50, _, h, _ => by cases h; exact List.mem_of_getElem? xcw_50
  | 51, _, h, _ => by cases h; exact List.mem_of_getElem? xcw_51
  | 52, _, h, _ => by cases h; exact List.mem_of_getElem? xcw_52
  | 53, _, h, _ => by cases h; exact List.mem_of_getElem? xcw_53
  | 54, _, h, _ => by cases h; exact List.mem_of_getElem? xcw_54
  | 55, _, h, _ => by cases h; exact List.mem_of_getElem? xcw_55
  | 56, _, h, _ => by cases h; exact List.mem_of_getElem? xcw_56
  | 57, _, h, _ => by cases h; exact List.mem_of_getElem? xcw_57
  | 58, _, h, _ => by cases h; exact List.mem_of_getElem? xcw_58
  | 59, _, h, _ => by cases h; exact List.mem_of_getElem? xcw_59
  | 60, _, h, _ => by cases h; exact List.mem_of_getElem? xcw_60
  | 61, _, h, _ => by cases h; exact List.mem_of_getElem? xcw_61
  | 62, _, h, _ => by cases h; exact List.mem_of_getElem? xcw_62
  | 63, _, h, _ => by cases h; exact List.mem_of_getElem? xcw_63
  | 64, _, h, _ => by cases h; exact List.mem_of_getElem? xcw_64
  | 65, _, h, _ => by cases h; exact List.mem_of_getElem? xcw_65
  | 66, _, h, _ => by cases h; exact List.mem_of_getElem? xcw_66
  | 67, _, h, _ => by cases h; exact List.mem_of_getElem? xcw_67
  | 68, _, h, _ => by cases h; exact List.mem_of_getElem? xcw_68
  | 69, _, h, _ => by cases h; exact List.mem_of_getElem? xcw_69
  | 70, _, h, _ => by cases h; exact List.mem_of_getElem? xcw_70
  | 71, _, h, _ => by cases h; exact List.mem_of_getElem? xcw_71
  | 72, _, h, _ => by cases h; exact List.mem_of_getElem? xcw_72
  | 73, _, h, _ => by cases h; exact List.mem_of_getElem? xcw_73
  | 74, _, h, _ => by cases h; exact List.mem_of_getElem? xcw_74
  | 75, _, h, _ => by cases h; exact List.mem_of_getElem? xcw_75
  | 76, _, h, _ => by cases h; exact List.mem_of_getElem? xcw_76
  | 77, _, h, _ => by cases h; exact List.mem_of_getElem? xcw_77
  | 78, _, h, _ => by cases h; exact List.mem_of_getElem? xcw_78
  | 79, _, h, _ => by cases h; exact List.mem_of_getElem? xcw_79
  | 80, _, h, _ => by cases h; exact List.mem_of_getElem? xcw_80
  | 81, _, h, _ => by cases h; exact List.mem_of_getElem? xcw_81
  | 82, _, h, _ => by cases h; exact List.mem_of_getElem? xcw_82
  | 83, _, h, _ => by cases h; exact List.mem_of_getElem? xcw_83
  | 84, _, h, _ => by cases h; exact List.mem_of_getElem? xcw_84
  | 85, _, h, _ => by cases h; exact List.mem_of_getElem? xcw_85
  | 86, _, h, _ => by cases h; exact List.mem_of_getElem? xcw_86
  | 87, _, h, _ => by cases h; exact List.mem_of_getElem? xcw_87
  | 88, _, h, _ => by cases h; exact List.mem_of_getElem? xcw_88
  | 89, _, h, _ => by cases h; exact List.mem_of_getElem? xcw_89
  | 90, _, h, _ => by cases h; exact List.mem_of_getElem? xcw_90
  | 91, _, h, _ => by cases h; exact List.mem_of_getElem? xcw_91
  | 92, _, h, _ => by cases h; exact List.mem_of_getElem? xcw_92
  | 93, _, h, _ => by cases h; exact List.mem_of_getElem? xcw_93
  | 94, _, h, _ => by cases h; exact List.mem_of_getElem? xcw_94
  | 95, _, h, _ => by cases h; exact List.mem_of_getElem? xcw_95
  | 96, _, h, _ => by cases h; exact List.mem_of_getElem? xcw_96
  | 97, _, h, _ => by cases h; exact List.mem_of_getElem? xcw_97
  | 98, _, h, _ => by cases h; exact List.mem_of_getElem? xcw_98
  | 99, _, h, _ => by cases h; exact List.mem_of_getElem? xcw_99
  | 100, _, h, _ => by cases h; exact List.mem_of_getElem? xcw_100
  | 101, _, h, _ => by cases h; exact List.mem_of_getElem? xcw_101
  | 102, _, h, _ => by cases h; exact List.mem_of_getElem? xcw_102
  | 103, _, h, _ => by cases h; exact List.mem_of_getElem? xcw_103
  | 104, _, h, _ => by cases h; exact List.mem_of_getElem? xcw_104
  | 105, _, h, _ => by cases h; exact List.mem_of_getElem? xcw_105
  | 106, _, h, _ => by cases h; exact List.mem_of_getElem? xcw_106
  | 107, _, h, _ => by cases h; exact List.mem_of_getElem? xcw_107
  | 108, _, h, _ => by cases h; exact List.mem_of_getElem? xcw_108
  | 109, _, h, _ => by cases h; exact List.mem_of_getElem? xcw_109
  | 110, _, h, _ => by cases h; exact List.mem_of_getElem? xcw_110
  | 111, _, h, _ => by cases h; exact List.mem_of_getElem? xcw_111
  | 112, _, h, _ => by cases h; exact List.mem_of_getElem? xcw_112
  | 113, _, h, _ => by cases h; exact List.mem_of_getElem? xcw_113
  | 114, _, h, _ => by cases h; exact List.mem_of_getElem? xcw_114
  | 115, _, h, _ => by cases h; exact List.mem_of_getElem? xcw_115
  | 116, _, h, _ => by cases h; exact List.mem_of_getElem? xcw_116
  | 117, _, h, _ => by cases h; exact List.mem_of_getElem? xcw_117
  | 118, _, h, _ => by cases h; exact List.mem_of_getElem? xcw_118
  | 119, _, h, _ => by cases h; exact List.mem_of_getElem? xcw_119
  | 120, _, h, _ => by cases h; exact List.mem_of_getElem? xcw_120
  | 121, _, h, _ => by cases h; exact List.mem_of_getElem? xcw_121
  | 122, _, h, _ => by cases h; exact List.mem_of_getElem? xcw_122
  | 123, _, h, _ => by cases h; exact List.mem_of_getElem? xcw_123
  | 124, _, h, _ => by cases h; exact List.mem_of_getElem? xcw_124
  | 125, _, h, _ => by cases h; exact List.mem_of_getElem? xcw_125
  | 126, _, h, _ => by cases h; exact List.mem_of_getElem? xcw_126
  | 127, _, h, _ => by cases h; exact List.mem_of_getElem? xcw_127
  | 128, _, h, _ => by cases h; exact List.mem_of_getElem? xcw_128
  | 129, _, h, _ => by cases h; exact List.mem_of_getElem? xcw_129
  | 130, _, h, _ => by cases h; exact List.mem_of_getElem? xcw_130
  | 131, _, h, _ => by cases h; exact List.mem_of_getElem? xcw_131
  | 132, _, h, _ => by cases h; exact List.mem_of_getElem? xcw_132
  | 133, _, h, _ => by cases h; exact List.mem_of_getElem? xcw_133
  | 134, _, h, _ => by cases h; exact List.mem_of_getElem? xcw_134
  | 135, _, h, _ => by cases h; exact List.mem_of_getElem? xcw_135
  | 136, _, h, _ => by cases h; exact List.mem_of_getElem? xcw_136
  | 137, _, h, _ => by cases h; exact List.mem_of_getElem? xcw_137
  | 138, _, h, _ => by cases h; exact List.mem_of_getElem? xcw_138
  | 139, _, h, _ => by cases h; exact List.mem_of_getElem? xcw_139
  | 140, _, h, _ => by cases h; exact List.mem_of_getElem? xcw_140
  | 141, _, h, _ => by cases h; exact List.mem_of_getElem? xcw_141
  | 142, _, h, _ => by cases h; exact List.mem_of_getElem? xcw_142
  | 143, _, h, _ => by cases h; exact List.mem_of_getElem? xcw_143
  | 144, _, h, _ => by cases h; exact List.mem_of_getElem? xcw_144
  | 145, _, h, _ => by cases h; exact List.mem_of_getElem? xcw_145
  | 146, _, h, _ => by cases h; exact List.mem_of_getElem? xcw_146
  | 147, _, h, _ => by cases h; exact List.mem_of_getElem? xcw_147
  | 148, _, h, _ => by cases h; exact List.mem_of_getElem? xcw_148
  | 149, _, h, _ => by cases h; exact List.mem_of_getElem? xcw_149
  | 150, _, h, _ => by cases h; exact List.mem_of_getElem? xcw_150
  | 151, _, h, _ => by cases h; exact List.mem_of_getElem? xcw_151
  | 152, _, h, _ => by cases h; exact List.mem_of_getElem? xcw_152
  | 153, _, h, _ => by cases h; exact List.mem_of_getElem? xcw_153
  | 154, _, h, _ => by cases h; exact List.mem_of_getElem? xcw_154
  | 155, _, h, _ => by cases h; exact List.mem_of_getElem? xcw_155
  | 156, _, h, _ => by cases h; exact List.mem_of_getElem? xcw_156
  | 157, _, h, _ => by cases h; exact List.mem_of_getElem? xcw_157
  | 158, _, h, _ => by cases h; exact List.mem_of_getElem? xcw_158
  | 159, _, h, _ => by cases h; exact List.mem_of_getElem? xcw_159
  | 160, _, h, _ => by cases h; exact List.mem_of_getElem? xcw_160
  | 161, _, h, _ => by cases h; exact List.mem_of_getElem? xcw_161
  | 162, _, h, _ => by cases h; exact List.mem_of_getElem? xcw_162
  | 163, _, h, _ => by cases h; exact List.mem_of_getElem? xcw_163
  | 164, _, h, _ => by cases h; exact List.mem_of_getElem? xcw_164
  | 165, _, h, _ => by cases h; exact List.mem_of_getElem? xcw_165
  | 166, _, h, _ => by cases h; exact List.mem_of_getElem? xcw_166
  | 167, _, h, _ => by cases h; exact List.mem_of_getElem? xcw_167
  | 168, _, h, _ => by cases h; exact List.mem_of_getElem? xcw_168
  | 169, _, h, _ => by cases h; exact List.mem_of_getElem? xcw_169
  | 170, _, h, _ => by cases h; exact List.mem_of_getElem? xcw_170
  | 171, _, h, _ => by cases h; exact List.mem_of_getElem? xcw_171
  | 172, _, h, _ => by cases h; exact List.mem_of_getElem? xcw_172
  | 173, _, h, _ => by cases h; exact List.mem_of_getElem? xcw_173
  | 174, _, _, h => by cases h
  | 175, _, _, h => by cases h
  | 176, _, _, h => by cases h
  | 177, _, _, h => by cases h
  | 178, _, _, h => by cases h
  | 179, _, _, h => by cases h
  | 180, _, _, h => by cases h
  | 181, _, _, h => by cases h
  | 182, _, _, h => by cases h
  | 183, _, _, h => by cases h
  | 184, _, _, h => by cases h
  | 185, _, _, h => by cases h
  | 186, _, _, h => by cases h
  | 187, _, _, h => by cases h
  | 188, _, _, h => by cases h
  | 189, _, _, h => by cases h
  | 190, _, _, h => by cases h
  | 191, _, _, h => by cases h
  | k + 192, _, h, _ => absurd (List.getElem?_eq_some_iff.mp h).1 (by rw [xmts_len]; omega)
theorem xcodeH_in : ∀ (k : Nat) (q : xMt), xmts[k]? = some q → (xhts.lookup k).isSome = true → Cond.codeWith q.2.1 q.2.2.1 q.2.2.2.1 q.2.2.2.2.1 (xtb k) ∈ lw_tbl
  | 0, _, _, h => by cases h
  | 1, _, _, h => by cases h
  | 2, _, _, h => by cases h
  | 3, _, _, h => by cases h
  | 4, _, _, h => by cases h
  | 5, _, _, h => by cases h
  | 6, _, _, h => by cases h
  | 7, _, _, h => by cases h
  | 8, _, _, h => by cases h
  | 9, _, _, h => by cases h
  | 10, _, _, h => by cases h
  | 11, _, _, h => by cases h
  | 12, _, _, h => by cases h
  | 13, _, _, h => by cases h
  | 14, _, _, h => by cases h
  | 15, _, _, h => by cases h
  | 16, _, _, h => by cases h
  | 17, _, _, h => by cases h
  | 18, _, _, h => by cases h
  | 19, _, _, h => by cases h
  | 20, _, _, h => by cases h
  | 21, _, _, h => by cases h
  | 22, _, _, h => by cases h
  | 23, _, _, h => by cases h
  | 24, _, _, h => by cases h
  | 25, _, _, h => by cases h
  | 26, _, _, h => by cases h
  | 27, _, _, h => by cases h
  | 28, _, _, h => by cases h
  | 29, _, _, h => by cases h
  | 30, _, _, h => by cases h
  | 31, _, _, h => by cases h
  | 32, _, _, h => by cases h
  | 33, _, _, h => by cases h
  | 34, _, _, h => by cases h
  | 35, _, _, h => by cases h
  | 36, _, _, h => by cases h
  | 37, _, _, h => by cases h
  | 38, _, _, h => by cases h
  | 39, _, _, h => by cases h
  | 40, _, _, h => by cases h
  | 41, _, _, h => by cases h
  | 42, _, _, h => by cases h
  | 43, _, _, h => by cases h
  | 44, _, _, h => by cases h
  | 45, _, _, h => by cases h
  | 46, _, _, h => by cases h
  | 47, _, _, h => by cases h
  | 48, _, _, h => by cases h
  | 49, _, _, h => by cases h
  | 50, _, _, h => by cases h
  | 51, _, _, h => by cases h
  | 52, _, _, h => by cases h
  | 53, _, _, h => by cases h
  | 54, _, _, h => by cases h
  | 55, _, _, h => by cases h
  | 56, _, _, h => by cases h
  | 57, _, _, h => by cases h
  | 58, _, _, h => by cases h
  | 59, _, _, h => by cases h
  | 60, _, _, h => by cases h
  | 61, _, _, h => by cases h
  | 62, _, _, h => by cases h
  | 63, _, _, h => by cases h
  | 64, _, _, h => by cases h
  | 65, _, _, h => by cases h
  | 66, _, _, h => by cases h
  | 67, _, _, h => by cases h
  | 68, _, _, h => by cases h
  | 69, _, _, h => by cases h
  | 70, _, _, h => by cases h
  | 71, _, _, h => by cases h
  | 72, _, _, h => by cases h
  | 73, _, _, h => by cases h
  | 74, _, _, h => by cases h
  | 75, _, _, h => by cases h
  | 76, _, _, h => by cases h
  | 77, _, _, h => by cases h
  | 78, _, _, h => by cases h
  | 79, _, _, h => by cases h
  | 80, _, _, h => by cases h
  | 81, _, _, h => by cases h
  | 82, _, _, h => by cases h
  | 83, _, _, h => by cases h
  | 84, _, _, h => by cases h
  | 85, _, _, h => by cases h
  | 86, _, _, h => by cases h
  | 87, _, _, h => by cases h
  | 88, _, _, h => by cases h
  | 89, _, _, h => by cases h
  | 90, _, _, h => by cases h
  | 91, _, _, h => by cases h
  | 92, _, _, h => by cases h
  | 93, _, _, h => by cases h
  | 94, _, _, h => by cases h
  | 95, _, _, h => by cases h
  | 96, _, _, h => by cases h
  | 97, _, _, h => by cases h
  | 98, _, _, h => by cases h
  | 99, _, _, h => by cases h
  | 100, _, _, h => by cases h
  | 101, _, _, h => by cases h
  | 102, _, _, h => by cases h
  | 103, _, _, h => by cases h
  | 104, _, _, h => by cases h
  | 105, _, _, h => by cases h
  | 106, _, _, h => by cases h
  | 107, _, _, h => by cases h
  | 108, _, _, h => by cases h
  | 109, _, _, h => by cases h
  | 110, _, _, h => by cases h
  | 111, _, _, h => by cases h
  | 112, _, _, h => by cases h
  | 113, _, _, h => by cases h
  | 114, _, _, h => by cases h
  | 115, _, _, h => by cases h
  | 116, _, _, h => by cases h
  | 117, _, _, h => by cases h
  | 118, _, _, h => by cases h
  | 119, _, _, h => by cases h
  | 120, _, _, h => by cases h
  | 121, _, _, h => by cases h
  | 122, _, _, h => by cases h
  | 123, _, _, h => by cases h
  | 124, _, _, h => by cases h
  | 125, _, _, h => by cases h
  | 126, _, _, h => by cases h
  | 127, _, _, h => by cases h
  | 128, _, _, h => by cases h
  | 129, _, _, h => by cases h
  | 130, _, _, h => by cases h
  | 131, _, _, h => by cases h
  | 132, _, _, h => by cases h
  | 133, _, _, h => by cases h
  | 134, _, _, h => by cases h
  | 135, _, _, h => by cases h
  | 136, _, _, h => by cases h
  | 137, _, _, h => by cases h
  | 138, _, _, h => by cases h
  | 139, _, _, h => by cases h
  | 140, _, _, h => by cases h
  | 141, _, _, h => by cases h
  | 142, _, _, h => by cases h
  | 143, _, _, h => by cases h
  | 144, _, _, h => by cases h
  | 145, _, _, h => by cases h
  | 146, _, _, h => by cases h
  | 147, _, _, h => by cases h
  | 148, _, _, h => by cases h
  | 149, _, _, h => by cases h
  | 150, _, _, h => by cases h
  | 151, _, _, h => by cases h
  | 152, _, _, h => by cases h
  | 153, _, _, h => by cases h
  | 154, _, _, h => by cases h
  | 155, _, _, h => by cases h
  | 156, _, _, h => by cases h
  | 157, _, _, h => by cases h
  | 158, _, _, h => by cases h
  | 159, _, _, h => by cases h
  | 160, _, _, h => by cases h
  | 161, _, _, h => by cases h
  | 162, _, _, h => by cases h
  | 163, _, _, h => by cases h
  | 164, _, _, h => by cases h
  | 165, _, _, h => by cases h
  | 166, _, _, h => by cases h
  | 167, _, _, h => by cases h
  | 168, _, _, h => by cases h
  | 169, _, _, h => by cases h
  | 170, _, _, h => by cases h
  | 171, _, _, h => by cases h
  | 172, _, _, h => by cases h
  | 173, _, _, h => by cases h
  | 174, _, h, _ => by cases h; exact List.mem_of_getElem? xcw_174
  | 175, _, h, _ => by cases h; exact List.mem_of_getElem? xcw_175
  | 176, _, h, _ => by cases h; exact List.mem_of_getElem? xcw_176
  | 177, _, h, _ => by cases h; exact List.mem_of_getElem? xcw_177
  | 178, _, h, _ => by cases h; exact List.mem_of_getElem? xcw_178
  | 179, _, h, _ => by cases h; exact List.mem_of_getElem? xcw_179
  | 180, _, h, _ => by cases h; exact List.mem_of_getElem? xcw_180
  | 181, _, h, _ => by cases h; exact List.mem_of_getElem? xcw_181
  | 182, _, h, _ => by cases h; exact List.mem_of_getElem? xcw_182
  | 183, _, h, _ => by cases h; exact List.mem_of_getElem? xcw_183
  | 184, _, h, _ => by cases h; exact List.mem_of_getElem? xcw_184
  | 185, _, h, _ => by cases h; exact List.mem_of_getElem? xcw_185
  | 186, _, h, _ => by cases h; exact List.mem_of_getElem? xcw_186
  | 187, _, h, _ => by cases h; exact List.mem_of_getElem? xcw_187
  | 188, _, h, _ => by cases h; exact List.mem_of_getElem? xcw_188
  | 189, _, h, _ => by cases h; exact List.mem_of_getElem? xcw_189
  | 190, _, h, _ => by cases h; exact List.mem_of_getElem? xcw_190
  | 191, _, _, h => by cases h
  | k + 192, _, h, _ => absurd (List.getElem?_eq_some_iff.mp h).1 (by rw [xmts_len]; omega)
