-- words of the tables: laid by program
theorem zw_1 : Cond.initialized "ManagedBus" ∈ zGW := zGW_in 1 (by decide +kernel) rfl
theorem zw_2 : Cond.initialized "ManagedBus$Node" ∈ zGW := zGW_in 2 (by decide +kernel) rfl
theorem zw_3 : Cond.initialized "ManagedBus$Manager" ∈ zGW := zGW_in 3 (by decide +kernel) rfl
theorem zw_4 : Cond.initialized "ManagedBus$Port" ∈ zGW := zGW_in 4 (by decide +kernel) rfl
theorem zw_5 : Cond.initialized "ManagedBus$Packet" ∈ zGW := zGW_in 5 (by decide +kernel) rfl
theorem zw_6 : Cond.initialized "ManagedBus$SensingNode" ∈ zGW := zGW_in 6 (by decide +kernel) rfl
theorem zw_7 : Cond.initialized "ManagedBus$Bridge" ∈ zGW := zGW_in 7 (by decide +kernel) rfl
theorem zw_8 : Cond.initialized "ManagedBus$Bus" ∈ zGW := zGW_in 8 (by decide +kernel) rfl
theorem zw_9 : Cond.initialized "ManagedBus$Enumeration" ∈ zGW := zGW_in 9 (by decide +kernel) rfl
theorem zw_10 : Cond.initialized "ManagedBus$Row" ∈ zGW := zGW_in 10 (by decide +kernel) rfl
theorem zw_11 : Cond.initialized "ManagedBusModel" ∈ zGW := zGW_in 11 (by decide +kernel) rfl
theorem zw_12 : Cond.initialized "java/util/Arrays" ∈ zGW := zGW_in 12 (by decide +kernel) rfl
theorem zw_13 : Cond.initialized "java/lang/Math" ∈ zGW := zGW_in 13 (by decide +kernel) rfl
theorem zw_14 : Cond.initialized "java/lang/System" ∈ zGW := zGW_in 14 (by decide +kernel) rfl
theorem zw_15 : Cond.initialized "ManagedBus$Part" ∈ zGW := zGW_in 15 (by decide +kernel) rfl
theorem zw_16 : Cond.initialized "ManagedBus$Request" ∈ zGW := zGW_in 16 (by decide +kernel) rfl
theorem zw_17 : Cond.classLink "ManagedBusLaw" 7 "ManagedBus" ∈ zGW := zGW_in 17 (by decide +kernel) rfl
theorem zw_18 : Cond.instantiable "ManagedBus" 6 ∈ zGW := zGW_in 18 (by decide +kernel) rfl
theorem zw_19 : Cond.methodLink "ManagedBusLaw" 9 (zY 0) ∈ zGW := zGW_in 19 (by decide +kernel) rfl
theorem zw_20 : Cond.instanceMethod (zY 0) ∈ zGW := zGW_in 20 (by decide +kernel) rfl
set_option maxRecDepth 100000 in
theorem zw_21 : Cond.code (zY 0) (zB 0) (zL 0) (zRe 0) ∈ zGW := zGW_in 21 rfl rfl
theorem zw_22 : Cond.methodLink "ManagedBus" 1 Lib.objectInit ∈ zGW := zGW_in 22 (by decide +kernel) rfl
theorem zw_23 : Cond.instanceMethod Lib.objectInit ∈ zGW := zGW_in 23 (by decide +kernel) rfl
set_option maxRecDepth 100000 in
theorem zw_24 : Cond.code Lib.objectInit ⟨#[0xb1]⟩ 1 none ∈ zGW := zGW_in 24 rfl rfl
theorem zw_25 : Cond.classLink "ManagedBus" 9 "ManagedBus$Bus" ∈ zGW := zGW_in 25 (by decide +kernel) rfl
theorem zw_27 : Cond.classLink "ManagedBus" 15 "ManagedBus$Node" ∈ zGW := zGW_in 27 (by decide +kernel) rfl
theorem zw_29 : Cond.classLink "ManagedBus" 21 "ManagedBus$SensingNode" ∈ zGW := zGW_in 29 (by decide +kernel) rfl
theorem zw_31 : Cond.classLink "ManagedBus" 27 "ManagedBus$Manager" ∈ zGW := zGW_in 31 (by decide +kernel) rfl
theorem zw_32 : Cond.instantiable "ManagedBus$Manager" 11 ∈ zGW := zGW_in 32 (by decide +kernel) rfl
theorem zw_33 : Cond.methodLink "ManagedBus" 29 (zY 102) ∈ zGW := zGW_in 33 (by decide +kernel) rfl
theorem zw_34 : Cond.instanceMethod (zY 102) ∈ zGW := zGW_in 34 (by decide +kernel) rfl
set_option maxRecDepth 100000 in
theorem zw_35 : Cond.code (zY 102) (zB 102) (zL 102) (zRe 102) ∈ zGW := zGW_in 35 rfl rfl
theorem zw_36 : Cond.methodLink "ManagedBus$Manager" 3 (zY 111) ∈ zGW := zGW_in 36 (by decide +kernel) rfl
theorem zw_37 : Cond.instanceMethod (zY 111) ∈ zGW := zGW_in 37 (by decide +kernel) rfl
set_option maxRecDepth 100000 in
theorem zw_38 : Cond.code (zY 111) (zB 111) (zL 111) (zRe 111) ∈ zGW := zGW_in 38 rfl rfl
theorem zw_39 : Cond.methodLink "ManagedBus$Node" 3 Lib.objectInit ∈ zGW := zGW_in 39 (by decide +kernel) rfl
theorem zw_40 : Cond.classLink "ManagedBus$Node" 9 "ManagedBus$Part" ∈ zGW := zGW_in 40 (by decide +kernel) rfl
theorem zw_42 : Cond.classLink "ManagedBus$Node" 17 "ManagedBus$Port" ∈ zGW := zGW_in 42 (by decide +kernel) rfl
theorem zw_43 : Cond.instantiable "ManagedBus$Port" 9 ∈ zGW := zGW_in 43 (by decide +kernel) rfl
theorem zw_44 : Cond.methodLink "ManagedBus$Node" 19 (zY 127) ∈ zGW := zGW_in 44 (by decide +kernel) rfl
theorem zw_45 : Cond.instanceMethod (zY 127) ∈ zGW := zGW_in 45 (by decide +kernel) rfl
set_option maxRecDepth 100000 in
theorem zw_46 : Cond.code (zY 127) (zB 127) (zL 127) (zRe 127) ∈ zGW := zGW_in 46 rfl rfl
theorem zw_47 : Cond.methodLink "ManagedBus$Port" 3 Lib.objectInit ∈ zGW := zGW_in 47 (by decide +kernel) rfl
theorem zw_48 : Cond.classLink "ManagedBus$Port" 9 "ManagedBus$Packet" ∈ zGW := zGW_in 48 (by decide +kernel) rfl
theorem zw_50 : Cond.instantiable "ManagedBus$Packet" 5 ∈ zGW := zGW_in 50 (by decide +kernel) rfl
theorem zw_52 : Cond.instanceMethod (zY 116) ∈ zGW := zGW_in 52 (by decide +kernel) rfl
set_option maxRecDepth 100000 in
theorem zw_53 : Cond.code (zY 116) (zB 116) (zL 116) (zRe 116) ∈ zGW := zGW_in 53 rfl rfl
theorem zw_54 : Cond.methodLink "ManagedBus$Packet" 3 Lib.objectInit ∈ zGW := zGW_in 54 (by decide +kernel) rfl
theorem zw_55 : Cond.fieldLink "ManagedBus$Bridge" 27 "ManagedBus$Packet" "target" "I" ∈ zGW := zGW_in 55 (by decide +kernel) rfl
theorem zw_56 : Cond.fieldLink "ManagedBus$Packet" 15 "ManagedBus$Packet" "target" "I" ∈ zGW := zGW_in 56 (by decide +kernel) rfl
theorem zw_57 : Cond.fieldLink "ManagedBus$Node" 30 "ManagedBus$Packet" "target" "I" ∈ zGW := zGW_in 57 (by decide +kernel) rfl
theorem zw_58 : Cond.fieldLink "ManagedBus$Bus" 89 "ManagedBus$Packet" "target" "I" ∈ zGW := zGW_in 58 (by decide +kernel) rfl
theorem zw_59 : Cond.fieldLink "ManagedBus$Packet" 19 "ManagedBus$Packet" "source" "I" ∈ zGW := zGW_in 59 (by decide +kernel) rfl
theorem zw_60 : Cond.fieldLink "ManagedBus$Bridge" 40 "ManagedBus$Packet" "source" "I" ∈ zGW := zGW_in 60 (by decide +kernel) rfl
theorem zw_61 : Cond.fieldLink "ManagedBus$Node" 42 "ManagedBus$Packet" "source" "I" ∈ zGW := zGW_in 61 (by decide +kernel) rfl
theorem zw_62 : Cond.fieldLink "ManagedBus$Bus" 104 "ManagedBus$Packet" "source" "I" ∈ zGW := zGW_in 62 (by decide +kernel) rfl
theorem zw_63 : Cond.fieldLink "ManagedBus$Packet" 22 "ManagedBus$Packet" "flags" "I" ∈ zGW := zGW_in 63 (by decide +kernel) rfl
theorem zw_64 : Cond.fieldLink "ManagedBus$Bridge" 43 "ManagedBus$Packet" "flags" "I" ∈ zGW := zGW_in 64 (by decide +kernel) rfl
theorem zw_65 : Cond.fieldLink "ManagedBus$Bus" 107 "ManagedBus$Packet" "flags" "I" ∈ zGW := zGW_in 65 (by decide +kernel) rfl
theorem zw_66 : Cond.fieldLink "ManagedBus$Bridge" 54 "ManagedBus$Packet" "length" "I" ∈ zGW := zGW_in 66 (by decide +kernel) rfl
theorem zw_67 : Cond.fieldLink "ManagedBus$Packet" 25 "ManagedBus$Packet" "length" "I" ∈ zGW := zGW_in 67 (by decide +kernel) rfl
theorem zw_68 : Cond.fieldLink "ManagedBus$Part" 44 "ManagedBus$Packet" "length" "I" ∈ zGW := zGW_in 68 (by decide +kernel) rfl
theorem zw_69 : Cond.fieldLink "ManagedBus$Bus" 110 "ManagedBus$Packet" "length" "I" ∈ zGW := zGW_in 69 (by decide +kernel) rfl
theorem zw_70 : Cond.fieldLink "ManagedBus$Packet" 9 "ManagedBus$Packet" "bytes" "[I" ∈ zGW := zGW_in 70 (by decide +kernel) rfl
theorem zw_71 : Cond.fieldLink "ManagedBus$Bridge" 50 "ManagedBus$Packet" "bytes" "[I" ∈ zGW := zGW_in 71 (by decide +kernel) rfl
theorem zw_72 : Cond.fieldLink "ManagedBus$Part" 45 "ManagedBus$Packet" "bytes" "[I" ∈ zGW := zGW_in 72 (by decide +kernel) rfl
theorem zw_73 : Cond.fieldLink "ManagedBus$Bus" 111 "ManagedBus$Packet" "bytes" "[I" ∈ zGW := zGW_in 73 (by decide +kernel) rfl
theorem zw_74 : Cond.lays "ManagedBus$Packet" "ManagedBus$Packet" "target" "I" ∈ zGW := zGW_in 74 (by decide +kernel) rfl
theorem zw_76 : Cond.lays "ManagedBus$Packet" "ManagedBus$Packet" "source" "I" ∈ zGW := zGW_in 76 (by decide +kernel) rfl
theorem zw_78 : Cond.lays "ManagedBus$Packet" "ManagedBus$Packet" "flags" "I" ∈ zGW := zGW_in 78 (by decide +kernel) rfl
theorem zw_80 : Cond.lays "ManagedBus$Packet" "ManagedBus$Packet" "length" "I" ∈ zGW := zGW_in 80 (by decide +kernel) rfl
theorem zw_82 : Cond.laysFinal "ManagedBus$Packet" "ManagedBus$Packet" "bytes" "[I" ∈ zGW := zGW_in 82 (by decide +kernel) rfl
theorem zw_85 : Cond.arrayClass Jvm.ClassFile.FieldType.int ∈ zGW := zGW_in 85 (by decide +kernel) rfl
theorem zw_86 : Cond.fieldLink "ManagedBus$Port" 17 "ManagedBus$Port" "owner" "Z" ∈ zGW := zGW_in 86 (by decide +kernel) rfl
theorem zw_87 : Cond.fieldLink "ManagedBus$Bus" 81 "ManagedBus$Port" "owner" "Z" ∈ zGW := zGW_in 87 (by decide +kernel) rfl
theorem zw_88 : Cond.fieldLink "ManagedBus$Bridge" 23 "ManagedBus$Port" "identity" "I" ∈ zGW := zGW_in 88 (by decide +kernel) rfl
theorem zw_89 : Cond.fieldLink "ManagedBus$Port" 29 "ManagedBus$Port" "identity" "I" ∈ zGW := zGW_in 89 (by decide +kernel) rfl
theorem zw_90 : Cond.fieldLink "ManagedBus$Bus" 118 "ManagedBus$Port" "identity" "I" ∈ zGW := zGW_in 90 (by decide +kernel) rfl
theorem zw_91 : Cond.fieldLink "ManagedBus" 131 "ManagedBus$Port" "identity" "I" ∈ zGW := zGW_in 91 (by decide +kernel) rfl
theorem zw_92 : Cond.fieldLink "ManagedBus$Port" 21 "ManagedBus$Port" "address" "I" ∈ zGW := zGW_in 92 (by decide +kernel) rfl
theorem zw_93 : Cond.fieldLink "ManagedBus$Bus" 74 "ManagedBus$Port" "address" "I" ∈ zGW := zGW_in 93 (by decide +kernel) rfl
theorem zw_94 : Cond.fieldLink "ManagedBus" 136 "ManagedBus$Port" "address" "I" ∈ zGW := zGW_in 94 (by decide +kernel) rfl
theorem zw_95 : Cond.fieldLink "ManagedBus$Port" 25 "ManagedBus$Port" "resolved" "Z" ∈ zGW := zGW_in 95 (by decide +kernel) rfl
theorem zw_96 : Cond.fieldLink "ManagedBus$Bus" 115 "ManagedBus$Port" "resolved" "Z" ∈ zGW := zGW_in 96 (by decide +kernel) rfl
theorem zw_97 : Cond.fieldLink "ManagedBus" 139 "ManagedBus$Port" "resolved" "Z" ∈ zGW := zGW_in 97 (by decide +kernel) rfl
theorem zw_98 : Cond.fieldLink "ManagedBus$Manager" 34 "ManagedBus$Port" "endpoint" "I" ∈ zGW := zGW_in 98 (by decide +kernel) rfl
theorem zw_99 : Cond.fieldLink "ManagedBus$Port" 32 "ManagedBus$Port" "endpoint" "I" ∈ zGW := zGW_in 99 (by decide +kernel) rfl
theorem zw_100 : Cond.fieldLink "ManagedBus$Node" 35 "ManagedBus$Port" "endpoint" "I" ∈ zGW := zGW_in 100 (by decide +kernel) rfl
theorem zw_101 : Cond.fieldLink "ManagedBus$Bus" 121 "ManagedBus$Port" "endpoint" "I" ∈ zGW := zGW_in 101 (by decide +kernel) rfl
theorem zw_102 : Cond.fieldLink "ManagedBus" 143 "ManagedBus$Port" "endpoint" "I" ∈ zGW := zGW_in 102 (by decide +kernel) rfl
theorem zw_103 : Cond.fieldLink "ManagedBus$Port" 35 "ManagedBus$Port" "tries" "I" ∈ zGW := zGW_in 103 (by decide +kernel) rfl
theorem zw_104 : Cond.fieldLink "ManagedBus" 149 "ManagedBus$Port" "tries" "I" ∈ zGW := zGW_in 104 (by decide +kernel) rfl
theorem zw_105 : Cond.fieldLink "ManagedBus$Port" 38 "ManagedBus$Port" "waiting" "I" ∈ zGW := zGW_in 105 (by decide +kernel) rfl
theorem zw_106 : Cond.fieldLink "ManagedBus$Bus" 71 "ManagedBus$Port" "waiting" "I" ∈ zGW := zGW_in 106 (by decide +kernel) rfl
theorem zw_107 : Cond.fieldLink "ManagedBus" 146 "ManagedBus$Port" "waiting" "I" ∈ zGW := zGW_in 107 (by decide +kernel) rfl
theorem zw_108 : Cond.fieldLink "ManagedBus$Port" 11 "ManagedBus$Port" "slots" "[LManagedBus$Packet;" ∈ zGW := zGW_in 108 (by decide +kernel) rfl
theorem zw_109 : Cond.fieldLink "ManagedBus$Port" 41 "ManagedBus$Port" "head" "I" ∈ zGW := zGW_in 109 (by decide +kernel) rfl
theorem zw_110 : Cond.laysFinal "ManagedBus$Port" "ManagedBus$Port" "owner" "Z" ∈ zGW := zGW_in 110 (by decide +kernel) rfl
theorem zw_112 : Cond.lays "ManagedBus$Port" "ManagedBus$Port" "identity" "I" ∈ zGW := zGW_in 112 (by decide +kernel) rfl
theorem zw_114 : Cond.lays "ManagedBus$Port" "ManagedBus$Port" "address" "I" ∈ zGW := zGW_in 114 (by decide +kernel) rfl
theorem zw_116 : Cond.lays "ManagedBus$Port" "ManagedBus$Port" "resolved" "Z" ∈ zGW := zGW_in 116 (by decide +kernel) rfl
theorem zw_118 : Cond.lays "ManagedBus$Port" "ManagedBus$Port" "endpoint" "I" ∈ zGW := zGW_in 118 (by decide +kernel) rfl
theorem zw_120 : Cond.lays "ManagedBus$Port" "ManagedBus$Port" "tries" "I" ∈ zGW := zGW_in 120 (by decide +kernel) rfl
theorem zw_122 : Cond.lays "ManagedBus$Port" "ManagedBus$Port" "waiting" "I" ∈ zGW := zGW_in 122 (by decide +kernel) rfl
theorem zw_124 : Cond.laysFinal "ManagedBus$Port" "ManagedBus$Port" "slots" "[LManagedBus$Packet;" ∈ zGW := zGW_in 124 (by decide +kernel) rfl
theorem zw_126 : Cond.lays "ManagedBus$Port" "ManagedBus$Port" "head" "I" ∈ zGW := zGW_in 126 (by decide +kernel) rfl
theorem zw_129 : Cond.classLink "ManagedBus$Manager" 24 "ManagedBus$Request" ∈ zGW := zGW_in 129 (by decide +kernel) rfl
theorem zw_131 : Cond.fieldLink "ManagedBus$Manager" 9 "ManagedBus$Manager" "sheetBytes" "[I" ∈ zGW := zGW_in 131 (by decide +kernel) rfl
theorem zw_132 : Cond.fieldLink "ManagedBus" 103 "ManagedBus$Manager" "sheetBytes" "[I" ∈ zGW := zGW_in 132 (by decide +kernel) rfl
theorem zw_133 : Cond.fieldLink "ManagedBus$Manager" 15 "ManagedBus$Manager" "eventSources" "[I" ∈ zGW := zGW_in 133 (by decide +kernel) rfl
theorem zw_134 : Cond.fieldLink "ManagedBus" 197 "ManagedBus$Manager" "eventSources" "[I" ∈ zGW := zGW_in 134 (by decide +kernel) rfl
theorem zw_135 : Cond.fieldLink "ManagedBus$Manager" 18 "ManagedBus$Manager" "eventStates" "[I" ∈ zGW := zGW_in 135 (by decide +kernel) rfl
theorem zw_136 : Cond.fieldLink "ManagedBus" 200 "ManagedBus$Manager" "eventStates" "[I" ∈ zGW := zGW_in 136 (by decide +kernel) rfl
theorem zw_137 : Cond.fieldLink "ManagedBus$Manager" 21 "ManagedBus$Manager" "eventValues" "[I" ∈ zGW := zGW_in 137 (by decide +kernel) rfl
theorem zw_138 : Cond.fieldLink "ManagedBus" 203 "ManagedBus$Manager" "eventValues" "[I" ∈ zGW := zGW_in 138 (by decide +kernel) rfl
theorem zw_139 : Cond.fieldLink "ManagedBus$Manager" 97 "ManagedBus$Manager" "events" "I" ∈ zGW := zGW_in 139 (by decide +kernel) rfl
theorem zw_140 : Cond.fieldLink "ManagedBus" 189 "ManagedBus$Manager" "events" "I" ∈ zGW := zGW_in 140 (by decide +kernel) rfl
theorem zw_141 : Cond.fieldLink "ManagedBus$Manager" 87 "ManagedBus$Manager" "nextEvent" "I" ∈ zGW := zGW_in 141 (by decide +kernel) rfl
theorem zw_142 : Cond.fieldLink "ManagedBus$Manager" 26 "ManagedBus$Manager" "requests" "[LManagedBus$Request;" ∈ zGW := zGW_in 142 (by decide +kernel) rfl
theorem zw_143 : Cond.fieldLink "ManagedBus$Manager" 40 "ManagedBus$Manager" "requestCount" "I" ∈ zGW := zGW_in 143 (by decide +kernel) rfl
theorem zw_144 : Cond.fieldLink "ManagedBus$Bridge" 20 "ManagedBus$Bridge" "port" "LManagedBus$Port;" ∈ zGW := zGW_in 144 (by decide +kernel) rfl
theorem zw_145 : Cond.sameField "ManagedBus$Bridge" "ManagedBus$Node" "port" "LManagedBus$Port;" ∈ zGW := zGW_in 145 (by decide +kernel) rfl
theorem zw_146 : Cond.fieldLink "ManagedBus$Node" 22 "ManagedBus$Node" "port" "LManagedBus$Port;" ∈ zGW := zGW_in 146 (by decide +kernel) rfl
theorem zw_147 : Cond.fieldLink "ManagedBus$Manager" 30 "ManagedBus$Manager" "port" "LManagedBus$Port;" ∈ zGW := zGW_in 147 (by decide +kernel) rfl
theorem zw_148 : Cond.sameField "ManagedBus$Manager" "ManagedBus$Node" "port" "LManagedBus$Port;" ∈ zGW := zGW_in 148 (by decide +kernel) rfl
theorem zw_149 : Cond.fieldLink "ManagedBus" 49 "ManagedBus$Manager" "port" "LManagedBus$Port;" ∈ zGW := zGW_in 149 (by decide +kernel) rfl
theorem zw_150 : Cond.fieldLink "ManagedBus" 53 "ManagedBus$Bridge" "port" "LManagedBus$Port;" ∈ zGW := zGW_in 150 (by decide +kernel) rfl
theorem zw_151 : Cond.fieldLink "ManagedBus$SensingNode" 31 "ManagedBus$SensingNode" "port" "LManagedBus$Port;" ∈ zGW := zGW_in 151 (by decide +kernel) rfl
theorem zw_152 : Cond.sameField "ManagedBus$SensingNode" "ManagedBus$Node" "port" "LManagedBus$Port;" ∈ zGW := zGW_in 152 (by decide +kernel) rfl
theorem zw_153 : Cond.fieldLink "ManagedBus" 73 "ManagedBus$SensingNode" "port" "LManagedBus$Port;" ∈ zGW := zGW_in 153 (by decide +kernel) rfl
theorem zw_154 : Cond.fieldLink "ManagedBus" 130 "ManagedBus$Node" "port" "LManagedBus$Port;" ∈ zGW := zGW_in 154 (by decide +kernel) rfl
theorem zw_155 : Cond.fieldLink "ManagedBus$Node" 26 "ManagedBus$Node" "bus" "I" ∈ zGW := zGW_in 155 (by decide +kernel) rfl
theorem zw_156 : Cond.fieldLink "ManagedBus$SensingNode" 28 "ManagedBus$SensingNode" "bus" "I" ∈ zGW := zGW_in 156 (by decide +kernel) rfl
theorem zw_157 : Cond.sameField "ManagedBus$SensingNode" "ManagedBus$Node" "bus" "I" ∈ zGW := zGW_in 157 (by decide +kernel) rfl
theorem zw_158 : Cond.fieldLink "ManagedBus" 61 "ManagedBus$Node" "bus" "I" ∈ zGW := zGW_in 158 (by decide +kernel) rfl
theorem zw_159 : Cond.fieldLink "ManagedBus" 218 "ManagedBus$SensingNode" "bus" "I" ∈ zGW := zGW_in 159 (by decide +kernel) rfl
theorem zw_160 : Cond.fieldLink "ManagedBus$Node" 11 "ManagedBus$Node" "parts" "[LManagedBus$Part;" ∈ zGW := zGW_in 160 (by decide +kernel) rfl
theorem zw_161 : Cond.laysFinal "ManagedBus$Manager" "ManagedBus$Manager" "sheetBytes" "[I" ∈ zGW := zGW_in 161 (by decide +kernel) rfl
theorem zw_163 : Cond.laysFinal "ManagedBus$Manager" "ManagedBus$Manager" "eventSources" "[I" ∈ zGW := zGW_in 163 (by decide +kernel) rfl
theorem zw_165 : Cond.laysFinal "ManagedBus$Manager" "ManagedBus$Manager" "eventStates" "[I" ∈ zGW := zGW_in 165 (by decide +kernel) rfl
theorem zw_167 : Cond.laysFinal "ManagedBus$Manager" "ManagedBus$Manager" "eventValues" "[I" ∈ zGW := zGW_in 167 (by decide +kernel) rfl
theorem zw_169 : Cond.lays "ManagedBus$Manager" "ManagedBus$Manager" "events" "I" ∈ zGW := zGW_in 169 (by decide +kernel) rfl
theorem zw_171 : Cond.lays "ManagedBus$Manager" "ManagedBus$Manager" "nextEvent" "I" ∈ zGW := zGW_in 171 (by decide +kernel) rfl
theorem zw_173 : Cond.laysFinal "ManagedBus$Manager" "ManagedBus$Manager" "requests" "[LManagedBus$Request;" ∈ zGW := zGW_in 173 (by decide +kernel) rfl
theorem zw_175 : Cond.lays "ManagedBus$Manager" "ManagedBus$Manager" "requestCount" "I" ∈ zGW := zGW_in 175 (by decide +kernel) rfl
theorem zw_177 : Cond.laysFinal "ManagedBus$Manager" "ManagedBus$Node" "port" "LManagedBus$Port;" ∈ zGW := zGW_in 177 (by decide +kernel) rfl
theorem zw_179 : Cond.lays "ManagedBus$Manager" "ManagedBus$Node" "bus" "I" ∈ zGW := zGW_in 179 (by decide +kernel) rfl
theorem zw_181 : Cond.laysFinal "ManagedBus$Manager" "ManagedBus$Node" "parts" "[LManagedBus$Part;" ∈ zGW := zGW_in 181 (by decide +kernel) rfl
theorem zw_184 : Cond.classLink "ManagedBus" 34 "ManagedBus$Bridge" ∈ zGW := zGW_in 184 (by decide +kernel) rfl
theorem zw_185 : Cond.instantiable "ManagedBus$Bridge" 13 ∈ zGW := zGW_in 185 (by decide +kernel) rfl
theorem zw_186 : Cond.methodLink "ManagedBus" 36 (zY 74) ∈ zGW := zGW_in 186 (by decide +kernel) rfl
theorem zw_187 : Cond.instanceMethod (zY 74) ∈ zGW := zGW_in 187 (by decide +kernel) rfl
set_option maxRecDepth 100000 in
theorem zw_188 : Cond.code (zY 74) (zB 74) (zL 74) (zRe 74) ∈ zGW := zGW_in 188 rfl rfl
theorem zw_189 : Cond.methodLink "ManagedBus$Bridge" 3 (zY 146) ∈ zGW := zGW_in 189 (by decide +kernel) rfl
theorem zw_190 : Cond.instanceMethod (zY 146) ∈ zGW := zGW_in 190 (by decide +kernel) rfl
set_option maxRecDepth 100000 in
theorem zw_191 : Cond.code (zY 146) (zB 146) (zL 146) (zRe 146) ∈ zGW := zGW_in 191 rfl rfl
theorem zw_192 : Cond.methodLink "ManagedBus$SensingNode" 3 (zY 111) ∈ zGW := zGW_in 192 (by decide +kernel) rfl
theorem zw_193 : Cond.classLink "ManagedBus$Bridge" 9 "ManagedBus$Port" ∈ zGW := zGW_in 193 (by decide +kernel) rfl
theorem zw_194 : Cond.methodLink "ManagedBus$Bridge" 11 (zY 127) ∈ zGW := zGW_in 194 (by decide +kernel) rfl
theorem zw_195 : Cond.fieldLink "ManagedBus$Bridge" 14 "ManagedBus$Bridge" "farPort" "LManagedBus$Port;" ∈ zGW := zGW_in 195 (by decide +kernel) rfl
theorem zw_196 : Cond.fieldLink "ManagedBus" 54 "ManagedBus$Bridge" "farPort" "LManagedBus$Port;" ∈ zGW := zGW_in 196 (by decide +kernel) rfl
theorem zw_197 : Cond.fieldLink "ManagedBus$SensingNode" 45 "ManagedBus$SensingNode" "value" "I" ∈ zGW := zGW_in 197 (by decide +kernel) rfl
theorem zw_198 : Cond.fieldLink "ManagedBus" 115 "ManagedBus$SensingNode" "value" "I" ∈ zGW := zGW_in 198 (by decide +kernel) rfl
theorem zw_199 : Cond.fieldLink "ManagedBus$SensingNode" 11 "ManagedBus$SensingNode" "state" "I" ∈ zGW := zGW_in 199 (by decide +kernel) rfl
theorem zw_200 : Cond.fieldLink "ManagedBus" 150 "ManagedBus$SensingNode" "state" "I" ∈ zGW := zGW_in 200 (by decide +kernel) rfl
theorem zw_201 : Cond.fieldLink "ManagedBus$SensingNode" 15 "ManagedBus$SensingNode" "low" "I" ∈ zGW := zGW_in 201 (by decide +kernel) rfl
theorem zw_202 : Cond.fieldLink "ManagedBus" 151 "ManagedBus$SensingNode" "low" "I" ∈ zGW := zGW_in 202 (by decide +kernel) rfl
theorem zw_203 : Cond.fieldLink "ManagedBus$SensingNode" 18 "ManagedBus$SensingNode" "high" "I" ∈ zGW := zGW_in 203 (by decide +kernel) rfl
theorem zw_204 : Cond.fieldLink "ManagedBus" 154 "ManagedBus$SensingNode" "high" "I" ∈ zGW := zGW_in 204 (by decide +kernel) rfl
theorem zw_205 : Cond.fieldLink "ManagedBus$SensingNode" 48 "ManagedBus$SensingNode" "slack" "I" ∈ zGW := zGW_in 205 (by decide +kernel) rfl
theorem zw_206 : Cond.fieldLink "ManagedBus" 157 "ManagedBus$SensingNode" "slack" "I" ∈ zGW := zGW_in 206 (by decide +kernel) rfl
theorem zw_207 : Cond.fieldLink "ManagedBus$SensingNode" 21 "ManagedBus$SensingNode" "blockBytes" "[I" ∈ zGW := zGW_in 207 (by decide +kernel) rfl
theorem zw_208 : Cond.fieldLink "ManagedBus" 166 "ManagedBus$SensingNode" "blockBytes" "[I" ∈ zGW := zGW_in 208 (by decide +kernel) rfl
theorem zw_209 : Cond.fieldLink "ManagedBus$SensingNode" 51 "ManagedBus$SensingNode" "receiver" "I" ∈ zGW := zGW_in 209 (by decide +kernel) rfl
theorem zw_210 : Cond.fieldLink "ManagedBus" 160 "ManagedBus$SensingNode" "receiver" "I" ∈ zGW := zGW_in 210 (by decide +kernel) rfl
theorem zw_211 : Cond.fieldLink "ManagedBus$SensingNode" 54 "ManagedBus$SensingNode" "eventCount" "I" ∈ zGW := zGW_in 211 (by decide +kernel) rfl
theorem zw_212 : Cond.fieldLink "ManagedBus" 163 "ManagedBus$SensingNode" "eventCount" "I" ∈ zGW := zGW_in 212 (by decide +kernel) rfl
theorem zw_213 : Cond.fieldLink "ManagedBus$SensingNode" 25 "ManagedBus$SensingNode" "letter" "[I" ∈ zGW := zGW_in 213 (by decide +kernel) rfl
theorem zw_214 : Cond.laysFinal "ManagedBus$Bridge" "ManagedBus$Bridge" "farPort" "LManagedBus$Port;" ∈ zGW := zGW_in 214 (by decide +kernel) rfl
theorem zw_216 : Cond.lays "ManagedBus$Bridge" "ManagedBus$SensingNode" "value" "I" ∈ zGW := zGW_in 216 (by decide +kernel) rfl
theorem zw_218 : Cond.lays "ManagedBus$Bridge" "ManagedBus$SensingNode" "state" "I" ∈ zGW := zGW_in 218 (by decide +kernel) rfl
theorem zw_220 : Cond.lays "ManagedBus$Bridge" "ManagedBus$SensingNode" "low" "I" ∈ zGW := zGW_in 220 (by decide +kernel) rfl
theorem zw_222 : Cond.lays "ManagedBus$Bridge" "ManagedBus$SensingNode" "high" "I" ∈ zGW := zGW_in 222 (by decide +kernel) rfl
theorem zw_224 : Cond.lays "ManagedBus$Bridge" "ManagedBus$SensingNode" "slack" "I" ∈ zGW := zGW_in 224 (by decide +kernel) rfl
theorem zw_226 : Cond.laysFinal "ManagedBus$Bridge" "ManagedBus$SensingNode" "blockBytes" "[I" ∈ zGW := zGW_in 226 (by decide +kernel) rfl
theorem zw_228 : Cond.lays "ManagedBus$Bridge" "ManagedBus$SensingNode" "receiver" "I" ∈ zGW := zGW_in 228 (by decide +kernel) rfl
theorem zw_230 : Cond.lays "ManagedBus$Bridge" "ManagedBus$SensingNode" "eventCount" "I" ∈ zGW := zGW_in 230 (by decide +kernel) rfl
theorem zw_232 : Cond.laysFinal "ManagedBus$Bridge" "ManagedBus$SensingNode" "letter" "[I" ∈ zGW := zGW_in 232 (by decide +kernel) rfl
theorem zw_234 : Cond.laysFinal "ManagedBus$Bridge" "ManagedBus$Node" "port" "LManagedBus$Port;" ∈ zGW := zGW_in 234 (by decide +kernel) rfl
theorem zw_235 : Cond.lays "ManagedBus$Bridge" "ManagedBus$Node" "bus" "I" ∈ zGW := zGW_in 235 (by decide +kernel) rfl
theorem zw_236 : Cond.laysFinal "ManagedBus$Bridge" "ManagedBus$Node" "parts" "[LManagedBus$Part;" ∈ zGW := zGW_in 236 (by decide +kernel) rfl
theorem zw_238 : Cond.instantiable "ManagedBus$Bus" 7 ∈ zGW := zGW_in 238 (by decide +kernel) rfl
theorem zw_239 : Cond.methodLink "ManagedBus" 41 (zY 76) ∈ zGW := zGW_in 239 (by decide +kernel) rfl
theorem zw_240 : Cond.instanceMethod (zY 76) ∈ zGW := zGW_in 240 (by decide +kernel) rfl
set_option maxRecDepth 100000 in
theorem zw_241 : Cond.code (zY 76) (zB 76) (zL 76) (zRe 76) ∈ zGW := zGW_in 241 rfl rfl
theorem zw_242 : Cond.methodLink "ManagedBus$Bus" 3 Lib.objectInit ∈ zGW := zGW_in 242 (by decide +kernel) rfl
theorem zw_243 : Cond.classLink "ManagedBus$Bus" 9 "ManagedBus$Port" ∈ zGW := zGW_in 243 (by decide +kernel) rfl
theorem zw_245 : Cond.classLink "ManagedBus$Bus" 17 "ManagedBus$Enumeration" ∈ zGW := zGW_in 245 (by decide +kernel) rfl
theorem zw_246 : Cond.instantiable "ManagedBus$Enumeration" 8 ∈ zGW := zGW_in 246 (by decide +kernel) rfl
theorem zw_248 : Cond.instanceMethod (zY 87) ∈ zGW := zGW_in 248 (by decide +kernel) rfl
set_option maxRecDepth 100000 in
theorem zw_249 : Cond.code (zY 87) (zB 87) (zL 87) (zRe 87) ∈ zGW := zGW_in 249 rfl rfl
theorem zw_250 : Cond.methodLink "ManagedBus$Enumeration" 3 Lib.objectInit ∈ zGW := zGW_in 250 (by decide +kernel) rfl
theorem zw_251 : Cond.fieldLink "ManagedBus$Enumeration" 9 "ManagedBus$Enumeration" "state" "I" ∈ zGW := zGW_in 251 (by decide +kernel) rfl
theorem zw_252 : Cond.fieldLink "ManagedBus" 121 "ManagedBus$Enumeration" "state" "I" ∈ zGW := zGW_in 252 (by decide +kernel) rfl
theorem zw_253 : Cond.fieldLink "ManagedBus$Enumeration" 50 "ManagedBus$Enumeration" "assigned" "I" ∈ zGW := zGW_in 253 (by decide +kernel) rfl
theorem zw_254 : Cond.fieldLink "ManagedBus" 124 "ManagedBus$Enumeration" "assigned" "I" ∈ zGW := zGW_in 254 (by decide +kernel) rfl
theorem zw_255 : Cond.fieldLink "ManagedBus" 127 "ManagedBus$Enumeration" "tries" "I" ∈ zGW := zGW_in 255 (by decide +kernel) rfl
theorem zw_256 : Cond.fieldLink "ManagedBus$Enumeration" 106 "ManagedBus$Enumeration" "tries" "I" ∈ zGW := zGW_in 256 (by decide +kernel) rfl
theorem zw_257 : Cond.fieldLink "ManagedBus$Bus" 94 "ManagedBus$Enumeration" "bridgeAddress" "I" ∈ zGW := zGW_in 257 (by decide +kernel) rfl
theorem zw_258 : Cond.fieldLink "ManagedBus$Enumeration" 109 "ManagedBus$Enumeration" "bridgeAddress" "I" ∈ zGW := zGW_in 258 (by decide +kernel) rfl
theorem zw_259 : Cond.fieldLink "ManagedBus$Enumeration" 19 "ManagedBus$Enumeration" "stage" "I" ∈ zGW := zGW_in 259 (by decide +kernel) rfl
theorem zw_260 : Cond.fieldLink "ManagedBus$Enumeration" 60 "ManagedBus$Enumeration" "heard" "I" ∈ zGW := zGW_in 260 (by decide +kernel) rfl
theorem zw_261 : Cond.fieldLink "ManagedBus$Enumeration" 72 "ManagedBus$Enumeration" "setIndex" "I" ∈ zGW := zGW_in 261 (by decide +kernel) rfl
theorem zw_262 : Cond.fieldLink "ManagedBus$Enumeration" 53 "ManagedBus$Enumeration" "givenToBridge" "I" ∈ zGW := zGW_in 262 (by decide +kernel) rfl
theorem zw_263 : Cond.lays "ManagedBus$Enumeration" "ManagedBus$Enumeration" "state" "I" ∈ zGW := zGW_in 263 (by decide +kernel) rfl
theorem zw_265 : Cond.lays "ManagedBus$Enumeration" "ManagedBus$Enumeration" "assigned" "I" ∈ zGW := zGW_in 265 (by decide +kernel) rfl
theorem zw_267 : Cond.lays "ManagedBus$Enumeration" "ManagedBus$Enumeration" "tries" "I" ∈ zGW := zGW_in 267 (by decide +kernel) rfl
theorem zw_269 : Cond.lays "ManagedBus$Enumeration" "ManagedBus$Enumeration" "bridgeAddress" "I" ∈ zGW := zGW_in 269 (by decide +kernel) rfl
theorem zw_271 : Cond.lays "ManagedBus$Enumeration" "ManagedBus$Enumeration" "stage" "I" ∈ zGW := zGW_in 271 (by decide +kernel) rfl
theorem zw_273 : Cond.lays "ManagedBus$Enumeration" "ManagedBus$Enumeration" "heard" "I" ∈ zGW := zGW_in 273 (by decide +kernel) rfl
theorem zw_275 : Cond.lays "ManagedBus$Enumeration" "ManagedBus$Enumeration" "setIndex" "I" ∈ zGW := zGW_in 275 (by decide +kernel) rfl
theorem zw_277 : Cond.lays "ManagedBus$Enumeration" "ManagedBus$Enumeration" "givenToBridge" "I" ∈ zGW := zGW_in 277 (by decide +kernel) rfl
theorem zw_280 : Cond.classLink "ManagedBus$Bus" 24 "ManagedBus$Row" ∈ zGW := zGW_in 280 (by decide +kernel) rfl
theorem zw_281 : Cond.instantiable "ManagedBus$Row" 2 ∈ zGW := zGW_in 281 (by decide +kernel) rfl
theorem zw_283 : Cond.instanceMethod (zY 138) ∈ zGW := zGW_in 283 (by decide +kernel) rfl
set_option maxRecDepth 100000 in
theorem zw_284 : Cond.code (zY 138) (zB 138) (zL 138) (zRe 138) ∈ zGW := zGW_in 284 rfl rfl
theorem zw_285 : Cond.methodLink "ManagedBus$Row" 3 Lib.objectInit ∈ zGW := zGW_in 285 (by decide +kernel) rfl
theorem zw_286 : Cond.fieldLink "ManagedBus$Row" 9 "ManagedBus$Row" "bytes" "[I" ∈ zGW := zGW_in 286 (by decide +kernel) rfl
theorem zw_287 : Cond.fieldLink "ManagedBus$Bus" 44 "ManagedBus$Row" "bytes" "[I" ∈ zGW := zGW_in 287 (by decide +kernel) rfl
theorem zw_288 : Cond.fieldLink "ManagedBus" 215 "ManagedBus$Row" "bytes" "[I" ∈ zGW := zGW_in 288 (by decide +kernel) rfl
theorem zw_289 : Cond.fieldLink "ManagedBus$Row" 15 "ManagedBus$Row" "length" "I" ∈ zGW := zGW_in 289 (by decide +kernel) rfl
theorem zw_290 : Cond.fieldLink "ManagedBus$Bus" 41 "ManagedBus$Row" "length" "I" ∈ zGW := zGW_in 290 (by decide +kernel) rfl
theorem zw_291 : Cond.fieldLink "ManagedBus" 210 "ManagedBus$Row" "length" "I" ∈ zGW := zGW_in 291 (by decide +kernel) rfl
theorem zw_292 : Cond.laysFinal "ManagedBus$Row" "ManagedBus$Row" "bytes" "[I" ∈ zGW := zGW_in 292 (by decide +kernel) rfl
theorem zw_294 : Cond.lays "ManagedBus$Row" "ManagedBus$Row" "length" "I" ∈ zGW := zGW_in 294 (by decide +kernel) rfl
theorem zw_297 : Cond.fieldLink "ManagedBus$Bus" 38 "ManagedBus$Bus" "number" "I" ∈ zGW := zGW_in 297 (by decide +kernel) rfl
theorem zw_298 : Cond.fieldLink "ManagedBus" 243 "ManagedBus$Bus" "number" "I" ∈ zGW := zGW_in 298 (by decide +kernel) rfl
theorem zw_299 : Cond.fieldLink "ManagedBus$Bus" 11 "ManagedBus$Bus" "ports" "[LManagedBus$Port;" ∈ zGW := zGW_in 299 (by decide +kernel) rfl
theorem zw_300 : Cond.fieldLink "ManagedBus" 45 "ManagedBus$Bus" "ports" "[LManagedBus$Port;" ∈ zGW := zGW_in 300 (by decide +kernel) rfl
theorem zw_301 : Cond.fieldLink "ManagedBus$Bus" 20 "ManagedBus$Bus" "enumeration" "LManagedBus$Enumeration;" ∈ zGW := zGW_in 301 (by decide +kernel) rfl
theorem zw_302 : Cond.fieldLink "ManagedBus" 74 "ManagedBus$Bus" "enumeration" "LManagedBus$Enumeration;" ∈ zGW := zGW_in 302 (by decide +kernel) rfl
theorem zw_303 : Cond.fieldLink "ManagedBus$Bus" 27 "ManagedBus$Bus" "wire" "LManagedBus$Row;" ∈ zGW := zGW_in 303 (by decide +kernel) rfl
theorem zw_304 : Cond.fieldLink "ManagedBus$Enumeration" 75 "ManagedBus$Bus" "wire" "LManagedBus$Row;" ∈ zGW := zGW_in 304 (by decide +kernel) rfl
theorem zw_305 : Cond.fieldLink "ManagedBus" 206 "ManagedBus$Bus" "wire" "LManagedBus$Row;" ∈ zGW := zGW_in 305 (by decide +kernel) rfl
theorem zw_306 : Cond.fieldLink "ManagedBus$Bus" 31 "ManagedBus$Bus" "noisePlace" "I" ∈ zGW := zGW_in 306 (by decide +kernel) rfl
theorem zw_307 : Cond.fieldLink "ManagedBus" 87 "ManagedBus$Bus" "noisePlace" "I" ∈ zGW := zGW_in 307 (by decide +kernel) rfl
theorem zw_308 : Cond.fieldLink "ManagedBus$Bus" 48 "ManagedBus$Bus" "noiseMask" "I" ∈ zGW := zGW_in 308 (by decide +kernel) rfl
theorem zw_309 : Cond.fieldLink "ManagedBus" 90 "ManagedBus$Bus" "noiseMask" "I" ∈ zGW := zGW_in 309 (by decide +kernel) rfl
theorem zw_310 : Cond.fieldLink "ManagedBus$Bus" 35 "ManagedBus$Bus" "candidate" "LManagedBus$Row;" ∈ zGW := zGW_in 310 (by decide +kernel) rfl
theorem zw_311 : Cond.laysFinal "ManagedBus$Bus" "ManagedBus$Bus" "number" "I" ∈ zGW := zGW_in 311 (by decide +kernel) rfl
theorem zw_313 : Cond.laysFinal "ManagedBus$Bus" "ManagedBus$Bus" "ports" "[LManagedBus$Port;" ∈ zGW := zGW_in 313 (by decide +kernel) rfl
theorem zw_315 : Cond.laysFinal "ManagedBus$Bus" "ManagedBus$Bus" "enumeration" "LManagedBus$Enumeration;" ∈ zGW := zGW_in 315 (by decide +kernel) rfl
theorem zw_317 : Cond.laysFinal "ManagedBus$Bus" "ManagedBus$Bus" "wire" "LManagedBus$Row;" ∈ zGW := zGW_in 317 (by decide +kernel) rfl
theorem zw_319 : Cond.lays "ManagedBus$Bus" "ManagedBus$Bus" "noisePlace" "I" ∈ zGW := zGW_in 319 (by decide +kernel) rfl
theorem zw_321 : Cond.lays "ManagedBus$Bus" "ManagedBus$Bus" "noiseMask" "I" ∈ zGW := zGW_in 321 (by decide +kernel) rfl
theorem zw_323 : Cond.laysFinal "ManagedBus$Bus" "ManagedBus$Bus" "candidate" "LManagedBus$Row;" ∈ zGW := zGW_in 323 (by decide +kernel) rfl
theorem zw_326 : Cond.instantiable "ManagedBus$SensingNode" 12 ∈ zGW := zGW_in 326 (by decide +kernel) rfl
theorem zw_327 : Cond.methodLink "ManagedBus" 44 (zY 146) ∈ zGW := zGW_in 327 (by decide +kernel) rfl
theorem zw_328 : Cond.lays "ManagedBus$SensingNode" "ManagedBus$SensingNode" "value" "I" ∈ zGW := zGW_in 328 (by decide +kernel) rfl
theorem zw_329 : Cond.lays "ManagedBus$SensingNode" "ManagedBus$SensingNode" "state" "I" ∈ zGW := zGW_in 329 (by decide +kernel) rfl
theorem zw_330 : Cond.lays "ManagedBus$SensingNode" "ManagedBus$SensingNode" "low" "I" ∈ zGW := zGW_in 330 (by decide +kernel) rfl
theorem zw_331 : Cond.lays "ManagedBus$SensingNode" "ManagedBus$SensingNode" "high" "I" ∈ zGW := zGW_in 331 (by decide +kernel) rfl
theorem zw_332 : Cond.lays "ManagedBus$SensingNode" "ManagedBus$SensingNode" "slack" "I" ∈ zGW := zGW_in 332 (by decide +kernel) rfl
theorem zw_333 : Cond.laysFinal "ManagedBus$SensingNode" "ManagedBus$SensingNode" "blockBytes" "[I" ∈ zGW := zGW_in 333 (by decide +kernel) rfl
theorem zw_334 : Cond.lays "ManagedBus$SensingNode" "ManagedBus$SensingNode" "receiver" "I" ∈ zGW := zGW_in 334 (by decide +kernel) rfl
theorem zw_335 : Cond.lays "ManagedBus$SensingNode" "ManagedBus$SensingNode" "eventCount" "I" ∈ zGW := zGW_in 335 (by decide +kernel) rfl
theorem zw_336 : Cond.laysFinal "ManagedBus$SensingNode" "ManagedBus$SensingNode" "letter" "[I" ∈ zGW := zGW_in 336 (by decide +kernel) rfl
theorem zw_337 : Cond.laysFinal "ManagedBus$SensingNode" "ManagedBus$Node" "port" "LManagedBus$Port;" ∈ zGW := zGW_in 337 (by decide +kernel) rfl
theorem zw_338 : Cond.lays "ManagedBus$SensingNode" "ManagedBus$Node" "bus" "I" ∈ zGW := zGW_in 338 (by decide +kernel) rfl
theorem zw_339 : Cond.laysFinal "ManagedBus$SensingNode" "ManagedBus$Node" "parts" "[LManagedBus$Part;" ∈ zGW := zGW_in 339 (by decide +kernel) rfl
theorem zw_341 : Cond.fieldLink "ManagedBus" 11 "ManagedBus" "buses" "[LManagedBus$Bus;" ∈ zGW := zGW_in 341 (by decide +kernel) rfl
theorem zw_342 : Cond.fieldLink "ManagedBus" 17 "ManagedBus" "nodes" "[LManagedBus$Node;" ∈ zGW := zGW_in 342 (by decide +kernel) rfl
theorem zw_343 : Cond.fieldLink "ManagedBus" 23 "ManagedBus" "sensingNodes" "[LManagedBus$SensingNode;" ∈ zGW := zGW_in 343 (by decide +kernel) rfl
theorem zw_344 : Cond.fieldLink "ManagedBus" 30 "ManagedBus" "manager" "LManagedBus$Manager;" ∈ zGW := zGW_in 344 (by decide +kernel) rfl
theorem zw_345 : Cond.fieldLink "ManagedBus" 37 "ManagedBus" "bridge" "LManagedBus$Bridge;" ∈ zGW := zGW_in 345 (by decide +kernel) rfl
theorem zw_346 : Cond.fieldLink "ManagedBus" 93 "ManagedBus" "clock" "I" ∈ zGW := zGW_in 346 (by decide +kernel) rfl
theorem zw_347 : Cond.laysFinal "ManagedBus" "ManagedBus" "buses" "[LManagedBus$Bus;" ∈ zGW := zGW_in 347 (by decide +kernel) rfl
theorem zw_349 : Cond.laysFinal "ManagedBus" "ManagedBus" "nodes" "[LManagedBus$Node;" ∈ zGW := zGW_in 349 (by decide +kernel) rfl
theorem zw_351 : Cond.laysFinal "ManagedBus" "ManagedBus" "sensingNodes" "[LManagedBus$SensingNode;" ∈ zGW := zGW_in 351 (by decide +kernel) rfl
theorem zw_353 : Cond.laysFinal "ManagedBus" "ManagedBus" "manager" "LManagedBus$Manager;" ∈ zGW := zGW_in 353 (by decide +kernel) rfl
theorem zw_355 : Cond.laysFinal "ManagedBus" "ManagedBus" "bridge" "LManagedBus$Bridge;" ∈ zGW := zGW_in 355 (by decide +kernel) rfl
theorem zw_357 : Cond.lays "ManagedBus" "ManagedBus" "clock" "I" ∈ zGW := zGW_in 357 (by decide +kernel) rfl
theorem zw_360 : Cond.methodLink "ManagedBusLaw" 13 (zY 1) ∈ zGW := zGW_in 360 (by decide +kernel) rfl
theorem zw_361 : Cond.instanceMethod (zY 1) ∈ zGW := zGW_in 361 (by decide +kernel) rfl
theorem zw_362 : Cond.selects "ManagedBus" (zY 1) (zY 1) ∈ zGW := zGW_in 362 (by decide +kernel) rfl
set_option maxRecDepth 100000 in
theorem zw_363 : Cond.code (zY 1) (zB 1) (zL 1) (zRe 1) ∈ zGW := zGW_in 363 rfl rfl
theorem zw_364 : Cond.methodLink "ManagedBus" 57 (zY 18) ∈ zGW := zGW_in 364 (by decide +kernel) rfl
theorem zw_365 : Cond.static (zY 18) ∈ zGW := zGW_in 365 (by decide +kernel) rfl
set_option maxRecDepth 100000 in
theorem zw_366 : Cond.code (zY 18) (zB 18) (zL 18) (zRe 18) ∈ zGW := zGW_in 366 rfl rfl
theorem zw_367 : Cond.methodLink "ManagedBus" 65 (zY 17) ∈ zGW := zGW_in 367 (by decide +kernel) rfl
theorem zw_368 : Cond.static (zY 17) ∈ zGW := zGW_in 368 (by decide +kernel) rfl
set_option maxRecDepth 100000 in
theorem zw_369 : Cond.code (zY 17) (zB 17) (zL 17) (zRe 17) ∈ zGW := zGW_in 369 rfl rfl
theorem zw_370 : Cond.constant "ManagedBus" 68 (zI 65535) ∈ zGW := zGW_in 370 (by decide +kernel) rfl
theorem zw_371 : Cond.methodLink "ManagedBus" 69 (zY 147) ∈ zGW := zGW_in 371 (by decide +kernel) rfl
theorem zw_372 : Cond.instanceMethod (zY 147) ∈ zGW := zGW_in 372 (by decide +kernel) rfl
theorem zw_373 : Cond.selects "ManagedBus$SensingNode" (zY 147) (zY 147) ∈ zGW := zGW_in 373 (by decide +kernel) rfl
theorem zw_375 : Cond.selects "ManagedBus$Bridge" (zY 147) (zY 147) ∈ zGW := zGW_in 375 (by decide +kernel) rfl
set_option maxRecDepth 100000 in
theorem zw_376 : Cond.code (zY 147) (zB 147) (zL 147) (zRe 147) ∈ zGW := zGW_in 376 rfl rfl
theorem zw_377 : Cond.methodLink "ManagedBus$SensingNode" 35 (zY 128) ∈ zGW := zGW_in 377 (by decide +kernel) rfl
theorem zw_378 : Cond.instanceMethod (zY 128) ∈ zGW := zGW_in 378 (by decide +kernel) rfl
theorem zw_379 : Cond.selects "ManagedBus$Port" (zY 128) (zY 128) ∈ zGW := zGW_in 379 (by decide +kernel) rfl
set_option maxRecDepth 100000 in
theorem zw_380 : Cond.code (zY 128) (zB 128) (zL 128) (zRe 128) ∈ zGW := zGW_in 380 rfl rfl
theorem zw_381 : Cond.methodLink "ManagedBus$SensingNode" 41 ⟨"ManagedBus$SensingNode", "forgetParts", "()V"⟩ ∈ zGW := zGW_in 381 (by decide +kernel) rfl
theorem zw_382 : Cond.sameMethod "ManagedBus$SensingNode" "ManagedBus$Node" "forgetParts" "()V" ∈ zGW := zGW_in 382 (by decide +kernel) rfl
theorem zw_384 : Cond.selects "ManagedBus$Bridge" ⟨"ManagedBus$SensingNode", "forgetParts", "()V"⟩ (zY 115) ∈ zGW := zGW_in 384 (by decide +kernel) rfl
theorem zw_385 : Cond.selects "ManagedBus$SensingNode" ⟨"ManagedBus$SensingNode", "forgetParts", "()V"⟩ (zY 115) ∈ zGW := zGW_in 385 (by decide +kernel) rfl
theorem zw_386 : Cond.instanceMethod (zY 115) ∈ zGW := zGW_in 386 (by decide +kernel) rfl
set_option maxRecDepth 100000 in
theorem zw_387 : Cond.code (zY 115) (zB 115) (zL 115) (zRe 115) ∈ zGW := zGW_in 387 rfl rfl
theorem zw_388 : Cond.methodLink "ManagedBus$SensingNode" 57 (zY 157) ∈ zGW := zGW_in 388 (by decide +kernel) rfl
theorem zw_389 : Cond.static (zY 157) ∈ zGW := zGW_in 389 (by decide +kernel) rfl
set_option maxRecDepth 100000 in
theorem zw_390 : Cond.code (zY 157) (zB 157) (zL 157) (zRe 157) ∈ zGW := zGW_in 390 rfl rfl
theorem zw_391 : Cond.methodLink "ManagedBusLaw" 18 (zY 2) ∈ zGW := zGW_in 391 (by decide +kernel) rfl
theorem zw_392 : Cond.instanceMethod (zY 2) ∈ zGW := zGW_in 392 (by decide +kernel) rfl
theorem zw_393 : Cond.selects "ManagedBus" (zY 2) (zY 2) ∈ zGW := zGW_in 393 (by decide +kernel) rfl
set_option maxRecDepth 100000 in
theorem zw_394 : Cond.code (zY 2) (zB 2) (zL 2) (zRe 2) ∈ zGW := zGW_in 394 rfl rfl
theorem zw_395 : Cond.methodLink "ManagedBusLaw" 23 (zY 3) ∈ zGW := zGW_in 395 (by decide +kernel) rfl
theorem zw_396 : Cond.instanceMethod (zY 3) ∈ zGW := zGW_in 396 (by decide +kernel) rfl
theorem zw_397 : Cond.selects "ManagedBus" (zY 3) (zY 3) ∈ zGW := zGW_in 397 (by decide +kernel) rfl
set_option maxRecDepth 100000 in
theorem zw_398 : Cond.code (zY 3) (zB 3) (zL 3) (zRe 3) ∈ zGW := zGW_in 398 rfl rfl
theorem zw_399 : Cond.methodLink "ManagedBus" 78 (zY 88) ∈ zGW := zGW_in 399 (by decide +kernel) rfl
theorem zw_400 : Cond.instanceMethod (zY 88) ∈ zGW := zGW_in 400 (by decide +kernel) rfl
theorem zw_401 : Cond.selects "ManagedBus$Enumeration" (zY 88) (zY 88) ∈ zGW := zGW_in 401 (by decide +kernel) rfl
set_option maxRecDepth 100000 in
theorem zw_402 : Cond.code (zY 88) (zB 88) (zL 88) (zRe 88) ∈ zGW := zGW_in 402 rfl rfl
theorem zw_403 : Cond.methodLink "ManagedBus" 84 (zY 89) ∈ zGW := zGW_in 403 (by decide +kernel) rfl
theorem zw_404 : Cond.instanceMethod (zY 89) ∈ zGW := zGW_in 404 (by decide +kernel) rfl
theorem zw_405 : Cond.selects "ManagedBus$Enumeration" (zY 89) (zY 89) ∈ zGW := zGW_in 405 (by decide +kernel) rfl
set_option maxRecDepth 100000 in
theorem zw_406 : Cond.code (zY 89) (zB 89) (zL 89) (zRe 89) ∈ zGW := zGW_in 406 rfl rfl
theorem zw_407 : Cond.methodLink "ManagedBus$Enumeration" 15 (zY 98) ∈ zGW := zGW_in 407 (by decide +kernel) rfl
theorem zw_409 : Cond.instanceMethod (zY 98) ∈ zGW := zGW_in 409 (by decide +kernel) rfl
set_option maxRecDepth 100000 in
theorem zw_410 : Cond.code (zY 98) (zB 98) (zL 98) (zRe 98) ∈ zGW := zGW_in 410 rfl rfl
theorem zw_411 : Cond.methodLink "ManagedBusLaw" 27 (zY 4) ∈ zGW := zGW_in 411 (by decide +kernel) rfl
theorem zw_412 : Cond.instanceMethod (zY 4) ∈ zGW := zGW_in 412 (by decide +kernel) rfl
theorem zw_413 : Cond.selects "ManagedBus" (zY 4) (zY 4) ∈ zGW := zGW_in 413 (by decide +kernel) rfl
set_option maxRecDepth 100000 in
theorem zw_414 : Cond.code (zY 4) (zB 4) (zL 4) (zRe 4) ∈ zGW := zGW_in 414 rfl rfl
theorem zw_415 : Cond.methodLink "ManagedBusLaw" 31 (zY 5) ∈ zGW := zGW_in 415 (by decide +kernel) rfl
theorem zw_416 : Cond.instanceMethod (zY 5) ∈ zGW := zGW_in 416 (by decide +kernel) rfl
theorem zw_417 : Cond.selects "ManagedBus" (zY 5) (zY 5) ∈ zGW := zGW_in 417 (by decide +kernel) rfl
set_option maxRecDepth 100000 in
theorem zw_418 : Cond.code (zY 5) (zB 5) (zL 5) (zRe 5) ∈ zGW := zGW_in 418 rfl rfl
theorem zw_419 : Cond.methodLink "ManagedBus" 96 (zY 20) ∈ zGW := zGW_in 419 (by decide +kernel) rfl
theorem zw_421 : Cond.instanceMethod (zY 20) ∈ zGW := zGW_in 421 (by decide +kernel) rfl
set_option maxRecDepth 100000 in
theorem zw_422 : Cond.code (zY 20) (zB 20) (zL 20) (zRe 20) ∈ zGW := zGW_in 422 rfl rfl
theorem zw_423 : Cond.methodLink "ManagedBus" 219 (zY 90) ∈ zGW := zGW_in 423 (by decide +kernel) rfl
theorem zw_424 : Cond.instanceMethod (zY 90) ∈ zGW := zGW_in 424 (by decide +kernel) rfl
theorem zw_425 : Cond.selects "ManagedBus$Enumeration" (zY 90) (zY 90) ∈ zGW := zGW_in 425 (by decide +kernel) rfl
set_option maxRecDepth 100000 in
theorem zw_426 : Cond.code (zY 90) (zB 90) (zL 90) (zRe 90) ∈ zGW := zGW_in 426 rfl rfl
theorem zw_427 : Cond.methodLink "ManagedBus$Enumeration" 22 (zY 91) ∈ zGW := zGW_in 427 (by decide +kernel) rfl
theorem zw_429 : Cond.instanceMethod (zY 91) ∈ zGW := zGW_in 429 (by decide +kernel) rfl
set_option maxRecDepth 100000 in
theorem zw_430 : Cond.code (zY 91) (zB 91) (zL 91) (zRe 91) ∈ zGW := zGW_in 430 rfl rfl
theorem zw_431 : Cond.methodLink "ManagedBus$Enumeration" 47 (zY 84) ∈ zGW := zGW_in 431 (by decide +kernel) rfl
theorem zw_432 : Cond.instanceMethod (zY 84) ∈ zGW := zGW_in 432 (by decide +kernel) rfl
theorem zw_433 : Cond.selects "ManagedBus$Bus" (zY 84) (zY 84) ∈ zGW := zGW_in 433 (by decide +kernel) rfl
set_option maxRecDepth 100000 in
theorem zw_434 : Cond.code (zY 84) (zB 84) (zL 84) (zRe 84) ∈ zGW := zGW_in 434 rfl rfl
theorem zw_435 : Cond.methodLink "ManagedBus$Enumeration" 26 (zY 92) ∈ zGW := zGW_in 435 (by decide +kernel) rfl
theorem zw_437 : Cond.instanceMethod (zY 92) ∈ zGW := zGW_in 437 (by decide +kernel) rfl
set_option maxRecDepth 100000 in
theorem zw_438 : Cond.code (zY 92) (zB 92) (zL 92) (zRe 92) ∈ zGW := zGW_in 438 rfl rfl
theorem zw_439 : Cond.methodLink "ManagedBus$Enumeration" 56 (zY 83) ∈ zGW := zGW_in 439 (by decide +kernel) rfl
theorem zw_440 : Cond.instanceMethod (zY 83) ∈ zGW := zGW_in 440 (by decide +kernel) rfl
theorem zw_441 : Cond.selects "ManagedBus$Bus" (zY 83) (zY 83) ∈ zGW := zGW_in 441 (by decide +kernel) rfl
set_option maxRecDepth 100000 in
theorem zw_442 : Cond.code (zY 83) (zB 83) (zL 83) (zRe 83) ∈ zGW := zGW_in 442 rfl rfl
theorem zw_443 : Cond.methodLink "ManagedBus$Enumeration" 63 (zY 93) ∈ zGW := zGW_in 443 (by decide +kernel) rfl
theorem zw_445 : Cond.instanceMethod (zY 93) ∈ zGW := zGW_in 445 (by decide +kernel) rfl
set_option maxRecDepth 100000 in
theorem zw_446 : Cond.code (zY 93) (zB 93) (zL 93) (zRe 93) ∈ zGW := zGW_in 446 rfl rfl
theorem zw_447 : Cond.methodLink "ManagedBus$Enumeration" 69 (zY 100) ∈ zGW := zGW_in 447 (by decide +kernel) rfl
theorem zw_449 : Cond.instanceMethod (zY 100) ∈ zGW := zGW_in 449 (by decide +kernel) rfl
set_option maxRecDepth 100000 in
theorem zw_450 : Cond.code (zY 100) (zB 100) (zL 100) (zRe 100) ∈ zGW := zGW_in 450 rfl rfl
theorem zw_451 : Cond.methodLink "ManagedBus$Enumeration" 66 (zY 101) ∈ zGW := zGW_in 451 (by decide +kernel) rfl
theorem zw_453 : Cond.instanceMethod (zY 101) ∈ zGW := zGW_in 453 (by decide +kernel) rfl
set_option maxRecDepth 100000 in
theorem zw_454 : Cond.code (zY 101) (zB 101) (zL 101) (zRe 101) ∈ zGW := zGW_in 454 rfl rfl
theorem zw_455 : Cond.methodLink "ManagedBus$Enumeration" 29 (zY 88) ∈ zGW := zGW_in 455 (by decide +kernel) rfl
theorem zw_456 : Cond.methodLink "ManagedBus$Enumeration" 33 (zY 94) ∈ zGW := zGW_in 456 (by decide +kernel) rfl
theorem zw_458 : Cond.instanceMethod (zY 94) ∈ zGW := zGW_in 458 (by decide +kernel) rfl
set_option maxRecDepth 100000 in
theorem zw_459 : Cond.code (zY 94) (zB 94) (zL 94) (zRe 94) ∈ zGW := zGW_in 459 rfl rfl
theorem zw_460 : Cond.methodLink "ManagedBus$Enumeration" 79 (zY 139) ∈ zGW := zGW_in 460 (by decide +kernel) rfl
theorem zw_461 : Cond.instanceMethod (zY 139) ∈ zGW := zGW_in 461 (by decide +kernel) rfl
theorem zw_462 : Cond.selects "ManagedBus$Row" (zY 139) (zY 139) ∈ zGW := zGW_in 462 (by decide +kernel) rfl
set_option maxRecDepth 100000 in
theorem zw_463 : Cond.code (zY 139) (zB 139) (zL 139) (zRe 139) ∈ zGW := zGW_in 463 rfl rfl
theorem zw_464 : Cond.methodLink "ManagedBus$Enumeration" 84 (zY 140) ∈ zGW := zGW_in 464 (by decide +kernel) rfl
theorem zw_465 : Cond.instanceMethod (zY 140) ∈ zGW := zGW_in 465 (by decide +kernel) rfl
theorem zw_466 : Cond.selects "ManagedBus$Row" (zY 140) (zY 140) ∈ zGW := zGW_in 466 (by decide +kernel) rfl
set_option maxRecDepth 100000 in
theorem zw_467 : Cond.code (zY 140) (zB 140) (zL 140) (zRe 140) ∈ zGW := zGW_in 467 rfl rfl
theorem zw_468 : Cond.methodLink "ManagedBus$Enumeration" 87 (zY 82) ∈ zGW := zGW_in 468 (by decide +kernel) rfl
theorem zw_469 : Cond.instanceMethod (zY 82) ∈ zGW := zGW_in 469 (by decide +kernel) rfl
theorem zw_470 : Cond.selects "ManagedBus$Bus" (zY 82) (zY 82) ∈ zGW := zGW_in 470 (by decide +kernel) rfl
set_option maxRecDepth 100000 in
theorem zw_471 : Cond.code (zY 82) (zB 82) (zL 82) (zRe 82) ∈ zGW := zGW_in 471 rfl rfl
theorem zw_472 : Cond.methodLink "ManagedBus$Enumeration" 90 (zY 141) ∈ zGW := zGW_in 472 (by decide +kernel) rfl
theorem zw_473 : Cond.instanceMethod (zY 141) ∈ zGW := zGW_in 473 (by decide +kernel) rfl
theorem zw_474 : Cond.selects "ManagedBus$Row" (zY 141) (zY 141) ∈ zGW := zGW_in 474 (by decide +kernel) rfl
set_option maxRecDepth 100000 in
theorem zw_475 : Cond.code (zY 141) (zB 141) (zL 141) (zRe 141) ∈ zGW := zGW_in 475 rfl rfl
theorem zw_476 : Cond.methodLink "ManagedBus$Row" 19 (zY 145) ∈ zGW := zGW_in 476 (by decide +kernel) rfl
theorem zw_478 : Cond.instanceMethod (zY 145) ∈ zGW := zGW_in 478 (by decide +kernel) rfl
set_option maxRecDepth 100000 in
theorem zw_479 : Cond.code (zY 145) (zB 145) (zL 145) (zRe 145) ∈ zGW := zGW_in 479 rfl rfl
theorem zw_480 : Cond.methodLink "ManagedBus$Row" 23 (zY 140) ∈ zGW := zGW_in 480 (by decide +kernel) rfl
theorem zw_481 : Cond.methodLink "ManagedBus$Enumeration" 36 (zY 77) ∈ zGW := zGW_in 481 (by decide +kernel) rfl
theorem zw_482 : Cond.instanceMethod (zY 77) ∈ zGW := zGW_in 482 (by decide +kernel) rfl
theorem zw_483 : Cond.selects "ManagedBus$Bus" (zY 77) (zY 77) ∈ zGW := zGW_in 483 (by decide +kernel) rfl
set_option maxRecDepth 100000 in
theorem zw_484 : Cond.code (zY 77) (zB 77) (zL 77) (zRe 77) ∈ zGW := zGW_in 484 rfl rfl
theorem zw_485 : Cond.methodLink "ManagedBus$Bus" 51 (zY 142) ∈ zGW := zGW_in 485 (by decide +kernel) rfl
theorem zw_486 : Cond.instanceMethod (zY 142) ∈ zGW := zGW_in 486 (by decide +kernel) rfl
theorem zw_487 : Cond.selects "ManagedBus$Row" (zY 142) (zY 142) ∈ zGW := zGW_in 487 (by decide +kernel) rfl
set_option maxRecDepth 100000 in
theorem zw_488 : Cond.code (zY 142) (zB 142) (zL 142) (zRe 142) ∈ zGW := zGW_in 488 rfl rfl
theorem zw_489 : Cond.methodLink "ManagedBus$Enumeration" 41 (zY 95) ∈ zGW := zGW_in 489 (by decide +kernel) rfl
theorem zw_491 : Cond.instanceMethod (zY 95) ∈ zGW := zGW_in 491 (by decide +kernel) rfl
set_option maxRecDepth 100000 in
theorem zw_492 : Cond.code (zY 95) (zB 95) (zL 95) (zRe 95) ∈ zGW := zGW_in 492 rfl rfl
theorem zw_493 : Cond.methodLink "ManagedBus$Enumeration" 93 (zY 96) ∈ zGW := zGW_in 493 (by decide +kernel) rfl
theorem zw_495 : Cond.instanceMethod (zY 96) ∈ zGW := zGW_in 495 (by decide +kernel) rfl
set_option maxRecDepth 100000 in
theorem zw_496 : Cond.code (zY 96) (zB 96) (zL 96) (zRe 96) ∈ zGW := zGW_in 496 rfl rfl
theorem zw_497 : Cond.methodLink "ManagedBus$Enumeration" 99 (zY 85) ∈ zGW := zGW_in 497 (by decide +kernel) rfl
theorem zw_498 : Cond.instanceMethod (zY 85) ∈ zGW := zGW_in 498 (by decide +kernel) rfl
theorem zw_499 : Cond.selects "ManagedBus$Bus" (zY 85) (zY 85) ∈ zGW := zGW_in 499 (by decide +kernel) rfl
set_option maxRecDepth 100000 in
theorem zw_500 : Cond.code (zY 85) (zB 85) (zL 85) (zRe 85) ∈ zGW := zGW_in 500 rfl rfl
theorem zw_501 : Cond.methodLink "ManagedBus$Enumeration" 96 (zY 97) ∈ zGW := zGW_in 501 (by decide +kernel) rfl
theorem zw_503 : Cond.instanceMethod (zY 97) ∈ zGW := zGW_in 503 (by decide +kernel) rfl
set_option maxRecDepth 100000 in
theorem zw_504 : Cond.code (zY 97) (zB 97) (zL 97) (zRe 97) ∈ zGW := zGW_in 504 rfl rfl
theorem zw_505 : Cond.methodLink "ManagedBus$Enumeration" 103 (zY 86) ∈ zGW := zGW_in 505 (by decide +kernel) rfl
theorem zw_506 : Cond.instanceMethod (zY 86) ∈ zGW := zGW_in 506 (by decide +kernel) rfl
theorem zw_507 : Cond.selects "ManagedBus$Bus" (zY 86) (zY 86) ∈ zGW := zGW_in 507 (by decide +kernel) rfl
set_option maxRecDepth 100000 in
theorem zw_508 : Cond.code (zY 86) (zB 86) (zL 86) (zRe 86) ∈ zGW := zGW_in 508 rfl rfl
theorem zw_509 : Cond.methodLink "ManagedBus$Enumeration" 44 (zY 99) ∈ zGW := zGW_in 509 (by decide +kernel) rfl
theorem zw_511 : Cond.instanceMethod (zY 99) ∈ zGW := zGW_in 511 (by decide +kernel) rfl
set_option maxRecDepth 100000 in
theorem zw_512 : Cond.code (zY 99) (zB 99) (zL 99) (zRe 99) ∈ zGW := zGW_in 512 rfl rfl
theorem zw_513 : Cond.methodLink "ManagedBus" 222 (zY 78) ∈ zGW := zGW_in 513 (by decide +kernel) rfl
theorem zw_514 : Cond.instanceMethod (zY 78) ∈ zGW := zGW_in 514 (by decide +kernel) rfl
theorem zw_515 : Cond.selects "ManagedBus$Bus" (zY 78) (zY 78) ∈ zGW := zGW_in 515 (by decide +kernel) rfl
set_option maxRecDepth 100000 in
theorem zw_516 : Cond.code (zY 78) (zB 78) (zL 78) (zRe 78) ∈ zGW := zGW_in 516 rfl rfl
theorem zw_517 : Cond.methodLink "ManagedBus$Bus" 55 (zY 79) ∈ zGW := zGW_in 517 (by decide +kernel) rfl
theorem zw_519 : Cond.instanceMethod (zY 79) ∈ zGW := zGW_in 519 (by decide +kernel) rfl
set_option maxRecDepth 100000 in
theorem zw_520 : Cond.code (zY 79) (zB 79) (zL 79) (zRe 79) ∈ zGW := zGW_in 520 rfl rfl
theorem zw_521 : Cond.methodLink "ManagedBus$Bus" 77 (zY 80) ∈ zGW := zGW_in 521 (by decide +kernel) rfl
theorem zw_523 : Cond.instanceMethod (zY 80) ∈ zGW := zGW_in 523 (by decide +kernel) rfl
set_option maxRecDepth 100000 in
theorem zw_524 : Cond.code (zY 80) (zB 80) (zL 80) (zRe 80) ∈ zGW := zGW_in 524 rfl rfl
theorem zw_525 : Cond.methodLink "ManagedBus$Bus" 85 (zY 130) ∈ zGW := zGW_in 525 (by decide +kernel) rfl
theorem zw_526 : Cond.instanceMethod (zY 130) ∈ zGW := zGW_in 526 (by decide +kernel) rfl
theorem zw_527 : Cond.selects "ManagedBus$Port" (zY 130) (zY 130) ∈ zGW := zGW_in 527 (by decide +kernel) rfl
set_option maxRecDepth 100000 in
theorem zw_528 : Cond.code (zY 130) (zB 130) (zL 130) (zRe 130) ∈ zGW := zGW_in 528 rfl rfl
theorem zw_529 : Cond.methodLink "ManagedBus$Bus" 59 (zY 81) ∈ zGW := zGW_in 529 (by decide +kernel) rfl
theorem zw_531 : Cond.instanceMethod (zY 81) ∈ zGW := zGW_in 531 (by decide +kernel) rfl
set_option maxRecDepth 100000 in
theorem zw_532 : Cond.code (zY 81) (zB 81) (zL 81) (zRe 81) ∈ zGW := zGW_in 532 rfl rfl
theorem zw_533 : Cond.methodLink "ManagedBus$Bus" 97 (zY 139) ∈ zGW := zGW_in 533 (by decide +kernel) rfl
theorem zw_534 : Cond.methodLink "ManagedBus$Bus" 100 (zY 140) ∈ zGW := zGW_in 534 (by decide +kernel) rfl
theorem zw_535 : Cond.methodLink "ManagedBus$Bus" 112 (zY 141) ∈ zGW := zGW_in 535 (by decide +kernel) rfl
theorem zw_536 : Cond.methodLink "ManagedBus$Bus" 63 (zY 143) ∈ zGW := zGW_in 536 (by decide +kernel) rfl
theorem zw_537 : Cond.instanceMethod (zY 143) ∈ zGW := zGW_in 537 (by decide +kernel) rfl
theorem zw_538 : Cond.selects "ManagedBus$Row" (zY 143) (zY 143) ∈ zGW := zGW_in 538 (by decide +kernel) rfl
set_option maxRecDepth 100000 in
theorem zw_539 : Cond.code (zY 143) (zB 143) (zL 143) (zRe 143) ∈ zGW := zGW_in 539 rfl rfl
theorem zw_540 : Cond.methodLink "ManagedBus$Row" 27 Lib.Math.min.name ∈ zGW := zGW_in 540 (by decide +kernel) rfl
theorem zw_541 : Cond.static Lib.Math.min.name ∈ zGW := zGW_in 541 (by decide +kernel) rfl
set_option maxRecDepth 100000 in
theorem zw_542 : Cond.code Lib.Math.min.name Lib.Math.min.code 2 (some .int) ∈ zGW := zGW_in 542 rfl rfl
theorem zw_543 : Cond.methodLink "ManagedBus$Bus" 67 (zY 144) ∈ zGW := zGW_in 543 (by decide +kernel) rfl
theorem zw_544 : Cond.instanceMethod (zY 144) ∈ zGW := zGW_in 544 (by decide +kernel) rfl
theorem zw_545 : Cond.selects "ManagedBus$Row" (zY 144) (zY 144) ∈ zGW := zGW_in 545 (by decide +kernel) rfl
set_option maxRecDepth 100000 in
theorem zw_546 : Cond.code (zY 144) (zB 144) (zL 144) (zRe 144) ∈ zGW := zGW_in 546 rfl rfl
theorem zw_547 : Cond.methodLink "ManagedBus$Row" 33 arraycopyName ∈ zGW := zGW_in 547 (by decide +kernel) rfl
theorem zw_548 : Cond.static arraycopyName ∈ zGW := zGW_in 548 (by decide +kernel) rfl
theorem zw_549 : Cond.native arraycopyName ∈ zGW := zGW_in 549 (by decide +kernel) rfl
theorem zw_550 : Cond.methodLink "ManagedBus" 226 (zY 77) ∈ zGW := zGW_in 550 (by decide +kernel) rfl
theorem zw_551 : Cond.methodLink "ManagedBus" 229 (zY 21) ∈ zGW := zGW_in 551 (by decide +kernel) rfl
theorem zw_553 : Cond.instanceMethod (zY 21) ∈ zGW := zGW_in 553 (by decide +kernel) rfl
set_option maxRecDepth 100000 in
theorem zw_554 : Cond.code (zY 21) (zB 21) (zL 21) (zRe 21) ∈ zGW := zGW_in 554 rfl rfl
theorem zw_555 : Cond.methodLink "ManagedBus" 239 (zY 130) ∈ zGW := zGW_in 555 (by decide +kernel) rfl
theorem zw_556 : Cond.methodLink "ManagedBus" 246 (zY 113) ∈ zGW := zGW_in 556 (by decide +kernel) rfl
theorem zw_557 : Cond.instanceMethod (zY 113) ∈ zGW := zGW_in 557 (by decide +kernel) rfl
theorem zw_559 : Cond.selects "ManagedBus$Bridge" (zY 113) (zY 113) ∈ zGW := zGW_in 559 (by decide +kernel) rfl
theorem zw_560 : Cond.selects "ManagedBus$Manager" (zY 113) (zY 113) ∈ zGW := zGW_in 560 (by decide +kernel) rfl
theorem zw_561 : Cond.selects "ManagedBus$SensingNode" (zY 113) (zY 113) ∈ zGW := zGW_in 561 (by decide +kernel) rfl
set_option maxRecDepth 100000 in
theorem zw_562 : Cond.code (zY 113) (zB 113) (zL 113) (zRe 113) ∈ zGW := zGW_in 562 rfl rfl
theorem zw_563 : Cond.methodLink "ManagedBus$Node" 38 (zY 112) ∈ zGW := zGW_in 563 (by decide +kernel) rfl
theorem zw_564 : Cond.instanceMethod (zY 112) ∈ zGW := zGW_in 564 (by decide +kernel) rfl
theorem zw_565 : Cond.sameMethod "ManagedBus$Node" "ManagedBus$Node" "passOn" "(LManagedBus$Packet;I)V" ∈ zGW := zGW_in 565 (by decide +kernel) rfl
theorem zw_566 : Cond.selects "ManagedBus$Bridge" (zY 112) (zY 75) ∈ zGW := zGW_in 566 (by decide +kernel) rfl
theorem zw_567 : Cond.instanceMethod (zY 75) ∈ zGW := zGW_in 567 (by decide +kernel) rfl
set_option maxRecDepth 100000 in
theorem zw_568 : Cond.code (zY 75) (zB 75) (zL 75) (zRe 75) ∈ zGW := zGW_in 568 rfl rfl
theorem zw_569 : Cond.methodLink "ManagedBus$Bridge" 32 (zY 129) ∈ zGW := zGW_in 569 (by decide +kernel) rfl
theorem zw_570 : Cond.instanceMethod (zY 129) ∈ zGW := zGW_in 570 (by decide +kernel) rfl
theorem zw_571 : Cond.selects "ManagedBus$Port" (zY 129) (zY 129) ∈ zGW := zGW_in 571 (by decide +kernel) rfl
set_option maxRecDepth 100000 in
theorem zw_572 : Cond.code (zY 129) (zB 129) (zL 129) (zRe 129) ∈ zGW := zGW_in 572 rfl rfl
theorem zw_573 : Cond.methodLink "ManagedBus$Bridge" 36 (zY 131) ∈ zGW := zGW_in 573 (by decide +kernel) rfl
theorem zw_574 : Cond.instanceMethod (zY 131) ∈ zGW := zGW_in 574 (by decide +kernel) rfl
theorem zw_575 : Cond.selects "ManagedBus$Port" (zY 131) (zY 131) ∈ zGW := zGW_in 575 (by decide +kernel) rfl
set_option maxRecDepth 100000 in
theorem zw_576 : Cond.code (zY 131) (zB 131) (zL 131) (zRe 131) ∈ zGW := zGW_in 576 rfl rfl
theorem zw_577 : Cond.methodLink "ManagedBus$Bridge" 46 (zY 117) ∈ zGW := zGW_in 577 (by decide +kernel) rfl
theorem zw_578 : Cond.instanceMethod (zY 117) ∈ zGW := zGW_in 578 (by decide +kernel) rfl
theorem zw_579 : Cond.selects "ManagedBus$Packet" (zY 117) (zY 117) ∈ zGW := zGW_in 579 (by decide +kernel) rfl
set_option maxRecDepth 100000 in
theorem zw_580 : Cond.code (zY 117) (zB 117) (zL 117) (zRe 117) ∈ zGW := zGW_in 580 rfl rfl
theorem zw_581 : Cond.methodLink "ManagedBus$Bridge" 57 (zY 118) ∈ zGW := zGW_in 581 (by decide +kernel) rfl
theorem zw_582 : Cond.instanceMethod (zY 118) ∈ zGW := zGW_in 582 (by decide +kernel) rfl
theorem zw_583 : Cond.selects "ManagedBus$Packet" (zY 118) (zY 118) ∈ zGW := zGW_in 583 (by decide +kernel) rfl
set_option maxRecDepth 100000 in
theorem zw_584 : Cond.code (zY 118) (zB 118) (zL 118) (zRe 118) ∈ zGW := zGW_in 584 rfl rfl
theorem zw_585 : Cond.methodLink "ManagedBus$Packet" 28 arraycopyName ∈ zGW := zGW_in 585 (by decide +kernel) rfl
theorem zw_586 : Cond.selects "ManagedBus$Manager" (zY 112) (zY 112) ∈ zGW := zGW_in 586 (by decide +kernel) rfl
theorem zw_587 : Cond.selects "ManagedBus$SensingNode" (zY 112) (zY 112) ∈ zGW := zGW_in 587 (by decide +kernel) rfl
set_option maxRecDepth 100000 in
theorem zw_588 : Cond.code (zY 112) (zB 112) (zL 112) (zRe 112) ∈ zGW := zGW_in 588 rfl rfl
theorem zw_589 : Cond.instantiable "ManagedBus$Part" 6 ∈ zGW := zGW_in 589 (by decide +kernel) rfl
theorem zw_590 : Cond.methodLink "ManagedBus$Node" 45 (zY 123) ∈ zGW := zGW_in 590 (by decide +kernel) rfl
theorem zw_591 : Cond.instanceMethod (zY 123) ∈ zGW := zGW_in 591 (by decide +kernel) rfl
set_option maxRecDepth 100000 in
theorem zw_592 : Cond.code (zY 123) (zB 123) (zL 123) (zRe 123) ∈ zGW := zGW_in 592 rfl rfl
theorem zw_593 : Cond.methodLink "ManagedBus$Part" 3 Lib.objectInit ∈ zGW := zGW_in 593 (by decide +kernel) rfl
theorem zw_594 : Cond.fieldLink "ManagedBus$Part" 15 "ManagedBus$Part" "source" "I" ∈ zGW := zGW_in 594 (by decide +kernel) rfl
theorem zw_595 : Cond.fieldLink "ManagedBus$Request" 34 "ManagedBus$Part" "source" "I" ∈ zGW := zGW_in 595 (by decide +kernel) rfl
theorem zw_596 : Cond.fieldLink "ManagedBus$SensingNode" 104 "ManagedBus$Part" "source" "I" ∈ zGW := zGW_in 596 (by decide +kernel) rfl
theorem zw_597 : Cond.fieldLink "ManagedBus$Manager" 90 "ManagedBus$Part" "source" "I" ∈ zGW := zGW_in 597 (by decide +kernel) rfl
theorem zw_598 : Cond.fieldLink "ManagedBus$Part" 19 "ManagedBus$Part" "kind" "I" ∈ zGW := zGW_in 598 (by decide +kernel) rfl
theorem zw_599 : Cond.fieldLink "ManagedBus$Request" 42 "ManagedBus$Part" "length" "I" ∈ zGW := zGW_in 599 (by decide +kernel) rfl
theorem zw_600 : Cond.fieldLink "ManagedBus$Part" 31 "ManagedBus$Part" "length" "I" ∈ zGW := zGW_in 600 (by decide +kernel) rfl
theorem zw_601 : Cond.fieldLink "ManagedBus$SensingNode" 101 "ManagedBus$Part" "length" "I" ∈ zGW := zGW_in 601 (by decide +kernel) rfl
theorem zw_602 : Cond.fieldLink "ManagedBus$Manager" 80 "ManagedBus$Part" "length" "I" ∈ zGW := zGW_in 602 (by decide +kernel) rfl
theorem zw_603 : Cond.fieldLink "ManagedBus$Part" 9 "ManagedBus$Part" "bytes" "[I" ∈ zGW := zGW_in 603 (by decide +kernel) rfl
theorem zw_604 : Cond.fieldLink "ManagedBus$Request" 48 "ManagedBus$Part" "bytes" "[I" ∈ zGW := zGW_in 604 (by decide +kernel) rfl
theorem zw_605 : Cond.fieldLink "ManagedBus$SensingNode" 85 "ManagedBus$Part" "bytes" "[I" ∈ zGW := zGW_in 605 (by decide +kernel) rfl
theorem zw_606 : Cond.fieldLink "ManagedBus$Manager" 83 "ManagedBus$Part" "bytes" "[I" ∈ zGW := zGW_in 606 (by decide +kernel) rfl
theorem zw_607 : Cond.fieldLink "ManagedBus$Part" 34 "ManagedBus$Part" "open" "Z" ∈ zGW := zGW_in 607 (by decide +kernel) rfl
theorem zw_608 : Cond.fieldLink "ManagedBus$Node" 74 "ManagedBus$Part" "open" "Z" ∈ zGW := zGW_in 608 (by decide +kernel) rfl
theorem zw_609 : Cond.fieldLink "ManagedBus$Part" 41 "ManagedBus$Part" "due" "I" ∈ zGW := zGW_in 609 (by decide +kernel) rfl
theorem zw_610 : Cond.laysFinal "ManagedBus$Part" "ManagedBus$Part" "source" "I" ∈ zGW := zGW_in 610 (by decide +kernel) rfl
theorem zw_612 : Cond.lays "ManagedBus$Part" "ManagedBus$Part" "kind" "I" ∈ zGW := zGW_in 612 (by decide +kernel) rfl
theorem zw_614 : Cond.lays "ManagedBus$Part" "ManagedBus$Part" "length" "I" ∈ zGW := zGW_in 614 (by decide +kernel) rfl
theorem zw_616 : Cond.laysFinal "ManagedBus$Part" "ManagedBus$Part" "bytes" "[I" ∈ zGW := zGW_in 616 (by decide +kernel) rfl
theorem zw_618 : Cond.lays "ManagedBus$Part" "ManagedBus$Part" "open" "Z" ∈ zGW := zGW_in 618 (by decide +kernel) rfl
theorem zw_620 : Cond.lays "ManagedBus$Part" "ManagedBus$Part" "due" "I" ∈ zGW := zGW_in 620 (by decide +kernel) rfl
theorem zw_623 : Cond.methodLink "ManagedBus$Node" 48 (zY 126) ∈ zGW := zGW_in 623 (by decide +kernel) rfl
theorem zw_624 : Cond.instanceMethod (zY 126) ∈ zGW := zGW_in 624 (by decide +kernel) rfl
theorem zw_625 : Cond.selects "ManagedBus$Part" (zY 126) (zY 126) ∈ zGW := zGW_in 625 (by decide +kernel) rfl
set_option maxRecDepth 100000 in
theorem zw_626 : Cond.code (zY 126) (zB 126) (zL 126) (zRe 126) ∈ zGW := zGW_in 626 rfl rfl
theorem zw_627 : Cond.methodLink "ManagedBus$Part" 22 (zY 119) ∈ zGW := zGW_in 627 (by decide +kernel) rfl
theorem zw_628 : Cond.instanceMethod (zY 119) ∈ zGW := zGW_in 628 (by decide +kernel) rfl
theorem zw_629 : Cond.selects "ManagedBus$Packet" (zY 119) (zY 119) ∈ zGW := zGW_in 629 (by decide +kernel) rfl
set_option maxRecDepth 100000 in
theorem zw_630 : Cond.code (zY 119) (zB 119) (zL 119) (zRe 119) ∈ zGW := zGW_in 630 rfl rfl
theorem zw_631 : Cond.methodLink "ManagedBus$Part" 28 (zY 122) ∈ zGW := zGW_in 631 (by decide +kernel) rfl
theorem zw_632 : Cond.instanceMethod (zY 122) ∈ zGW := zGW_in 632 (by decide +kernel) rfl
theorem zw_633 : Cond.selects "ManagedBus$Packet" (zY 122) (zY 122) ∈ zGW := zGW_in 633 (by decide +kernel) rfl
set_option maxRecDepth 100000 in
theorem zw_634 : Cond.code (zY 122) (zB 122) (zL 122) (zRe 122) ∈ zGW := zGW_in 634 rfl rfl
theorem zw_635 : Cond.methodLink "ManagedBus$Part" 38 (zY 121) ∈ zGW := zGW_in 635 (by decide +kernel) rfl
theorem zw_636 : Cond.instanceMethod (zY 121) ∈ zGW := zGW_in 636 (by decide +kernel) rfl
theorem zw_637 : Cond.selects "ManagedBus$Packet" (zY 121) (zY 121) ∈ zGW := zGW_in 637 (by decide +kernel) rfl
set_option maxRecDepth 100000 in
theorem zw_638 : Cond.code (zY 121) (zB 121) (zL 121) (zRe 121) ∈ zGW := zGW_in 638 rfl rfl
theorem zw_639 : Cond.methodLink "ManagedBus$Part" 46 arraycopyName ∈ zGW := zGW_in 639 (by decide +kernel) rfl
theorem zw_640 : Cond.methodLink "ManagedBus$Part" 52 (zY 120) ∈ zGW := zGW_in 640 (by decide +kernel) rfl
theorem zw_641 : Cond.instanceMethod (zY 120) ∈ zGW := zGW_in 641 (by decide +kernel) rfl
theorem zw_642 : Cond.selects "ManagedBus$Packet" (zY 120) (zY 120) ∈ zGW := zGW_in 642 (by decide +kernel) rfl
set_option maxRecDepth 100000 in
theorem zw_643 : Cond.code (zY 120) (zB 120) (zL 120) (zRe 120) ∈ zGW := zGW_in 643 rfl rfl
theorem zw_644 : Cond.methodLink "ManagedBus" 250 ⟨"ManagedBus$Node", "receive", "(LManagedBus$Part;)V"⟩ ∈ zGW := zGW_in 644 (by decide +kernel) rfl
theorem zw_646 : Cond.sameMethod "ManagedBus$Node" "ManagedBus$Node" "receive" "(LManagedBus$Part;)V" ∈ zGW := zGW_in 646 (by decide +kernel) rfl
theorem zw_647 : Cond.selects "ManagedBus$Bridge" ⟨"ManagedBus$Node", "receive", "(LManagedBus$Part;)V"⟩ (zY 150) ∈ zGW := zGW_in 647 (by decide +kernel) rfl
theorem zw_648 : Cond.instanceMethod (zY 150) ∈ zGW := zGW_in 648 (by decide +kernel) rfl
set_option maxRecDepth 100000 in
theorem zw_649 : Cond.code (zY 150) (zB 150) (zL 150) (zRe 150) ∈ zGW := zGW_in 649 rfl rfl
theorem zw_650 : Cond.methodLink "ManagedBus$SensingNode" 75 (zY 124) ∈ zGW := zGW_in 650 (by decide +kernel) rfl
theorem zw_651 : Cond.instanceMethod (zY 124) ∈ zGW := zGW_in 651 (by decide +kernel) rfl
theorem zw_652 : Cond.selects "ManagedBus$Part" (zY 124) (zY 124) ∈ zGW := zGW_in 652 (by decide +kernel) rfl
set_option maxRecDepth 100000 in
theorem zw_653 : Cond.code (zY 124) (zB 124) (zL 124) (zRe 124) ∈ zGW := zGW_in 653 rfl rfl
theorem zw_654 : Cond.methodLink "ManagedBus$SensingNode" 81 (zY 151) ∈ zGW := zGW_in 654 (by decide +kernel) rfl
theorem zw_655 : Cond.static (zY 151) ∈ zGW := zGW_in 655 (by decide +kernel) rfl
set_option maxRecDepth 100000 in
theorem zw_656 : Cond.code (zY 151) (zB 151) (zL 151) (zRe 151) ∈ zGW := zGW_in 656 rfl rfl
theorem zw_657 : Cond.methodLink "ManagedBus$SensingNode" 110 (zY 152) ∈ zGW := zGW_in 657 (by decide +kernel) rfl
theorem zw_658 : Cond.static (zY 152) ∈ zGW := zGW_in 658 (by decide +kernel) rfl
set_option maxRecDepth 100000 in
theorem zw_659 : Cond.code (zY 152) (zB 152) (zL 152) (zRe 152) ∈ zGW := zGW_in 659 rfl rfl
theorem zw_660 : Cond.methodLink "ManagedBus$SensingNode" 67 (zY 154) ∈ zGW := zGW_in 660 (by decide +kernel) rfl
theorem zw_662 : Cond.instanceMethod (zY 154) ∈ zGW := zGW_in 662 (by decide +kernel) rfl
set_option maxRecDepth 100000 in
theorem zw_663 : Cond.code (zY 154) (zB 154) (zL 154) (zRe 154) ∈ zGW := zGW_in 663 rfl rfl
theorem zw_664 : Cond.methodLink "ManagedBus$SensingNode" 88 (zY 153) ∈ zGW := zGW_in 664 (by decide +kernel) rfl
theorem zw_666 : Cond.instanceMethod (zY 153) ∈ zGW := zGW_in 666 (by decide +kernel) rfl
set_option maxRecDepth 100000 in
theorem zw_667 : Cond.code (zY 153) (zB 153) (zL 153) (zRe 153) ∈ zGW := zGW_in 667 rfl rfl
theorem zw_669 : Cond.static (zY 22) ∈ zGW := zGW_in 669 (by decide +kernel) rfl
set_option maxRecDepth 100000 in
theorem zw_670 : Cond.code (zY 22) (zB 22) (zL 22) (zRe 22) ∈ zGW := zGW_in 670 rfl rfl
theorem zw_671 : Cond.methodLink "ManagedBus$SensingNode" 92 (zY 148) ∈ zGW := zGW_in 671 (by decide +kernel) rfl
theorem zw_672 : Cond.instanceMethod (zY 148) ∈ zGW := zGW_in 672 (by decide +kernel) rfl
theorem zw_673 : Cond.selects "ManagedBus$SensingNode" (zY 148) (zY 148) ∈ zGW := zGW_in 673 (by decide +kernel) rfl
theorem zw_675 : Cond.selects "ManagedBus$Bridge" (zY 148) (zY 148) ∈ zGW := zGW_in 675 (by decide +kernel) rfl
set_option maxRecDepth 100000 in
theorem zw_676 : Cond.code (zY 148) (zB 148) (zL 148) (zRe 148) ∈ zGW := zGW_in 676 rfl rfl
theorem zw_677 : Cond.methodLink "ManagedBus$SensingNode" 63 (zY 149) ∈ zGW := zGW_in 677 (by decide +kernel) rfl
theorem zw_679 : Cond.instanceMethod (zY 149) ∈ zGW := zGW_in 679 (by decide +kernel) rfl
set_option maxRecDepth 100000 in
theorem zw_680 : Cond.code (zY 149) (zB 149) (zL 149) (zRe 149) ∈ zGW := zGW_in 680 rfl rfl
theorem zw_681 : Cond.methodLink "ManagedBus$SensingNode" 71 ⟨"ManagedBus$SensingNode", "send", "(II[II)V"⟩ ∈ zGW := zGW_in 681 (by decide +kernel) rfl
theorem zw_682 : Cond.sameMethod "ManagedBus$SensingNode" "ManagedBus$Node" "send" "(II[II)V" ∈ zGW := zGW_in 682 (by decide +kernel) rfl
theorem zw_684 : Cond.selects "ManagedBus$Bridge" ⟨"ManagedBus$SensingNode", "send", "(II[II)V"⟩ (zY 114) ∈ zGW := zGW_in 684 (by decide +kernel) rfl
theorem zw_685 : Cond.selects "ManagedBus$SensingNode" ⟨"ManagedBus$SensingNode", "send", "(II[II)V"⟩ (zY 114) ∈ zGW := zGW_in 685 (by decide +kernel) rfl
theorem zw_686 : Cond.instanceMethod (zY 114) ∈ zGW := zGW_in 686 (by decide +kernel) rfl
set_option maxRecDepth 100000 in
theorem zw_687 : Cond.code (zY 114) (zB 114) (zL 114) (zRe 114) ∈ zGW := zGW_in 687 rfl rfl
theorem zw_688 : Cond.methodLink "ManagedBus$Node" 52 (zY 129) ∈ zGW := zGW_in 688 (by decide +kernel) rfl
theorem zw_689 : Cond.methodLink "ManagedBus$Node" 56 (zY 131) ∈ zGW := zGW_in 689 (by decide +kernel) rfl
theorem zw_690 : Cond.methodLink "ManagedBus$Node" 60 (zY 117) ∈ zGW := zGW_in 690 (by decide +kernel) rfl
theorem zw_691 : Cond.methodLink "ManagedBus$Node" 64 Lib.Math.min.name ∈ zGW := zGW_in 691 (by decide +kernel) rfl
theorem zw_692 : Cond.methodLink "ManagedBus$Node" 70 (zY 118) ∈ zGW := zGW_in 692 (by decide +kernel) rfl
theorem zw_693 : Cond.methodLink "ManagedBus$SensingNode" 95 arraycopyName ∈ zGW := zGW_in 693 (by decide +kernel) rfl
theorem zw_694 : Cond.methodLink "ManagedBus$SensingNode" 107 (zY 125) ∈ zGW := zGW_in 694 (by decide +kernel) rfl
theorem zw_695 : Cond.instanceMethod (zY 125) ∈ zGW := zGW_in 695 (by decide +kernel) rfl
theorem zw_696 : Cond.selects "ManagedBus$Part" (zY 125) (zY 125) ∈ zGW := zGW_in 696 (by decide +kernel) rfl
set_option maxRecDepth 100000 in
theorem zw_697 : Cond.code (zY 125) (zB 125) (zL 125) (zRe 125) ∈ zGW := zGW_in 697 rfl rfl
theorem zw_698 : Cond.selects "ManagedBus$Manager" ⟨"ManagedBus$Node", "receive", "(LManagedBus$Part;)V"⟩ (zY 107) ∈ zGW := zGW_in 698 (by decide +kernel) rfl
theorem zw_699 : Cond.instanceMethod (zY 107) ∈ zGW := zGW_in 699 (by decide +kernel) rfl
set_option maxRecDepth 100000 in
theorem zw_700 : Cond.code (zY 107) (zB 107) (zL 107) (zRe 107) ∈ zGW := zGW_in 700 rfl rfl
theorem zw_701 : Cond.methodLink "ManagedBus$Manager" 71 (zY 124) ∈ zGW := zGW_in 701 (by decide +kernel) rfl
theorem zw_702 : Cond.methodLink "ManagedBus$Manager" 76 (zY 110) ∈ zGW := zGW_in 702 (by decide +kernel) rfl
theorem zw_704 : Cond.instanceMethod (zY 110) ∈ zGW := zGW_in 704 (by decide +kernel) rfl
set_option maxRecDepth 100000 in
theorem zw_705 : Cond.code (zY 110) (zB 110) (zL 110) (zRe 110) ∈ zGW := zGW_in 705 rfl rfl
theorem zw_706 : Cond.methodLink "ManagedBus$Manager" 105 (zY 136) ∈ zGW := zGW_in 706 (by decide +kernel) rfl
theorem zw_707 : Cond.instanceMethod (zY 136) ∈ zGW := zGW_in 707 (by decide +kernel) rfl
theorem zw_708 : Cond.selects "ManagedBus$Request" (zY 136) (zY 136) ∈ zGW := zGW_in 708 (by decide +kernel) rfl
set_option maxRecDepth 100000 in
theorem zw_709 : Cond.code (zY 136) (zB 136) (zL 136) (zRe 136) ∈ zGW := zGW_in 709 rfl rfl
theorem zw_710 : Cond.methodLink "ManagedBus$Request" 39 (zY 125) ∈ zGW := zGW_in 710 (by decide +kernel) rfl
theorem zw_711 : Cond.methodLink "ManagedBus$Manager" 109 (zY 137) ∈ zGW := zGW_in 711 (by decide +kernel) rfl
theorem zw_712 : Cond.instanceMethod (zY 137) ∈ zGW := zGW_in 712 (by decide +kernel) rfl
theorem zw_713 : Cond.selects "ManagedBus$Request" (zY 137) (zY 137) ∈ zGW := zGW_in 713 (by decide +kernel) rfl
set_option maxRecDepth 100000 in
theorem zw_714 : Cond.code (zY 137) (zB 137) (zL 137) (zRe 137) ∈ zGW := zGW_in 714 rfl rfl
theorem zw_715 : Cond.methodLink "ManagedBus$Request" 49 arraycopyName ∈ zGW := zGW_in 715 (by decide +kernel) rfl
theorem zw_716 : Cond.methodLink "ManagedBus$Manager" 84 (zY 108) ∈ zGW := zGW_in 716 (by decide +kernel) rfl
theorem zw_718 : Cond.instanceMethod (zY 108) ∈ zGW := zGW_in 718 (by decide +kernel) rfl
set_option maxRecDepth 100000 in
theorem zw_719 : Cond.code (zY 108) (zB 108) (zL 108) (zRe 108) ∈ zGW := zGW_in 719 rfl rfl
theorem zw_721 : Cond.methodLink "ManagedBus$Manager" 100 Lib.Math.min.name ∈ zGW := zGW_in 721 (by decide +kernel) rfl
theorem zw_722 : Cond.selects "ManagedBus$SensingNode" ⟨"ManagedBus$Node", "receive", "(LManagedBus$Part;)V"⟩ (zY 150) ∈ zGW := zGW_in 722 (by decide +kernel) rfl
theorem zw_723 : Cond.methodLink "ManagedBus" 233 (zY 132) ∈ zGW := zGW_in 723 (by decide +kernel) rfl
theorem zw_724 : Cond.instanceMethod (zY 132) ∈ zGW := zGW_in 724 (by decide +kernel) rfl
theorem zw_725 : Cond.selects "ManagedBus$Port" (zY 132) (zY 132) ∈ zGW := zGW_in 725 (by decide +kernel) rfl
set_option maxRecDepth 100000 in
theorem zw_726 : Cond.code (zY 132) (zB 132) (zL 132) (zRe 132) ∈ zGW := zGW_in 726 rfl rfl
theorem zw_727 : Cond.methodLink "ManagedBus" 236 (zY 133) ∈ zGW := zGW_in 727 (by decide +kernel) rfl
theorem zw_728 : Cond.instanceMethod (zY 133) ∈ zGW := zGW_in 728 (by decide +kernel) rfl
theorem zw_729 : Cond.selects "ManagedBus$Port" (zY 133) (zY 133) ∈ zGW := zGW_in 729 (by decide +kernel) rfl
set_option maxRecDepth 100000 in
theorem zw_730 : Cond.code (zY 133) (zB 133) (zL 133) (zRe 133) ∈ zGW := zGW_in 730 rfl rfl
theorem zw_731 : Cond.methodLink "ManagedBus$Port" 44 (zY 132) ∈ zGW := zGW_in 731 (by decide +kernel) rfl
theorem zw_732 : Cond.methodLink "ManagedBus" 100 (zY 105) ∈ zGW := zGW_in 732 (by decide +kernel) rfl
theorem zw_733 : Cond.instanceMethod (zY 105) ∈ zGW := zGW_in 733 (by decide +kernel) rfl
theorem zw_734 : Cond.selects "ManagedBus$Manager" (zY 105) (zY 105) ∈ zGW := zGW_in 734 (by decide +kernel) rfl
set_option maxRecDepth 100000 in
theorem zw_735 : Cond.code (zY 105) (zB 105) (zL 105) (zRe 105) ∈ zGW := zGW_in 735 rfl rfl
theorem zw_736 : Cond.methodLink "ManagedBus$Manager" 56 (zY 135) ∈ zGW := zGW_in 736 (by decide +kernel) rfl
theorem zw_737 : Cond.instanceMethod (zY 135) ∈ zGW := zGW_in 737 (by decide +kernel) rfl
theorem zw_738 : Cond.selects "ManagedBus$Request" (zY 135) (zY 135) ∈ zGW := zGW_in 738 (by decide +kernel) rfl
set_option maxRecDepth 100000 in
theorem zw_739 : Cond.code (zY 135) (zB 135) (zL 135) (zRe 135) ∈ zGW := zGW_in 739 rfl rfl
theorem zw_740 : Cond.methodLink "ManagedBus$Manager" 52 (zY 106) ∈ zGW := zGW_in 740 (by decide +kernel) rfl
theorem zw_742 : Cond.instanceMethod (zY 106) ∈ zGW := zGW_in 742 (by decide +kernel) rfl
set_option maxRecDepth 100000 in
theorem zw_743 : Cond.code (zY 106) (zB 106) (zL 106) (zRe 106) ∈ zGW := zGW_in 743 rfl rfl
theorem zw_744 : Cond.methodLink "ManagedBus$Manager" 67 ⟨"ManagedBus$Manager", "send", "(II[II)V"⟩ ∈ zGW := zGW_in 744 (by decide +kernel) rfl
theorem zw_745 : Cond.sameMethod "ManagedBus$Manager" "ManagedBus$Node" "send" "(II[II)V" ∈ zGW := zGW_in 745 (by decide +kernel) rfl
theorem zw_746 : Cond.selects "ManagedBus$Manager" ⟨"ManagedBus$Manager", "send", "(II[II)V"⟩ (zY 114) ∈ zGW := zGW_in 746 (by decide +kernel) rfl
theorem zw_747 : Cond.methodLink "ManagedBusLaw" 36 (zY 6) ∈ zGW := zGW_in 747 (by decide +kernel) rfl
theorem zw_748 : Cond.instanceMethod (zY 6) ∈ zGW := zGW_in 748 (by decide +kernel) rfl
theorem zw_749 : Cond.selects "ManagedBus" (zY 6) (zY 6) ∈ zGW := zGW_in 749 (by decide +kernel) rfl
set_option maxRecDepth 100000 in
theorem zw_750 : Cond.code (zY 6) (zB 6) (zL 6) (zRe 6) ∈ zGW := zGW_in 750 rfl rfl
theorem zw_751 : Cond.methodLink "ManagedBusLaw" 41 (zY 7) ∈ zGW := zGW_in 751 (by decide +kernel) rfl
theorem zw_752 : Cond.instanceMethod (zY 7) ∈ zGW := zGW_in 752 (by decide +kernel) rfl
theorem zw_753 : Cond.selects "ManagedBus" (zY 7) (zY 7) ∈ zGW := zGW_in 753 (by decide +kernel) rfl
set_option maxRecDepth 100000 in
theorem zw_754 : Cond.code (zY 7) (zB 7) (zL 7) (zRe 7) ∈ zGW := zGW_in 754 rfl rfl
theorem zw_755 : Cond.methodLink "ManagedBus" 107 (zY 104) ∈ zGW := zGW_in 755 (by decide +kernel) rfl
theorem zw_756 : Cond.instanceMethod (zY 104) ∈ zGW := zGW_in 756 (by decide +kernel) rfl
theorem zw_757 : Cond.selects "ManagedBus$Manager" (zY 104) (zY 104) ∈ zGW := zGW_in 757 (by decide +kernel) rfl
set_option maxRecDepth 100000 in
theorem zw_758 : Cond.code (zY 104) (zB 104) (zL 104) (zRe 104) ∈ zGW := zGW_in 758 rfl rfl
theorem zw_759 : Cond.methodLink "ManagedBus$Manager" 43 (zY 156) ∈ zGW := zGW_in 759 (by decide +kernel) rfl
theorem zw_760 : Cond.static (zY 156) ∈ zGW := zGW_in 760 (by decide +kernel) rfl
set_option maxRecDepth 100000 in
theorem zw_761 : Cond.code (zY 156) (zB 156) (zL 156) (zRe 156) ∈ zGW := zGW_in 761 rfl rfl
theorem zw_762 : Cond.methodLink "java/util/Arrays" 316 ⟨"[I", "clone", "()Ljava/lang/Object;"⟩ ∈ zGW := zGW_in 762 (by decide +kernel) rfl
theorem zw_763 : Cond.sameMethod "[I" "java/lang/Object" "clone" "()Ljava/lang/Object;" ∈ zGW := zGW_in 763 (by decide +kernel) rfl
theorem zw_764 : Cond.native ⟨"java/lang/Object", "clone", "()Ljava/lang/Object;"⟩ ∈ zGW := zGW_in 764 (by decide +kernel) rfl
theorem zw_765 : Cond.instanceMethod ⟨"java/lang/Object", "clone", "()Ljava/lang/Object;"⟩ ∈ zGW := zGW_in 765 (by decide +kernel) rfl
theorem zw_766 : Cond.selects "[I" ⟨"[I", "clone", "()Ljava/lang/Object;"⟩ ⟨"java/lang/Object", "clone", "()Ljava/lang/Object;"⟩ ∈ zGW := zGW_in 766 (by decide +kernel) rfl
theorem zw_768 : Cond.classLink "java/util/Arrays" 317 "[I" ∈ zGW := zGW_in 768 (by decide +kernel) rfl
theorem zw_769 : Cond.methodLink "java/util/Arrays" 304 Lib.Math.min.name ∈ zGW := zGW_in 769 (by decide +kernel) rfl
theorem zw_770 : Cond.methodLink "java/util/Arrays" 150 arraycopyName ∈ zGW := zGW_in 770 (by decide +kernel) rfl
theorem zw_771 : Cond.instantiable "ManagedBus$Request" 8 ∈ zGW := zGW_in 771 (by decide +kernel) rfl
theorem zw_772 : Cond.methodLink "ManagedBus$Manager" 49 (zY 134) ∈ zGW := zGW_in 772 (by decide +kernel) rfl
theorem zw_773 : Cond.instanceMethod (zY 134) ∈ zGW := zGW_in 773 (by decide +kernel) rfl
set_option maxRecDepth 100000 in
theorem zw_774 : Cond.code (zY 134) (zB 134) (zL 134) (zRe 134) ∈ zGW := zGW_in 774 rfl rfl
theorem zw_775 : Cond.methodLink "ManagedBus$Request" 3 Lib.objectInit ∈ zGW := zGW_in 775 (by decide +kernel) rfl
theorem zw_776 : Cond.fieldLink "ManagedBus$Request" 25 "ManagedBus$Request" "endpoint" "I" ∈ zGW := zGW_in 776 (by decide +kernel) rfl
theorem zw_777 : Cond.fieldLink "ManagedBus$Manager" 60 "ManagedBus$Request" "endpoint" "I" ∈ zGW := zGW_in 777 (by decide +kernel) rfl
theorem zw_778 : Cond.fieldLink "ManagedBus" 176 "ManagedBus$Request" "endpoint" "I" ∈ zGW := zGW_in 778 (by decide +kernel) rfl
theorem zw_779 : Cond.fieldLink "ManagedBus$Request" 28 "ManagedBus$Request" "tag" "I" ∈ zGW := zGW_in 779 (by decide +kernel) rfl
theorem zw_780 : Cond.fieldLink "ManagedBus$Manager" 61 "ManagedBus$Request" "tag" "I" ∈ zGW := zGW_in 780 (by decide +kernel) rfl
theorem zw_781 : Cond.fieldLink "ManagedBus$Request" 31 "ManagedBus$Request" "bytes" "[I" ∈ zGW := zGW_in 781 (by decide +kernel) rfl
theorem zw_782 : Cond.fieldLink "ManagedBus$Manager" 64 "ManagedBus$Request" "bytes" "[I" ∈ zGW := zGW_in 782 (by decide +kernel) rfl
theorem zw_783 : Cond.fieldLink "ManagedBus$Request" 9 "ManagedBus$Request" "answerBytes" "[I" ∈ zGW := zGW_in 783 (by decide +kernel) rfl
theorem zw_784 : Cond.fieldLink "ManagedBus" 186 "ManagedBus$Request" "answerBytes" "[I" ∈ zGW := zGW_in 784 (by decide +kernel) rfl
theorem zw_785 : Cond.fieldLink "ManagedBus$Request" 45 "ManagedBus$Request" "answerLength" "I" ∈ zGW := zGW_in 785 (by decide +kernel) rfl
theorem zw_786 : Cond.fieldLink "ManagedBus" 183 "ManagedBus$Request" "answerLength" "I" ∈ zGW := zGW_in 786 (by decide +kernel) rfl
theorem zw_787 : Cond.fieldLink "ManagedBus$Request" 15 "ManagedBus$Request" "state" "I" ∈ zGW := zGW_in 787 (by decide +kernel) rfl
theorem zw_788 : Cond.fieldLink "ManagedBus" 173 "ManagedBus$Request" "state" "I" ∈ zGW := zGW_in 788 (by decide +kernel) rfl
theorem zw_789 : Cond.fieldLink "ManagedBus$Request" 19 "ManagedBus$Request" "timer" "I" ∈ zGW := zGW_in 789 (by decide +kernel) rfl
theorem zw_790 : Cond.fieldLink "ManagedBus" 177 "ManagedBus$Request" "timer" "I" ∈ zGW := zGW_in 790 (by decide +kernel) rfl
theorem zw_791 : Cond.fieldLink "ManagedBus$Request" 22 "ManagedBus$Request" "sendings" "I" ∈ zGW := zGW_in 791 (by decide +kernel) rfl
theorem zw_792 : Cond.fieldLink "ManagedBus" 180 "ManagedBus$Request" "sendings" "I" ∈ zGW := zGW_in 792 (by decide +kernel) rfl
theorem zw_793 : Cond.laysFinal "ManagedBus$Request" "ManagedBus$Request" "endpoint" "I" ∈ zGW := zGW_in 793 (by decide +kernel) rfl
theorem zw_795 : Cond.laysFinal "ManagedBus$Request" "ManagedBus$Request" "tag" "I" ∈ zGW := zGW_in 795 (by decide +kernel) rfl
theorem zw_797 : Cond.laysFinal "ManagedBus$Request" "ManagedBus$Request" "bytes" "[I" ∈ zGW := zGW_in 797 (by decide +kernel) rfl
theorem zw_799 : Cond.laysFinal "ManagedBus$Request" "ManagedBus$Request" "answerBytes" "[I" ∈ zGW := zGW_in 799 (by decide +kernel) rfl
theorem zw_801 : Cond.lays "ManagedBus$Request" "ManagedBus$Request" "answerLength" "I" ∈ zGW := zGW_in 801 (by decide +kernel) rfl
theorem zw_803 : Cond.lays "ManagedBus$Request" "ManagedBus$Request" "state" "I" ∈ zGW := zGW_in 803 (by decide +kernel) rfl
theorem zw_805 : Cond.lays "ManagedBus$Request" "ManagedBus$Request" "timer" "I" ∈ zGW := zGW_in 805 (by decide +kernel) rfl
theorem zw_807 : Cond.lays "ManagedBus$Request" "ManagedBus$Request" "sendings" "I" ∈ zGW := zGW_in 807 (by decide +kernel) rfl
theorem zw_810 : Cond.methodLink "ManagedBusLaw" 46 (zY 8) ∈ zGW := zGW_in 810 (by decide +kernel) rfl
theorem zw_811 : Cond.instanceMethod (zY 8) ∈ zGW := zGW_in 811 (by decide +kernel) rfl
theorem zw_812 : Cond.selects "ManagedBus" (zY 8) (zY 8) ∈ zGW := zGW_in 812 (by decide +kernel) rfl
set_option maxRecDepth 100000 in
theorem zw_813 : Cond.code (zY 8) (zB 8) (zL 8) (zRe 8) ∈ zGW := zGW_in 813 rfl rfl
theorem zw_814 : Cond.methodLink "ManagedBus" 111 (zY 19) ∈ zGW := zGW_in 814 (by decide +kernel) rfl
theorem zw_816 : Cond.instanceMethod (zY 19) ∈ zGW := zGW_in 816 (by decide +kernel) rfl
set_option maxRecDepth 100000 in
theorem zw_817 : Cond.code (zY 19) (zB 19) (zL 19) (zRe 19) ∈ zGW := zGW_in 817 rfl rfl
theorem zw_818 : Cond.methodLink "ManagedBus" 118 (zY 148) ∈ zGW := zGW_in 818 (by decide +kernel) rfl
theorem zw_819 : Cond.methodLink "ManagedBusLaw" 50 (zY 9) ∈ zGW := zGW_in 819 (by decide +kernel) rfl
theorem zw_820 : Cond.instanceMethod (zY 9) ∈ zGW := zGW_in 820 (by decide +kernel) rfl
theorem zw_821 : Cond.selects "ManagedBus" (zY 9) (zY 9) ∈ zGW := zGW_in 821 (by decide +kernel) rfl
set_option maxRecDepth 100000 in
theorem zw_822 : Cond.code (zY 9) (zB 9) (zL 9) (zRe 9) ∈ zGW := zGW_in 822 rfl rfl
theorem zw_823 : Cond.methodLink "ManagedBusLaw" 54 (zY 10) ∈ zGW := zGW_in 823 (by decide +kernel) rfl
theorem zw_824 : Cond.instanceMethod (zY 10) ∈ zGW := zGW_in 824 (by decide +kernel) rfl
theorem zw_825 : Cond.selects "ManagedBus" (zY 10) (zY 10) ∈ zGW := zGW_in 825 (by decide +kernel) rfl
set_option maxRecDepth 100000 in
theorem zw_826 : Cond.code (zY 10) (zB 10) (zL 10) (zRe 10) ∈ zGW := zGW_in 826 rfl rfl
theorem zw_827 : Cond.methodLink "ManagedBusLaw" 58 (zY 11) ∈ zGW := zGW_in 827 (by decide +kernel) rfl
theorem zw_828 : Cond.instanceMethod (zY 11) ∈ zGW := zGW_in 828 (by decide +kernel) rfl
theorem zw_829 : Cond.selects "ManagedBus" (zY 11) (zY 11) ∈ zGW := zGW_in 829 (by decide +kernel) rfl
set_option maxRecDepth 100000 in
theorem zw_830 : Cond.code (zY 11) (zB 11) (zL 11) (zRe 11) ∈ zGW := zGW_in 830 rfl rfl
theorem zw_831 : Cond.methodLink "ManagedBusLaw" 62 (zY 12) ∈ zGW := zGW_in 831 (by decide +kernel) rfl
theorem zw_832 : Cond.instanceMethod (zY 12) ∈ zGW := zGW_in 832 (by decide +kernel) rfl
theorem zw_833 : Cond.selects "ManagedBus" (zY 12) (zY 12) ∈ zGW := zGW_in 833 (by decide +kernel) rfl
set_option maxRecDepth 100000 in
theorem zw_834 : Cond.code (zY 12) (zB 12) (zL 12) (zRe 12) ∈ zGW := zGW_in 834 rfl rfl
theorem zw_835 : Cond.methodLink "ManagedBusLaw" 66 (zY 13) ∈ zGW := zGW_in 835 (by decide +kernel) rfl
theorem zw_836 : Cond.instanceMethod (zY 13) ∈ zGW := zGW_in 836 (by decide +kernel) rfl
theorem zw_837 : Cond.selects "ManagedBus" (zY 13) (zY 13) ∈ zGW := zGW_in 837 (by decide +kernel) rfl
set_option maxRecDepth 100000 in
theorem zw_838 : Cond.code (zY 13) (zB 13) (zL 13) (zRe 13) ∈ zGW := zGW_in 838 rfl rfl
theorem zw_839 : Cond.methodLink "ManagedBus" 169 (zY 103) ∈ zGW := zGW_in 839 (by decide +kernel) rfl
theorem zw_840 : Cond.instanceMethod (zY 103) ∈ zGW := zGW_in 840 (by decide +kernel) rfl
theorem zw_841 : Cond.selects "ManagedBus$Manager" (zY 103) (zY 103) ∈ zGW := zGW_in 841 (by decide +kernel) rfl
set_option maxRecDepth 100000 in
theorem zw_842 : Cond.code (zY 103) (zB 103) (zL 103) (zRe 103) ∈ zGW := zGW_in 842 rfl rfl
theorem zw_843 : Cond.methodLink "ManagedBusLaw" 70 (zY 14) ∈ zGW := zGW_in 843 (by decide +kernel) rfl
theorem zw_844 : Cond.instanceMethod (zY 14) ∈ zGW := zGW_in 844 (by decide +kernel) rfl
theorem zw_845 : Cond.selects "ManagedBus" (zY 14) (zY 14) ∈ zGW := zGW_in 845 (by decide +kernel) rfl
set_option maxRecDepth 100000 in
theorem zw_846 : Cond.code (zY 14) (zB 14) (zL 14) (zRe 14) ∈ zGW := zGW_in 846 rfl rfl
theorem zw_847 : Cond.methodLink "ManagedBusLaw" 74 (zY 15) ∈ zGW := zGW_in 847 (by decide +kernel) rfl
theorem zw_848 : Cond.instanceMethod (zY 15) ∈ zGW := zGW_in 848 (by decide +kernel) rfl
theorem zw_849 : Cond.selects "ManagedBus" (zY 15) (zY 15) ∈ zGW := zGW_in 849 (by decide +kernel) rfl
set_option maxRecDepth 100000 in
theorem zw_850 : Cond.code (zY 15) (zB 15) (zL 15) (zRe 15) ∈ zGW := zGW_in 850 rfl rfl
theorem zw_851 : Cond.constant "ManagedBus" 192 (zI (-40000)) ∈ zGW := zGW_in 851 (by decide +kernel) rfl
theorem zw_852 : Cond.methodLink "ManagedBus" 193 (zY 109) ∈ zGW := zGW_in 852 (by decide +kernel) rfl
theorem zw_853 : Cond.instanceMethod (zY 109) ∈ zGW := zGW_in 853 (by decide +kernel) rfl
theorem zw_854 : Cond.selects "ManagedBus$Manager" (zY 109) (zY 109) ∈ zGW := zGW_in 854 (by decide +kernel) rfl
set_option maxRecDepth 100000 in
theorem zw_855 : Cond.code (zY 109) (zB 109) (zL 109) (zRe 109) ∈ zGW := zGW_in 855 rfl rfl
theorem zw_856 : Cond.methodLink "ManagedBusLaw" 78 (zY 16) ∈ zGW := zGW_in 856 (by decide +kernel) rfl
theorem zw_857 : Cond.instanceMethod (zY 16) ∈ zGW := zGW_in 857 (by decide +kernel) rfl
theorem zw_858 : Cond.selects "ManagedBus" (zY 16) (zY 16) ∈ zGW := zGW_in 858 (by decide +kernel) rfl
set_option maxRecDepth 100000 in
theorem zw_859 : Cond.code (zY 16) (zB 16) (zL 16) (zRe 16) ∈ zGW := zGW_in 859 rfl rfl
theorem zw_860 : Cond.classLink "ManagedBusLaw" 10 "ManagedBusModel" ∈ zGW := zGW_in 860 (by decide +kernel) rfl
theorem zw_861 : Cond.instantiable "ManagedBusModel" 52 ∈ zGW := zGW_in 861 (by decide +kernel) rfl
theorem zw_862 : Cond.methodLink "ManagedBusLaw" 12 (zY 23) ∈ zGW := zGW_in 862 (by decide +kernel) rfl
theorem zw_863 : Cond.instanceMethod (zY 23) ∈ zGW := zGW_in 863 (by decide +kernel) rfl
set_option maxRecDepth 100000 in
theorem zw_864 : Cond.code (zY 23) (zB 23) (zL 23) (zRe 23) ∈ zGW := zGW_in 864 rfl rfl
theorem zw_865 : Cond.methodLink "ManagedBusModel" 1 Lib.objectInit ∈ zGW := zGW_in 865 (by decide +kernel) rfl
theorem zw_866 : Cond.fieldLink "ManagedBusModel" 267 "ManagedBusModel" "clock" "I" ∈ zGW := zGW_in 866 (by decide +kernel) rfl
theorem zw_867 : Cond.fieldLink "ManagedBusModel" 7 "ManagedBusModel" "bus" "[I" ∈ zGW := zGW_in 867 (by decide +kernel) rfl
theorem zw_868 : Cond.fieldLink "ManagedBusModel" 13 "ManagedBusModel" "identity" "[I" ∈ zGW := zGW_in 868 (by decide +kernel) rfl
theorem zw_869 : Cond.fieldLink "ManagedBusModel" 16 "ManagedBusModel" "address" "[I" ∈ zGW := zGW_in 869 (by decide +kernel) rfl
theorem zw_870 : Cond.fieldLink "ManagedBusModel" 19 "ManagedBusModel" "resolved" "[Z" ∈ zGW := zGW_in 870 (by decide +kernel) rfl
theorem zw_871 : Cond.fieldLink "ManagedBusModel" 23 "ManagedBusModel" "tries" "[I" ∈ zGW := zGW_in 871 (by decide +kernel) rfl
theorem zw_872 : Cond.fieldLink "ManagedBusModel" 26 "ManagedBusModel" "waiting" "[I" ∈ zGW := zGW_in 872 (by decide +kernel) rfl
theorem zw_873 : Cond.fieldLink "ManagedBusModel" 29 "ManagedBusModel" "output" "[I" ∈ zGW := zGW_in 873 (by decide +kernel) rfl
theorem zw_874 : Cond.fieldLink "ManagedBusModel" 32 "ManagedBusModel" "endpoint" "[I" ∈ zGW := zGW_in 874 (by decide +kernel) rfl
theorem zw_875 : Cond.fieldLink "ManagedBusModel" 35 "ManagedBusModel" "partSize" "[I" ∈ zGW := zGW_in 875 (by decide +kernel) rfl
theorem zw_876 : Cond.fieldLink "ManagedBusModel" 38 "ManagedBusModel" "partKind" "[I" ∈ zGW := zGW_in 876 (by decide +kernel) rfl
theorem zw_877 : Cond.fieldLink "ManagedBusModel" 41 "ManagedBusModel" "partDue" "[I" ∈ zGW := zGW_in 877 (by decide +kernel) rfl
theorem zw_878 : Cond.fieldLink "ManagedBusModel" 44 "ManagedBusModel" "part" "[I" ∈ zGW := zGW_in 878 (by decide +kernel) rfl
theorem zw_879 : Cond.fieldLink "ManagedBusModel" 47 "ManagedBusModel" "value" "[I" ∈ zGW := zGW_in 879 (by decide +kernel) rfl
theorem zw_880 : Cond.fieldLink "ManagedBusModel" 50 "ManagedBusModel" "low" "[I" ∈ zGW := zGW_in 880 (by decide +kernel) rfl
theorem zw_881 : Cond.fieldLink "ManagedBusModel" 53 "ManagedBusModel" "high" "[I" ∈ zGW := zGW_in 881 (by decide +kernel) rfl
theorem zw_882 : Cond.fieldLink "ManagedBusModel" 56 "ManagedBusModel" "slack" "[I" ∈ zGW := zGW_in 882 (by decide +kernel) rfl
theorem zw_883 : Cond.fieldLink "ManagedBusModel" 59 "ManagedBusModel" "state" "[I" ∈ zGW := zGW_in 883 (by decide +kernel) rfl
theorem zw_884 : Cond.fieldLink "ManagedBusModel" 62 "ManagedBusModel" "receiver" "[I" ∈ zGW := zGW_in 884 (by decide +kernel) rfl
theorem zw_885 : Cond.fieldLink "ManagedBusModel" 65 "ManagedBusModel" "events" "[I" ∈ zGW := zGW_in 885 (by decide +kernel) rfl
theorem zw_886 : Cond.fieldLink "ManagedBusModel" 68 "ManagedBusModel" "blocks" "[I" ∈ zGW := zGW_in 886 (by decide +kernel) rfl
theorem zw_887 : Cond.fieldLink "ManagedBusModel" 71 "ManagedBusModel" "how" "[I" ∈ zGW := zGW_in 887 (by decide +kernel) rfl
theorem zw_888 : Cond.fieldLink "ManagedBusModel" 74 "ManagedBusModel" "stage" "[I" ∈ zGW := zGW_in 888 (by decide +kernel) rfl
theorem zw_889 : Cond.fieldLink "ManagedBusModel" 77 "ManagedBusModel" "set" "[I" ∈ zGW := zGW_in 889 (by decide +kernel) rfl
theorem zw_890 : Cond.fieldLink "ManagedBusModel" 80 "ManagedBusModel" "failures" "[I" ∈ zGW := zGW_in 890 (by decide +kernel) rfl
theorem zw_891 : Cond.fieldLink "ManagedBusModel" 83 "ManagedBusModel" "assigned" "[I" ∈ zGW := zGW_in 891 (by decide +kernel) rfl
theorem zw_892 : Cond.fieldLink "ManagedBusModel" 86 "ManagedBusModel" "given" "[I" ∈ zGW := zGW_in 892 (by decide +kernel) rfl
theorem zw_893 : Cond.fieldLink "ManagedBusModel" 89 "ManagedBusModel" "heard" "[I" ∈ zGW := zGW_in 893 (by decide +kernel) rfl
theorem zw_894 : Cond.fieldLink "ManagedBusModel" 202 "ManagedBusModel" "toBridge" "I" ∈ zGW := zGW_in 894 (by decide +kernel) rfl
theorem zw_895 : Cond.fieldLink "ManagedBusModel" 92 "ManagedBusModel" "noiseAt" "[I" ∈ zGW := zGW_in 895 (by decide +kernel) rfl
theorem zw_896 : Cond.fieldLink "ManagedBusModel" 95 "ManagedBusModel" "noiseMask" "[I" ∈ zGW := zGW_in 896 (by decide +kernel) rfl
theorem zw_897 : Cond.fieldLink "ManagedBusModel" 98 "ManagedBusModel" "row" "[I" ∈ zGW := zGW_in 897 (by decide +kernel) rfl
theorem zw_898 : Cond.fieldLink "ManagedBusModel" 205 "ManagedBusModel" "size" "I" ∈ zGW := zGW_in 898 (by decide +kernel) rfl
theorem zw_899 : Cond.fieldLink "ManagedBusModel" 101 "ManagedBusModel" "best" "[I" ∈ zGW := zGW_in 899 (by decide +kernel) rfl
theorem zw_900 : Cond.fieldLink "ManagedBusModel" 223 "ManagedBusModel" "bestSize" "I" ∈ zGW := zGW_in 900 (by decide +kernel) rfl
theorem zw_901 : Cond.fieldLink "ManagedBusModel" 104 "ManagedBusModel" "wires" "[I" ∈ zGW := zGW_in 901 (by decide +kernel) rfl
theorem zw_902 : Cond.fieldLink "ManagedBusModel" 107 "ManagedBusModel" "wireSize" "[I" ∈ zGW := zGW_in 902 (by decide +kernel) rfl
theorem zw_903 : Cond.fieldLink "ManagedBusModel" 110 "ManagedBusModel" "packet" "[I" ∈ zGW := zGW_in 903 (by decide +kernel) rfl
theorem zw_904 : Cond.fieldLink "ManagedBusModel" 113 "ManagedBusModel" "message" "[I" ∈ zGW := zGW_in 904 (by decide +kernel) rfl
theorem zw_905 : Cond.fieldLink "ManagedBusModel" 163 "ManagedBusModel" "length" "I" ∈ zGW := zGW_in 905 (by decide +kernel) rfl
theorem zw_906 : Cond.fieldLink "ManagedBusModel" 116 "ManagedBusModel" "page" "[I" ∈ zGW := zGW_in 906 (by decide +kernel) rfl
theorem zw_907 : Cond.fieldLink "ManagedBusModel" 155 "ManagedBusModel" "requests" "I" ∈ zGW := zGW_in 907 (by decide +kernel) rfl
theorem zw_908 : Cond.fieldLink "ManagedBusModel" 119 "ManagedBusModel" "asked" "[I" ∈ zGW := zGW_in 908 (by decide +kernel) rfl
theorem zw_909 : Cond.fieldLink "ManagedBusModel" 122 "ManagedBusModel" "askedSize" "[I" ∈ zGW := zGW_in 909 (by decide +kernel) rfl
theorem zw_910 : Cond.fieldLink "ManagedBusModel" 125 "ManagedBusModel" "askedBytes" "[I" ∈ zGW := zGW_in 910 (by decide +kernel) rfl
theorem zw_911 : Cond.fieldLink "ManagedBusModel" 128 "ManagedBusModel" "requestState" "[I" ∈ zGW := zGW_in 911 (by decide +kernel) rfl
theorem zw_912 : Cond.fieldLink "ManagedBusModel" 131 "ManagedBusModel" "timer" "[I" ∈ zGW := zGW_in 912 (by decide +kernel) rfl
theorem zw_913 : Cond.fieldLink "ManagedBusModel" 134 "ManagedBusModel" "sendings" "[I" ∈ zGW := zGW_in 913 (by decide +kernel) rfl
theorem zw_914 : Cond.fieldLink "ManagedBusModel" 137 "ManagedBusModel" "answerSize" "[I" ∈ zGW := zGW_in 914 (by decide +kernel) rfl
theorem zw_915 : Cond.fieldLink "ManagedBusModel" 140 "ManagedBusModel" "answers" "[I" ∈ zGW := zGW_in 915 (by decide +kernel) rfl
theorem zw_916 : Cond.fieldLink "ManagedBusModel" 190 "ManagedBusModel" "logged" "I" ∈ zGW := zGW_in 916 (by decide +kernel) rfl
theorem zw_917 : Cond.fieldLink "ManagedBusModel" 143 "ManagedBusModel" "log" "[I" ∈ zGW := zGW_in 917 (by decide +kernel) rfl
theorem zw_918 : Cond.lays "ManagedBusModel" "ManagedBusModel" "clock" "I" ∈ zGW := zGW_in 918 (by decide +kernel) rfl
theorem zw_920 : Cond.laysFinal "ManagedBusModel" "ManagedBusModel" "bus" "[I" ∈ zGW := zGW_in 920 (by decide +kernel) rfl
theorem zw_922 : Cond.laysFinal "ManagedBusModel" "ManagedBusModel" "identity" "[I" ∈ zGW := zGW_in 922 (by decide +kernel) rfl
theorem zw_924 : Cond.laysFinal "ManagedBusModel" "ManagedBusModel" "address" "[I" ∈ zGW := zGW_in 924 (by decide +kernel) rfl
theorem zw_926 : Cond.laysFinal "ManagedBusModel" "ManagedBusModel" "resolved" "[Z" ∈ zGW := zGW_in 926 (by decide +kernel) rfl
theorem zw_928 : Cond.laysFinal "ManagedBusModel" "ManagedBusModel" "tries" "[I" ∈ zGW := zGW_in 928 (by decide +kernel) rfl
theorem zw_930 : Cond.laysFinal "ManagedBusModel" "ManagedBusModel" "waiting" "[I" ∈ zGW := zGW_in 930 (by decide +kernel) rfl
theorem zw_932 : Cond.laysFinal "ManagedBusModel" "ManagedBusModel" "output" "[I" ∈ zGW := zGW_in 932 (by decide +kernel) rfl
theorem zw_934 : Cond.laysFinal "ManagedBusModel" "ManagedBusModel" "endpoint" "[I" ∈ zGW := zGW_in 934 (by decide +kernel) rfl
theorem zw_936 : Cond.laysFinal "ManagedBusModel" "ManagedBusModel" "partSize" "[I" ∈ zGW := zGW_in 936 (by decide +kernel) rfl
theorem zw_938 : Cond.laysFinal "ManagedBusModel" "ManagedBusModel" "partKind" "[I" ∈ zGW := zGW_in 938 (by decide +kernel) rfl
theorem zw_940 : Cond.laysFinal "ManagedBusModel" "ManagedBusModel" "partDue" "[I" ∈ zGW := zGW_in 940 (by decide +kernel) rfl
theorem zw_942 : Cond.laysFinal "ManagedBusModel" "ManagedBusModel" "part" "[I" ∈ zGW := zGW_in 942 (by decide +kernel) rfl
theorem zw_944 : Cond.laysFinal "ManagedBusModel" "ManagedBusModel" "value" "[I" ∈ zGW := zGW_in 944 (by decide +kernel) rfl
theorem zw_946 : Cond.laysFinal "ManagedBusModel" "ManagedBusModel" "low" "[I" ∈ zGW := zGW_in 946 (by decide +kernel) rfl
theorem zw_948 : Cond.laysFinal "ManagedBusModel" "ManagedBusModel" "high" "[I" ∈ zGW := zGW_in 948 (by decide +kernel) rfl
theorem zw_950 : Cond.laysFinal "ManagedBusModel" "ManagedBusModel" "slack" "[I" ∈ zGW := zGW_in 950 (by decide +kernel) rfl
theorem zw_952 : Cond.laysFinal "ManagedBusModel" "ManagedBusModel" "state" "[I" ∈ zGW := zGW_in 952 (by decide +kernel) rfl
theorem zw_954 : Cond.laysFinal "ManagedBusModel" "ManagedBusModel" "receiver" "[I" ∈ zGW := zGW_in 954 (by decide +kernel) rfl
theorem zw_956 : Cond.laysFinal "ManagedBusModel" "ManagedBusModel" "events" "[I" ∈ zGW := zGW_in 956 (by decide +kernel) rfl
theorem zw_958 : Cond.laysFinal "ManagedBusModel" "ManagedBusModel" "blocks" "[I" ∈ zGW := zGW_in 958 (by decide +kernel) rfl
theorem zw_960 : Cond.laysFinal "ManagedBusModel" "ManagedBusModel" "how" "[I" ∈ zGW := zGW_in 960 (by decide +kernel) rfl
theorem zw_962 : Cond.laysFinal "ManagedBusModel" "ManagedBusModel" "stage" "[I" ∈ zGW := zGW_in 962 (by decide +kernel) rfl
theorem zw_964 : Cond.laysFinal "ManagedBusModel" "ManagedBusModel" "set" "[I" ∈ zGW := zGW_in 964 (by decide +kernel) rfl
theorem zw_966 : Cond.laysFinal "ManagedBusModel" "ManagedBusModel" "failures" "[I" ∈ zGW := zGW_in 966 (by decide +kernel) rfl
theorem zw_968 : Cond.laysFinal "ManagedBusModel" "ManagedBusModel" "assigned" "[I" ∈ zGW := zGW_in 968 (by decide +kernel) rfl
theorem zw_970 : Cond.laysFinal "ManagedBusModel" "ManagedBusModel" "given" "[I" ∈ zGW := zGW_in 970 (by decide +kernel) rfl
theorem zw_972 : Cond.laysFinal "ManagedBusModel" "ManagedBusModel" "heard" "[I" ∈ zGW := zGW_in 972 (by decide +kernel) rfl
theorem zw_974 : Cond.lays "ManagedBusModel" "ManagedBusModel" "toBridge" "I" ∈ zGW := zGW_in 974 (by decide +kernel) rfl
theorem zw_976 : Cond.laysFinal "ManagedBusModel" "ManagedBusModel" "noiseAt" "[I" ∈ zGW := zGW_in 976 (by decide +kernel) rfl
theorem zw_978 : Cond.laysFinal "ManagedBusModel" "ManagedBusModel" "noiseMask" "[I" ∈ zGW := zGW_in 978 (by decide +kernel) rfl
theorem zw_980 : Cond.laysFinal "ManagedBusModel" "ManagedBusModel" "row" "[I" ∈ zGW := zGW_in 980 (by decide +kernel) rfl
theorem zw_982 : Cond.lays "ManagedBusModel" "ManagedBusModel" "size" "I" ∈ zGW := zGW_in 982 (by decide +kernel) rfl
theorem zw_984 : Cond.laysFinal "ManagedBusModel" "ManagedBusModel" "best" "[I" ∈ zGW := zGW_in 984 (by decide +kernel) rfl
theorem zw_986 : Cond.lays "ManagedBusModel" "ManagedBusModel" "bestSize" "I" ∈ zGW := zGW_in 986 (by decide +kernel) rfl
theorem zw_988 : Cond.laysFinal "ManagedBusModel" "ManagedBusModel" "wires" "[I" ∈ zGW := zGW_in 988 (by decide +kernel) rfl
theorem zw_990 : Cond.laysFinal "ManagedBusModel" "ManagedBusModel" "wireSize" "[I" ∈ zGW := zGW_in 990 (by decide +kernel) rfl
theorem zw_992 : Cond.laysFinal "ManagedBusModel" "ManagedBusModel" "packet" "[I" ∈ zGW := zGW_in 992 (by decide +kernel) rfl
theorem zw_994 : Cond.laysFinal "ManagedBusModel" "ManagedBusModel" "message" "[I" ∈ zGW := zGW_in 994 (by decide +kernel) rfl
theorem zw_996 : Cond.lays "ManagedBusModel" "ManagedBusModel" "length" "I" ∈ zGW := zGW_in 996 (by decide +kernel) rfl
theorem zw_998 : Cond.laysFinal "ManagedBusModel" "ManagedBusModel" "page" "[I" ∈ zGW := zGW_in 998 (by decide +kernel) rfl
theorem zw_1000 : Cond.lays "ManagedBusModel" "ManagedBusModel" "requests" "I" ∈ zGW := zGW_in 1000 (by decide +kernel) rfl
theorem zw_1002 : Cond.laysFinal "ManagedBusModel" "ManagedBusModel" "asked" "[I" ∈ zGW := zGW_in 1002 (by decide +kernel) rfl
theorem zw_1004 : Cond.laysFinal "ManagedBusModel" "ManagedBusModel" "askedSize" "[I" ∈ zGW := zGW_in 1004 (by decide +kernel) rfl
theorem zw_1006 : Cond.laysFinal "ManagedBusModel" "ManagedBusModel" "askedBytes" "[I" ∈ zGW := zGW_in 1006 (by decide +kernel) rfl
theorem zw_1008 : Cond.laysFinal "ManagedBusModel" "ManagedBusModel" "requestState" "[I" ∈ zGW := zGW_in 1008 (by decide +kernel) rfl
theorem zw_1010 : Cond.laysFinal "ManagedBusModel" "ManagedBusModel" "timer" "[I" ∈ zGW := zGW_in 1010 (by decide +kernel) rfl
theorem zw_1012 : Cond.laysFinal "ManagedBusModel" "ManagedBusModel" "sendings" "[I" ∈ zGW := zGW_in 1012 (by decide +kernel) rfl
theorem zw_1014 : Cond.laysFinal "ManagedBusModel" "ManagedBusModel" "answerSize" "[I" ∈ zGW := zGW_in 1014 (by decide +kernel) rfl
theorem zw_1016 : Cond.laysFinal "ManagedBusModel" "ManagedBusModel" "answers" "[I" ∈ zGW := zGW_in 1016 (by decide +kernel) rfl
theorem zw_1018 : Cond.lays "ManagedBusModel" "ManagedBusModel" "logged" "I" ∈ zGW := zGW_in 1018 (by decide +kernel) rfl
theorem zw_1020 : Cond.laysFinal "ManagedBusModel" "ManagedBusModel" "log" "[I" ∈ zGW := zGW_in 1020 (by decide +kernel) rfl
theorem zw_1023 : Cond.arrayClass Jvm.ClassFile.FieldType.boolean ∈ zGW := zGW_in 1023 (by decide +kernel) rfl
theorem zw_1024 : Cond.methodLink "ManagedBusLaw" 17 (zY 29) ∈ zGW := zGW_in 1024 (by decide +kernel) rfl
theorem zw_1025 : Cond.instanceMethod (zY 29) ∈ zGW := zGW_in 1025 (by decide +kernel) rfl
theorem zw_1026 : Cond.selects "ManagedBusModel" (zY 29) (zY 29) ∈ zGW := zGW_in 1026 (by decide +kernel) rfl
set_option maxRecDepth 100000 in
theorem zw_1027 : Cond.code (zY 29) (zB 29) (zL 29) (zRe 29) ∈ zGW := zGW_in 1027 rfl rfl
theorem zw_1028 : Cond.methodLink "ManagedBusModel" 146 (zY 27) ∈ zGW := zGW_in 1028 (by decide +kernel) rfl
theorem zw_1029 : Cond.static (zY 27) ∈ zGW := zGW_in 1029 (by decide +kernel) rfl
set_option maxRecDepth 100000 in
theorem zw_1030 : Cond.code (zY 27) (zB 27) (zL 27) (zRe 27) ∈ zGW := zGW_in 1030 rfl rfl
theorem zw_1031 : Cond.methodLink "ManagedBusModel" 150 (zY 24) ∈ zGW := zGW_in 1031 (by decide +kernel) rfl
theorem zw_1032 : Cond.static (zY 24) ∈ zGW := zGW_in 1032 (by decide +kernel) rfl
set_option maxRecDepth 100000 in
theorem zw_1033 : Cond.code (zY 24) (zB 24) (zL 24) (zRe 24) ∈ zGW := zGW_in 1033 rfl rfl
theorem zw_1034 : Cond.constant "ManagedBusModel" 154 (zI 65535) ∈ zGW := zGW_in 1034 (by decide +kernel) rfl
theorem zw_1035 : Cond.methodLink "ManagedBusLaw" 22 (zY 30) ∈ zGW := zGW_in 1035 (by decide +kernel) rfl
theorem zw_1036 : Cond.instanceMethod (zY 30) ∈ zGW := zGW_in 1036 (by decide +kernel) rfl
theorem zw_1037 : Cond.selects "ManagedBusModel" (zY 30) (zY 30) ∈ zGW := zGW_in 1037 (by decide +kernel) rfl
set_option maxRecDepth 100000 in
theorem zw_1038 : Cond.code (zY 30) (zB 30) (zL 30) (zRe 30) ∈ zGW := zGW_in 1038 rfl rfl
theorem zw_1039 : Cond.methodLink "ManagedBusLaw" 26 (zY 31) ∈ zGW := zGW_in 1039 (by decide +kernel) rfl
theorem zw_1040 : Cond.instanceMethod (zY 31) ∈ zGW := zGW_in 1040 (by decide +kernel) rfl
theorem zw_1041 : Cond.selects "ManagedBusModel" (zY 31) (zY 31) ∈ zGW := zGW_in 1041 (by decide +kernel) rfl
set_option maxRecDepth 100000 in
theorem zw_1042 : Cond.code (zY 31) (zB 31) (zL 31) (zRe 31) ∈ zGW := zGW_in 1042 rfl rfl
theorem zw_1043 : Cond.methodLink "ManagedBusLaw" 30 (zY 32) ∈ zGW := zGW_in 1043 (by decide +kernel) rfl
theorem zw_1044 : Cond.instanceMethod (zY 32) ∈ zGW := zGW_in 1044 (by decide +kernel) rfl
theorem zw_1045 : Cond.selects "ManagedBusModel" (zY 32) (zY 32) ∈ zGW := zGW_in 1045 (by decide +kernel) rfl
set_option maxRecDepth 100000 in
theorem zw_1046 : Cond.code (zY 32) (zB 32) (zL 32) (zRe 32) ∈ zGW := zGW_in 1046 rfl rfl
theorem zw_1047 : Cond.methodLink "ManagedBusLaw" 40 (zY 33) ∈ zGW := zGW_in 1047 (by decide +kernel) rfl
theorem zw_1048 : Cond.instanceMethod (zY 33) ∈ zGW := zGW_in 1048 (by decide +kernel) rfl
theorem zw_1049 : Cond.selects "ManagedBusModel" (zY 33) (zY 33) ∈ zGW := zGW_in 1049 (by decide +kernel) rfl
set_option maxRecDepth 100000 in
theorem zw_1050 : Cond.code (zY 33) (zB 33) (zL 33) (zRe 33) ∈ zGW := zGW_in 1050 rfl rfl
theorem zw_1051 : Cond.methodLink "ManagedBusLaw" 45 (zY 34) ∈ zGW := zGW_in 1051 (by decide +kernel) rfl
theorem zw_1052 : Cond.instanceMethod (zY 34) ∈ zGW := zGW_in 1052 (by decide +kernel) rfl
theorem zw_1053 : Cond.selects "ManagedBusModel" (zY 34) (zY 34) ∈ zGW := zGW_in 1053 (by decide +kernel) rfl
set_option maxRecDepth 100000 in
theorem zw_1054 : Cond.code (zY 34) (zB 34) (zL 34) (zRe 34) ∈ zGW := zGW_in 1054 rfl rfl
theorem zw_1055 : Cond.methodLink "ManagedBusModel" 159 (zY 35) ∈ zGW := zGW_in 1055 (by decide +kernel) rfl
theorem zw_1057 : Cond.instanceMethod (zY 35) ∈ zGW := zGW_in 1057 (by decide +kernel) rfl
set_option maxRecDepth 100000 in
theorem zw_1058 : Cond.code (zY 35) (zB 35) (zL 35) (zRe 35) ∈ zGW := zGW_in 1058 rfl rfl
theorem zw_1059 : Cond.methodLink "ManagedBusModel" 166 (zY 37) ∈ zGW := zGW_in 1059 (by decide +kernel) rfl
theorem zw_1061 : Cond.instanceMethod (zY 37) ∈ zGW := zGW_in 1061 (by decide +kernel) rfl
set_option maxRecDepth 100000 in
theorem zw_1062 : Cond.code (zY 37) (zB 37) (zL 37) (zRe 37) ∈ zGW := zGW_in 1062 rfl rfl
theorem zw_1063 : Cond.methodLink "ManagedBusLaw" 49 (zY 36) ∈ zGW := zGW_in 1063 (by decide +kernel) rfl
theorem zw_1064 : Cond.instanceMethod (zY 36) ∈ zGW := zGW_in 1064 (by decide +kernel) rfl
theorem zw_1065 : Cond.selects "ManagedBusModel" (zY 36) (zY 36) ∈ zGW := zGW_in 1065 (by decide +kernel) rfl
set_option maxRecDepth 100000 in
theorem zw_1066 : Cond.code (zY 36) (zB 36) (zL 36) (zRe 36) ∈ zGW := zGW_in 1066 rfl rfl
theorem zw_1067 : Cond.methodLink "ManagedBusModel" 170 (zY 28) ∈ zGW := zGW_in 1067 (by decide +kernel) rfl
theorem zw_1069 : Cond.instanceMethod (zY 28) ∈ zGW := zGW_in 1069 (by decide +kernel) rfl
set_option maxRecDepth 100000 in
theorem zw_1070 : Cond.code (zY 28) (zB 28) (zL 28) (zRe 28) ∈ zGW := zGW_in 1070 rfl rfl
theorem zw_1071 : Cond.methodLink "ManagedBusModel" 173 (zY 38) ∈ zGW := zGW_in 1071 (by decide +kernel) rfl
theorem zw_1073 : Cond.instanceMethod (zY 38) ∈ zGW := zGW_in 1073 (by decide +kernel) rfl
set_option maxRecDepth 100000 in
theorem zw_1074 : Cond.code (zY 38) (zB 38) (zL 38) (zRe 38) ∈ zGW := zGW_in 1074 rfl rfl
theorem zw_1075 : Cond.methodLink "ManagedBusLaw" 35 (zY 65) ∈ zGW := zGW_in 1075 (by decide +kernel) rfl
theorem zw_1076 : Cond.instanceMethod (zY 65) ∈ zGW := zGW_in 1076 (by decide +kernel) rfl
theorem zw_1077 : Cond.selects "ManagedBusModel" (zY 65) (zY 65) ∈ zGW := zGW_in 1077 (by decide +kernel) rfl
set_option maxRecDepth 100000 in
theorem zw_1078 : Cond.code (zY 65) (zB 65) (zL 65) (zRe 65) ∈ zGW := zGW_in 1078 rfl rfl
theorem zw_1079 : Cond.methodLink "ManagedBusModel" 270 (zY 60) ∈ zGW := zGW_in 1079 (by decide +kernel) rfl
theorem zw_1081 : Cond.instanceMethod (zY 60) ∈ zGW := zGW_in 1081 (by decide +kernel) rfl
set_option maxRecDepth 100000 in
theorem zw_1082 : Cond.code (zY 60) (zB 60) (zL 60) (zRe 60) ∈ zGW := zGW_in 1082 rfl rfl
theorem zw_1083 : Cond.methodLink "ManagedBusModel" 248 (zY 56) ∈ zGW := zGW_in 1083 (by decide +kernel) rfl
theorem zw_1085 : Cond.instanceMethod (zY 56) ∈ zGW := zGW_in 1085 (by decide +kernel) rfl
set_option maxRecDepth 100000 in
theorem zw_1086 : Cond.code (zY 56) (zB 56) (zL 56) (zRe 56) ∈ zGW := zGW_in 1086 rfl rfl
theorem zw_1087 : Cond.methodLink "ManagedBusModel" 242 (zY 26) ∈ zGW := zGW_in 1087 (by decide +kernel) rfl
theorem zw_1088 : Cond.static (zY 26) ∈ zGW := zGW_in 1088 (by decide +kernel) rfl
set_option maxRecDepth 100000 in
theorem zw_1089 : Cond.code (zY 26) (zB 26) (zL 26) (zRe 26) ∈ zGW := zGW_in 1089 rfl rfl
theorem zw_1090 : Cond.methodLink "ManagedBusModel" 252 (zY 58) ∈ zGW := zGW_in 1090 (by decide +kernel) rfl
theorem zw_1092 : Cond.instanceMethod (zY 58) ∈ zGW := zGW_in 1092 (by decide +kernel) rfl
set_option maxRecDepth 100000 in
theorem zw_1093 : Cond.code (zY 58) (zB 58) (zL 58) (zRe 58) ∈ zGW := zGW_in 1093 rfl rfl
theorem zw_1094 : Cond.methodLink "ManagedBusModel" 255 (zY 61) ∈ zGW := zGW_in 1094 (by decide +kernel) rfl
theorem zw_1096 : Cond.instanceMethod (zY 61) ∈ zGW := zGW_in 1096 (by decide +kernel) rfl
set_option maxRecDepth 100000 in
theorem zw_1097 : Cond.code (zY 61) (zB 61) (zL 61) (zRe 61) ∈ zGW := zGW_in 1097 rfl rfl
theorem zw_1098 : Cond.constant "ManagedBusModel" 176 (zI 65536) ∈ zGW := zGW_in 1098 (by decide +kernel) rfl
theorem zw_1099 : Cond.methodLink "ManagedBusModel" 245 (zY 57) ∈ zGW := zGW_in 1099 (by decide +kernel) rfl
theorem zw_1101 : Cond.instanceMethod (zY 57) ∈ zGW := zGW_in 1101 (by decide +kernel) rfl
set_option maxRecDepth 100000 in
theorem zw_1102 : Cond.code (zY 57) (zB 57) (zL 57) (zRe 57) ∈ zGW := zGW_in 1102 rfl rfl
theorem zw_1103 : Cond.methodLink "ManagedBusModel" 261 (zY 63) ∈ zGW := zGW_in 1103 (by decide +kernel) rfl
theorem zw_1105 : Cond.instanceMethod (zY 63) ∈ zGW := zGW_in 1105 (by decide +kernel) rfl
set_option maxRecDepth 100000 in
theorem zw_1106 : Cond.code (zY 63) (zB 63) (zL 63) (zRe 63) ∈ zGW := zGW_in 1106 rfl rfl
theorem zw_1107 : Cond.methodLink "ManagedBusModel" 214 (zY 47) ∈ zGW := zGW_in 1107 (by decide +kernel) rfl
theorem zw_1109 : Cond.instanceMethod (zY 47) ∈ zGW := zGW_in 1109 (by decide +kernel) rfl
set_option maxRecDepth 100000 in
theorem zw_1110 : Cond.code (zY 47) (zB 47) (zL 47) (zRe 47) ∈ zGW := zGW_in 1110 rfl rfl
theorem zw_1111 : Cond.methodLink "ManagedBusModel" 220 (zY 50) ∈ zGW := zGW_in 1111 (by decide +kernel) rfl
theorem zw_1113 : Cond.instanceMethod (zY 50) ∈ zGW := zGW_in 1113 (by decide +kernel) rfl
set_option maxRecDepth 100000 in
theorem zw_1114 : Cond.code (zY 50) (zB 50) (zL 50) (zRe 50) ∈ zGW := zGW_in 1114 rfl rfl
theorem zw_1115 : Cond.methodLink "ManagedBusModel" 211 (zY 49) ∈ zGW := zGW_in 1115 (by decide +kernel) rfl
theorem zw_1117 : Cond.instanceMethod (zY 49) ∈ zGW := zGW_in 1117 (by decide +kernel) rfl
set_option maxRecDepth 100000 in
theorem zw_1118 : Cond.code (zY 49) (zB 49) (zL 49) (zRe 49) ∈ zGW := zGW_in 1118 rfl rfl
theorem zw_1119 : Cond.methodLink "ManagedBusModel" 208 (zY 48) ∈ zGW := zGW_in 1119 (by decide +kernel) rfl
theorem zw_1120 : Cond.static (zY 48) ∈ zGW := zGW_in 1120 (by decide +kernel) rfl
set_option maxRecDepth 100000 in
theorem zw_1121 : Cond.code (zY 48) (zB 48) (zL 48) (zRe 48) ∈ zGW := zGW_in 1121 rfl rfl
theorem zw_1122 : Cond.methodLink "ManagedBusModel" 264 (zY 59) ∈ zGW := zGW_in 1122 (by decide +kernel) rfl
theorem zw_1124 : Cond.instanceMethod (zY 59) ∈ zGW := zGW_in 1124 (by decide +kernel) rfl
set_option maxRecDepth 100000 in
theorem zw_1125 : Cond.code (zY 59) (zB 59) (zL 59) (zRe 59) ∈ zGW := zGW_in 1125 rfl rfl
theorem zw_1126 : Cond.methodLink "ManagedBusModel" 233 (zY 51) ∈ zGW := zGW_in 1126 (by decide +kernel) rfl
theorem zw_1128 : Cond.instanceMethod (zY 51) ∈ zGW := zGW_in 1128 (by decide +kernel) rfl
set_option maxRecDepth 100000 in
theorem zw_1129 : Cond.code (zY 51) (zB 51) (zL 51) (zRe 51) ∈ zGW := zGW_in 1129 rfl rfl
theorem zw_1130 : Cond.methodLink "ManagedBusModel" 196 (zY 25) ∈ zGW := zGW_in 1130 (by decide +kernel) rfl
theorem zw_1131 : Cond.static (zY 25) ∈ zGW := zGW_in 1131 (by decide +kernel) rfl
set_option maxRecDepth 100000 in
theorem zw_1132 : Cond.code (zY 25) (zB 25) (zL 25) (zRe 25) ∈ zGW := zGW_in 1132 rfl rfl
theorem zw_1133 : Cond.methodLink "ManagedBusModel" 258 (zY 62) ∈ zGW := zGW_in 1133 (by decide +kernel) rfl
theorem zw_1135 : Cond.instanceMethod (zY 62) ∈ zGW := zGW_in 1135 (by decide +kernel) rfl
set_option maxRecDepth 100000 in
theorem zw_1136 : Cond.code (zY 62) (zB 62) (zL 62) (zRe 62) ∈ zGW := zGW_in 1136 rfl rfl
theorem zw_1137 : Cond.methodLink "ManagedBusModel" 273 (zY 54) ∈ zGW := zGW_in 1137 (by decide +kernel) rfl
theorem zw_1139 : Cond.instanceMethod (zY 54) ∈ zGW := zGW_in 1139 (by decide +kernel) rfl
set_option maxRecDepth 100000 in
theorem zw_1140 : Cond.code (zY 54) (zB 54) (zL 54) (zRe 54) ∈ zGW := zGW_in 1140 rfl rfl
theorem zw_1141 : Cond.methodLink "ManagedBusModel" 217 (zY 46) ∈ zGW := zGW_in 1141 (by decide +kernel) rfl
theorem zw_1143 : Cond.instanceMethod (zY 46) ∈ zGW := zGW_in 1143 (by decide +kernel) rfl
set_option maxRecDepth 100000 in
theorem zw_1144 : Cond.code (zY 46) (zB 46) (zL 46) (zRe 46) ∈ zGW := zGW_in 1144 rfl rfl
theorem zw_1145 : Cond.methodLink "ManagedBusModel" 226 (zY 52) ∈ zGW := zGW_in 1145 (by decide +kernel) rfl
theorem zw_1147 : Cond.instanceMethod (zY 52) ∈ zGW := zGW_in 1147 (by decide +kernel) rfl
set_option maxRecDepth 100000 in
theorem zw_1148 : Cond.code (zY 52) (zB 52) (zL 52) (zRe 52) ∈ zGW := zGW_in 1148 rfl rfl
theorem zw_1149 : Cond.methodLink "ManagedBusModel" 229 (zY 53) ∈ zGW := zGW_in 1149 (by decide +kernel) rfl
theorem zw_1151 : Cond.instanceMethod (zY 53) ∈ zGW := zGW_in 1151 (by decide +kernel) rfl
set_option maxRecDepth 100000 in
theorem zw_1152 : Cond.code (zY 53) (zB 53) (zL 53) (zRe 53) ∈ zGW := zGW_in 1152 rfl rfl
theorem zw_1153 : Cond.methodLink "ManagedBusModel" 236 (zY 55) ∈ zGW := zGW_in 1153 (by decide +kernel) rfl
theorem zw_1155 : Cond.instanceMethod (zY 55) ∈ zGW := zGW_in 1155 (by decide +kernel) rfl
set_option maxRecDepth 100000 in
theorem zw_1156 : Cond.code (zY 55) (zB 55) (zL 55) (zRe 55) ∈ zGW := zGW_in 1156 rfl rfl
theorem zw_1157 : Cond.methodLink "ManagedBusModel" 239 (zY 45) ∈ zGW := zGW_in 1157 (by decide +kernel) rfl
theorem zw_1159 : Cond.instanceMethod (zY 45) ∈ zGW := zGW_in 1159 (by decide +kernel) rfl
set_option maxRecDepth 100000 in
theorem zw_1160 : Cond.code (zY 45) (zB 45) (zL 45) (zRe 45) ∈ zGW := zGW_in 1160 rfl rfl
theorem zw_1161 : Cond.methodLink "ManagedBusModel" 199 (zY 44) ∈ zGW := zGW_in 1161 (by decide +kernel) rfl
theorem zw_1163 : Cond.instanceMethod (zY 44) ∈ zGW := zGW_in 1163 (by decide +kernel) rfl
set_option maxRecDepth 100000 in
theorem zw_1164 : Cond.code (zY 44) (zB 44) (zL 44) (zRe 44) ∈ zGW := zGW_in 1164 rfl rfl
theorem zw_1165 : Cond.methodLink "ManagedBusModel" 193 (zY 41) ∈ zGW := zGW_in 1165 (by decide +kernel) rfl
theorem zw_1167 : Cond.instanceMethod (zY 41) ∈ zGW := zGW_in 1167 (by decide +kernel) rfl
set_option maxRecDepth 100000 in
theorem zw_1168 : Cond.code (zY 41) (zB 41) (zL 41) (zRe 41) ∈ zGW := zGW_in 1168 rfl rfl
theorem zw_1169 : Cond.methodLink "ManagedBusModel" 181 (zY 40) ∈ zGW := zGW_in 1169 (by decide +kernel) rfl
theorem zw_1171 : Cond.instanceMethod (zY 40) ∈ zGW := zGW_in 1171 (by decide +kernel) rfl
set_option maxRecDepth 100000 in
theorem zw_1172 : Cond.code (zY 40) (zB 40) (zL 40) (zRe 40) ∈ zGW := zGW_in 1172 rfl rfl
theorem zw_1173 : Cond.methodLink "ManagedBusModel" 177 (zY 39) ∈ zGW := zGW_in 1173 (by decide +kernel) rfl
theorem zw_1175 : Cond.instanceMethod (zY 39) ∈ zGW := zGW_in 1175 (by decide +kernel) rfl
set_option maxRecDepth 100000 in
theorem zw_1176 : Cond.code (zY 39) (zB 39) (zL 39) (zRe 39) ∈ zGW := zGW_in 1176 rfl rfl
theorem zw_1177 : Cond.methodLink "ManagedBusModel" 183 (zY 42) ∈ zGW := zGW_in 1177 (by decide +kernel) rfl
theorem zw_1179 : Cond.instanceMethod (zY 42) ∈ zGW := zGW_in 1179 (by decide +kernel) rfl
set_option maxRecDepth 100000 in
theorem zw_1180 : Cond.code (zY 42) (zB 42) (zL 42) (zRe 42) ∈ zGW := zGW_in 1180 rfl rfl
theorem zw_1181 : Cond.methodLink "ManagedBusModel" 186 (zY 43) ∈ zGW := zGW_in 1181 (by decide +kernel) rfl
theorem zw_1183 : Cond.instanceMethod (zY 43) ∈ zGW := zGW_in 1183 (by decide +kernel) rfl
set_option maxRecDepth 100000 in
theorem zw_1184 : Cond.code (zY 43) (zB 43) (zL 43) (zRe 43) ∈ zGW := zGW_in 1184 rfl rfl
theorem zw_1185 : Cond.methodLink "ManagedBusModel" 276 (zY 64) ∈ zGW := zGW_in 1185 (by decide +kernel) rfl
theorem zw_1187 : Cond.instanceMethod (zY 64) ∈ zGW := zGW_in 1187 (by decide +kernel) rfl
set_option maxRecDepth 100000 in
theorem zw_1188 : Cond.code (zY 64) (zB 64) (zL 64) (zRe 64) ∈ zGW := zGW_in 1188 rfl rfl
theorem zw_1189 : Cond.methodLink "ManagedBusLaw" 53 (zY 66) ∈ zGW := zGW_in 1189 (by decide +kernel) rfl
theorem zw_1190 : Cond.instanceMethod (zY 66) ∈ zGW := zGW_in 1190 (by decide +kernel) rfl
theorem zw_1191 : Cond.selects "ManagedBusModel" (zY 66) (zY 66) ∈ zGW := zGW_in 1191 (by decide +kernel) rfl
set_option maxRecDepth 100000 in
theorem zw_1192 : Cond.code (zY 66) (zB 66) (zL 66) (zRe 66) ∈ zGW := zGW_in 1192 rfl rfl
theorem zw_1193 : Cond.methodLink "ManagedBusLaw" 57 (zY 67) ∈ zGW := zGW_in 1193 (by decide +kernel) rfl
theorem zw_1194 : Cond.instanceMethod (zY 67) ∈ zGW := zGW_in 1194 (by decide +kernel) rfl
theorem zw_1195 : Cond.selects "ManagedBusModel" (zY 67) (zY 67) ∈ zGW := zGW_in 1195 (by decide +kernel) rfl
set_option maxRecDepth 100000 in
theorem zw_1196 : Cond.code (zY 67) (zB 67) (zL 67) (zRe 67) ∈ zGW := zGW_in 1196 rfl rfl
theorem zw_1197 : Cond.methodLink "ManagedBusLaw" 61 (zY 68) ∈ zGW := zGW_in 1197 (by decide +kernel) rfl
theorem zw_1198 : Cond.instanceMethod (zY 68) ∈ zGW := zGW_in 1198 (by decide +kernel) rfl
theorem zw_1199 : Cond.selects "ManagedBusModel" (zY 68) (zY 68) ∈ zGW := zGW_in 1199 (by decide +kernel) rfl
set_option maxRecDepth 100000 in
theorem zw_1200 : Cond.code (zY 68) (zB 68) (zL 68) (zRe 68) ∈ zGW := zGW_in 1200 rfl rfl
theorem zw_1201 : Cond.methodLink "ManagedBusLaw" 65 (zY 69) ∈ zGW := zGW_in 1201 (by decide +kernel) rfl
theorem zw_1202 : Cond.instanceMethod (zY 69) ∈ zGW := zGW_in 1202 (by decide +kernel) rfl
theorem zw_1203 : Cond.selects "ManagedBusModel" (zY 69) (zY 69) ∈ zGW := zGW_in 1203 (by decide +kernel) rfl
set_option maxRecDepth 100000 in
theorem zw_1204 : Cond.code (zY 69) (zB 69) (zL 69) (zRe 69) ∈ zGW := zGW_in 1204 rfl rfl
theorem zw_1205 : Cond.methodLink "ManagedBusLaw" 69 (zY 70) ∈ zGW := zGW_in 1205 (by decide +kernel) rfl
theorem zw_1206 : Cond.instanceMethod (zY 70) ∈ zGW := zGW_in 1206 (by decide +kernel) rfl
theorem zw_1207 : Cond.selects "ManagedBusModel" (zY 70) (zY 70) ∈ zGW := zGW_in 1207 (by decide +kernel) rfl
set_option maxRecDepth 100000 in
theorem zw_1208 : Cond.code (zY 70) (zB 70) (zL 70) (zRe 70) ∈ zGW := zGW_in 1208 rfl rfl
theorem zw_1209 : Cond.methodLink "ManagedBusLaw" 73 (zY 71) ∈ zGW := zGW_in 1209 (by decide +kernel) rfl
theorem zw_1210 : Cond.instanceMethod (zY 71) ∈ zGW := zGW_in 1210 (by decide +kernel) rfl
theorem zw_1211 : Cond.selects "ManagedBusModel" (zY 71) (zY 71) ∈ zGW := zGW_in 1211 (by decide +kernel) rfl
set_option maxRecDepth 100000 in
theorem zw_1212 : Cond.code (zY 71) (zB 71) (zL 71) (zRe 71) ∈ zGW := zGW_in 1212 rfl rfl
theorem zw_1213 : Cond.methodLink "ManagedBusLaw" 77 (zY 72) ∈ zGW := zGW_in 1213 (by decide +kernel) rfl
theorem zw_1214 : Cond.instanceMethod (zY 72) ∈ zGW := zGW_in 1214 (by decide +kernel) rfl
theorem zw_1215 : Cond.selects "ManagedBusModel" (zY 72) (zY 72) ∈ zGW := zGW_in 1215 (by decide +kernel) rfl
set_option maxRecDepth 100000 in
theorem zw_1216 : Cond.code (zY 72) (zB 72) (zL 72) (zRe 72) ∈ zGW := zGW_in 1216 rfl rfl
theorem zw_1217 : Cond.constant "ManagedBusModel" 279 (zI (-40000)) ∈ zGW := zGW_in 1217 (by decide +kernel) rfl
theorem zw_1218 : Cond.methodLink "ManagedBusLaw" 81 (zY 73) ∈ zGW := zGW_in 1218 (by decide +kernel) rfl
theorem zw_1219 : Cond.instanceMethod (zY 73) ∈ zGW := zGW_in 1219 (by decide +kernel) rfl
theorem zw_1220 : Cond.selects "ManagedBusModel" (zY 73) (zY 73) ∈ zGW := zGW_in 1220 (by decide +kernel) rfl
set_option maxRecDepth 100000 in
theorem zw_1221 : Cond.code (zY 73) (zB 73) (zL 73) (zRe 73) ∈ zGW := zGW_in 1221 rfl rfl
theorem zsel_0 : Cond.selects "ManagedBus$Enumeration" (zY 98) (zY 98) ∈ zGW := zGW_sel 0 (by decide +kernel) rfl
theorem zsel_1 : Cond.selects "ManagedBus" (zY 20) (zY 20) ∈ zGW := zGW_sel 1 (by decide +kernel) rfl
theorem zsel_2 : Cond.selects "ManagedBus$Enumeration" (zY 91) (zY 91) ∈ zGW := zGW_sel 2 (by decide +kernel) rfl
theorem zsel_3 : Cond.selects "ManagedBus$Enumeration" (zY 92) (zY 92) ∈ zGW := zGW_sel 3 (by decide +kernel) rfl
theorem zsel_4 : Cond.selects "ManagedBus$Enumeration" (zY 93) (zY 93) ∈ zGW := zGW_sel 4 (by decide +kernel) rfl
theorem zsel_5 : Cond.selects "ManagedBus$Enumeration" (zY 100) (zY 100) ∈ zGW := zGW_sel 5 (by decide +kernel) rfl
theorem zsel_6 : Cond.selects "ManagedBus$Enumeration" (zY 101) (zY 101) ∈ zGW := zGW_sel 6 (by decide +kernel) rfl
theorem zsel_7 : Cond.selects "ManagedBus$Enumeration" (zY 94) (zY 94) ∈ zGW := zGW_sel 7 (by decide +kernel) rfl
theorem zsel_8 : Cond.selects "ManagedBus$Row" (zY 145) (zY 145) ∈ zGW := zGW_sel 8 (by decide +kernel) rfl
theorem zsel_9 : Cond.selects "ManagedBus$Enumeration" (zY 95) (zY 95) ∈ zGW := zGW_sel 9 (by decide +kernel) rfl
theorem zsel_10 : Cond.selects "ManagedBus$Enumeration" (zY 96) (zY 96) ∈ zGW := zGW_sel 10 (by decide +kernel) rfl
theorem zsel_11 : Cond.selects "ManagedBus$Enumeration" (zY 97) (zY 97) ∈ zGW := zGW_sel 11 (by decide +kernel) rfl
theorem zsel_12 : Cond.selects "ManagedBus$Enumeration" (zY 99) (zY 99) ∈ zGW := zGW_sel 12 (by decide +kernel) rfl
theorem zsel_13 : Cond.selects "ManagedBus$Bus" (zY 79) (zY 79) ∈ zGW := zGW_sel 13 (by decide +kernel) rfl
theorem zsel_14 : Cond.selects "ManagedBus$Bus" (zY 80) (zY 80) ∈ zGW := zGW_sel 14 (by decide +kernel) rfl
theorem zsel_15 : Cond.selects "ManagedBus$Bus" (zY 81) (zY 81) ∈ zGW := zGW_sel 15 (by decide +kernel) rfl
theorem zsel_16 : Cond.selects "ManagedBus" (zY 21) (zY 21) ∈ zGW := zGW_sel 16 (by decide +kernel) rfl
theorem zsel_17 : Cond.selects "ManagedBus$SensingNode" (zY 154) (zY 154) ∈ zGW := zGW_sel 17 (by decide +kernel) rfl
theorem zsel_18 : Cond.selects "ManagedBus$SensingNode" (zY 153) (zY 153) ∈ zGW := zGW_sel 18 (by decide +kernel) rfl
theorem zsel_19 : Cond.selects "ManagedBus$SensingNode" (zY 149) (zY 149) ∈ zGW := zGW_sel 19 (by decide +kernel) rfl
theorem zsel_20 : Cond.selects "ManagedBus$Manager" (zY 110) (zY 110) ∈ zGW := zGW_sel 20 (by decide +kernel) rfl
theorem zsel_21 : Cond.selects "ManagedBus$Manager" (zY 108) (zY 108) ∈ zGW := zGW_sel 21 (by decide +kernel) rfl
theorem zsel_22 : Cond.selects "ManagedBus$Manager" (zY 106) (zY 106) ∈ zGW := zGW_sel 22 (by decide +kernel) rfl
theorem zsel_23 : Cond.selects "ManagedBus" (zY 19) (zY 19) ∈ zGW := zGW_sel 23 (by decide +kernel) rfl
theorem zsel_24 : Cond.selects "ManagedBusModel" (zY 35) (zY 35) ∈ zGW := zGW_sel 24 (by decide +kernel) rfl
theorem zsel_25 : Cond.selects "ManagedBusModel" (zY 37) (zY 37) ∈ zGW := zGW_sel 25 (by decide +kernel) rfl
theorem zsel_26 : Cond.selects "ManagedBusModel" (zY 28) (zY 28) ∈ zGW := zGW_sel 26 (by decide +kernel) rfl
theorem zsel_27 : Cond.selects "ManagedBusModel" (zY 38) (zY 38) ∈ zGW := zGW_sel 27 (by decide +kernel) rfl
theorem zsel_28 : Cond.selects "ManagedBusModel" (zY 60) (zY 60) ∈ zGW := zGW_sel 28 (by decide +kernel) rfl
theorem zsel_29 : Cond.selects "ManagedBusModel" (zY 56) (zY 56) ∈ zGW := zGW_sel 29 (by decide +kernel) rfl
theorem zsel_30 : Cond.selects "ManagedBusModel" (zY 58) (zY 58) ∈ zGW := zGW_sel 30 (by decide +kernel) rfl
theorem zsel_31 : Cond.selects "ManagedBusModel" (zY 61) (zY 61) ∈ zGW := zGW_sel 31 (by decide +kernel) rfl
theorem zsel_32 : Cond.selects "ManagedBusModel" (zY 57) (zY 57) ∈ zGW := zGW_sel 32 (by decide +kernel) rfl
theorem zsel_33 : Cond.selects "ManagedBusModel" (zY 63) (zY 63) ∈ zGW := zGW_sel 33 (by decide +kernel) rfl
theorem zsel_34 : Cond.selects "ManagedBusModel" (zY 47) (zY 47) ∈ zGW := zGW_sel 34 (by decide +kernel) rfl
theorem zsel_35 : Cond.selects "ManagedBusModel" (zY 50) (zY 50) ∈ zGW := zGW_sel 35 (by decide +kernel) rfl
theorem zsel_36 : Cond.selects "ManagedBusModel" (zY 49) (zY 49) ∈ zGW := zGW_sel 36 (by decide +kernel) rfl
theorem zsel_37 : Cond.selects "ManagedBusModel" (zY 59) (zY 59) ∈ zGW := zGW_sel 37 (by decide +kernel) rfl
theorem zsel_38 : Cond.selects "ManagedBusModel" (zY 51) (zY 51) ∈ zGW := zGW_sel 38 (by decide +kernel) rfl
theorem zsel_39 : Cond.selects "ManagedBusModel" (zY 62) (zY 62) ∈ zGW := zGW_sel 39 (by decide +kernel) rfl
theorem zsel_40 : Cond.selects "ManagedBusModel" (zY 54) (zY 54) ∈ zGW := zGW_sel 40 (by decide +kernel) rfl
theorem zsel_41 : Cond.selects "ManagedBusModel" (zY 46) (zY 46) ∈ zGW := zGW_sel 41 (by decide +kernel) rfl
theorem zsel_42 : Cond.selects "ManagedBusModel" (zY 52) (zY 52) ∈ zGW := zGW_sel 42 (by decide +kernel) rfl
theorem zsel_43 : Cond.selects "ManagedBusModel" (zY 53) (zY 53) ∈ zGW := zGW_sel 43 (by decide +kernel) rfl
theorem zsel_44 : Cond.selects "ManagedBusModel" (zY 55) (zY 55) ∈ zGW := zGW_sel 44 (by decide +kernel) rfl
theorem zsel_45 : Cond.selects "ManagedBusModel" (zY 45) (zY 45) ∈ zGW := zGW_sel 45 (by decide +kernel) rfl
theorem zsel_46 : Cond.selects "ManagedBusModel" (zY 44) (zY 44) ∈ zGW := zGW_sel 46 (by decide +kernel) rfl
theorem zsel_47 : Cond.selects "ManagedBusModel" (zY 41) (zY 41) ∈ zGW := zGW_sel 47 (by decide +kernel) rfl
theorem zsel_48 : Cond.selects "ManagedBusModel" (zY 40) (zY 40) ∈ zGW := zGW_sel 48 (by decide +kernel) rfl
theorem zsel_49 : Cond.selects "ManagedBusModel" (zY 39) (zY 39) ∈ zGW := zGW_sel 49 (by decide +kernel) rfl
theorem zsel_50 : Cond.selects "ManagedBusModel" (zY 42) (zY 42) ∈ zGW := zGW_sel 50 (by decide +kernel) rfl
theorem zsel_51 : Cond.selects "ManagedBusModel" (zY 43) (zY 43) ∈ zGW := zGW_sel 51 (by decide +kernel) rfl
theorem zsel_52 : Cond.selects "ManagedBusModel" (zY 64) (zY 64) ∈ zGW := zGW_sel 52 (by decide +kernel) rfl
theorem zw_int : Cond.arrayClass .int ∈ zGW := zw_85
theorem zw_boolean : Cond.arrayClass .boolean ∈ zGW := zw_1023
