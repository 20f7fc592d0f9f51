theorem fl_Table_11 : FL "RollingNets$Table" 11 2 0 true (.array (.array .int)) := ⟨_, _, _, _, ckc_2, by decide, rfl, rfl, Or.inl tm_153⟩
theorem fl_Table_16 : FL "RollingNets$Table" 16 2 1 true (.int) := ⟨_, _, _, _, ckc_2, by decide, rfl, rfl, Or.inl tm_154⟩
theorem fl_Table_20 : FL "RollingNets$Table" 20 2 2 false (.int) := ⟨_, _, _, _, ckc_2, by decide, rfl, rfl, Or.inl tm_155⟩
theorem fl_Line_9 : FL "RollingNets$Line" 9 3 0 true (.array .int) := ⟨_, _, _, _, ckc_3, by decide, rfl, rfl, Or.inl tm_172⟩
theorem fl_Night_152 : FL "RollingNets$Night" 152 3 0 true (.array .int) := ⟨_, _, _, _, ckc_3, by decide, rfl, rfl, Or.inr ⟨_, NTB_mem (w := Cond.fieldLinkNest "RollingNets$Night" 152 "RollingNets$Line" "member" "[I" "RollingNets") 173 (by decide +kernel) (by decide +kernel)⟩⟩
theorem fl_Figures_139 : FL "RollingNets$Figures" 139 3 0 true (.array .int) := ⟨_, _, _, _, ckc_3, by decide, rfl, rfl, Or.inr ⟨_, NTB_mem (w := Cond.fieldLinkNest "RollingNets$Figures" 139 "RollingNets$Line" "member" "[I" "RollingNets") 174 (by decide +kernel) (by decide +kernel)⟩⟩
theorem fl_RollingNets_248 : FL "RollingNets" 248 3 0 true (.array .int) := ⟨_, _, _, _, ckc_3, by decide, rfl, rfl, Or.inr ⟨_, NTB_mem (w := Cond.fieldLinkNest "RollingNets" 248 "RollingNets$Line" "member" "[I" "RollingNets") 175 (by decide +kernel) (by decide +kernel)⟩⟩
theorem fl_Line_15 : FL "RollingNets$Line" 15 3 1 true (.array .int) := ⟨_, _, _, _, ckc_3, by decide, rfl, rfl, Or.inl tm_176⟩
theorem fl_Night_156 : FL "RollingNets$Night" 156 3 1 true (.array .int) := ⟨_, _, _, _, ckc_3, by decide, rfl, rfl, Or.inr ⟨_, NTB_mem (w := Cond.fieldLinkNest "RollingNets$Night" 156 "RollingNets$Line" "day" "[I" "RollingNets") 177 (by decide +kernel) (by decide +kernel)⟩⟩
theorem fl_Figures_142 : FL "RollingNets$Figures" 142 3 1 true (.array .int) := ⟨_, _, _, _, ckc_3, by decide, rfl, rfl, Or.inr ⟨_, NTB_mem (w := Cond.fieldLinkNest "RollingNets$Figures" 142 "RollingNets$Line" "day" "[I" "RollingNets") 178 (by decide +kernel) (by decide +kernel)⟩⟩
theorem fl_RollingNets_251 : FL "RollingNets" 251 3 1 true (.array .int) := ⟨_, _, _, _, ckc_3, by decide, rfl, rfl, Or.inr ⟨_, NTB_mem (w := Cond.fieldLinkNest "RollingNets" 251 "RollingNets$Line" "day" "[I" "RollingNets") 179 (by decide +kernel) (by decide +kernel)⟩⟩
theorem fl_Line_18 : FL "RollingNets$Line" 18 3 2 false (.int) := ⟨_, _, _, _, ckc_3, by decide, rfl, rfl, Or.inl tm_180⟩
theorem fl_Night_150 : FL "RollingNets$Night" 150 3 2 false (.int) := ⟨_, _, _, _, ckc_3, by decide, rfl, rfl, Or.inr ⟨_, NTB_mem (w := Cond.fieldLinkNest "RollingNets$Night" 150 "RollingNets$Line" "size" "I" "RollingNets") 181 (by decide +kernel) (by decide +kernel)⟩⟩
theorem fl_Figures_137 : FL "RollingNets$Figures" 137 3 2 false (.int) := ⟨_, _, _, _, ckc_3, by decide, rfl, rfl, Or.inr ⟨_, NTB_mem (w := Cond.fieldLinkNest "RollingNets$Figures" 137 "RollingNets$Line" "size" "I" "RollingNets") 182 (by decide +kernel) (by decide +kernel)⟩⟩
theorem fl_RollingNets_246 : FL "RollingNets" 246 3 2 false (.int) := ⟨_, _, _, _, ckc_3, by decide, rfl, rfl, Or.inr ⟨_, NTB_mem (w := Cond.fieldLinkNest "RollingNets" 246 "RollingNets$Line" "size" "I" "RollingNets") 183 (by decide +kernel) (by decide +kernel)⟩⟩
theorem fl_Line_22 : FL "RollingNets$Line" 22 3 3 true (.array .int) := ⟨_, _, _, _, ckc_3, by decide, rfl, rfl, Or.inl tm_184⟩
theorem fl_Market_9 : FL "RollingNets$Market" 9 4 0 true (.array .long) := ⟨_, _, _, _, ckc_4, by decide, rfl, rfl, Or.inl tm_203⟩
theorem fl_Figures_46 : FL "RollingNets$Figures" 46 4 0 true (.array .long) := ⟨_, _, _, _, ckc_4, by decide, rfl, rfl, Or.inr ⟨_, NTB_mem (w := Cond.fieldLinkNest "RollingNets$Figures" 46 "RollingNets$Market" "stock" "[J" "RollingNets") 204 (by decide +kernel) (by decide +kernel)⟩⟩
theorem fl_RollingNets_76 : FL "RollingNets" 76 4 0 true (.array .long) := ⟨_, _, _, _, ckc_4, by decide, rfl, rfl, Or.inr ⟨_, NTB_mem (w := Cond.fieldLinkNest "RollingNets" 76 "RollingNets$Market" "stock" "[J" "RollingNets") 205 (by decide +kernel) (by decide +kernel)⟩⟩
theorem fl_House_90 : FL "RollingNets$House" 90 4 0 true (.array .long) := ⟨_, _, _, _, ckc_4, by decide, rfl, rfl, Or.inr ⟨_, NTB_mem (w := Cond.fieldLinkNest "RollingNets$House" 90 "RollingNets$Market" "stock" "[J" "RollingNets") 206 (by decide +kernel) (by decide +kernel)⟩⟩
theorem fl_Night_118 : FL "RollingNets$Night" 118 4 0 true (.array .long) := ⟨_, _, _, _, ckc_4, by decide, rfl, rfl, Or.inr ⟨_, NTB_mem (w := Cond.fieldLinkNest "RollingNets$Night" 118 "RollingNets$Market" "stock" "[J" "RollingNets") 207 (by decide +kernel) (by decide +kernel)⟩⟩
theorem fl_Notices_126 : FL "RollingNets$Notices" 126 4 0 true (.array .long) := ⟨_, _, _, _, ckc_4, by decide, rfl, rfl, Or.inr ⟨_, NTB_mem (w := Cond.fieldLinkNest "RollingNets$Notices" 126 "RollingNets$Market" "stock" "[J" "RollingNets") 208 (by decide +kernel) (by decide +kernel)⟩⟩
theorem fl_Market_15 : FL "RollingNets$Market" 15 4 1 true (.array .int) := ⟨_, _, _, _, ckc_4, by decide, rfl, rfl, Or.inl tm_209⟩
theorem fl_RollingNets_82 : FL "RollingNets" 82 4 1 true (.array .int) := ⟨_, _, _, _, ckc_4, by decide, rfl, rfl, Or.inr ⟨_, NTB_mem (w := Cond.fieldLinkNest "RollingNets" 82 "RollingNets$Market" "reserved" "[I" "RollingNets") 210 (by decide +kernel) (by decide +kernel)⟩⟩
theorem fl_House_93 : FL "RollingNets$House" 93 4 1 true (.array .int) := ⟨_, _, _, _, ckc_4, by decide, rfl, rfl, Or.inr ⟨_, NTB_mem (w := Cond.fieldLinkNest "RollingNets$House" 93 "RollingNets$Market" "reserved" "[I" "RollingNets") 211 (by decide +kernel) (by decide +kernel)⟩⟩
theorem fl_Market_19 : FL "RollingNets$Market" 19 4 2 true (.array .int) := ⟨_, _, _, _, ckc_4, by decide, rfl, rfl, Or.inl tm_212⟩
theorem fl_RollingNets_85 : FL "RollingNets" 85 4 2 true (.array .int) := ⟨_, _, _, _, ckc_4, by decide, rfl, rfl, Or.inr ⟨_, NTB_mem (w := Cond.fieldLinkNest "RollingNets" 85 "RollingNets$Market" "lends" "[I" "RollingNets") 213 (by decide +kernel) (by decide +kernel)⟩⟩
theorem fl_House_106 : FL "RollingNets$House" 106 4 2 true (.array .int) := ⟨_, _, _, _, ckc_4, by decide, rfl, rfl, Or.inr ⟨_, NTB_mem (w := Cond.fieldLinkNest "RollingNets$House" 106 "RollingNets$Market" "lends" "[I" "RollingNets") 214 (by decide +kernel) (by decide +kernel)⟩⟩
theorem fl_Market_22 : FL "RollingNets$Market" 22 4 3 true (.array .int) := ⟨_, _, _, _, ckc_4, by decide, rfl, rfl, Or.inl tm_215⟩
theorem fl_House_109 : FL "RollingNets$House" 109 4 3 true (.array .int) := ⟨_, _, _, _, ckc_4, by decide, rfl, rfl, Or.inr ⟨_, NTB_mem (w := Cond.fieldLinkNest "RollingNets$House" 109 "RollingNets$Market" "lent" "[I" "RollingNets") 216 (by decide +kernel) (by decide +kernel)⟩⟩
theorem fl_Night_160 : FL "RollingNets$Night" 160 4 3 true (.array .int) := ⟨_, _, _, _, ckc_4, by decide, rfl, rfl, Or.inr ⟨_, NTB_mem (w := Cond.fieldLinkNest "RollingNets$Night" 160 "RollingNets$Market" "lent" "[I" "RollingNets") 217 (by decide +kernel) (by decide +kernel)⟩⟩
theorem fl_Market_25 : FL "RollingNets$Market" 25 4 4 true (.array .int) := ⟨_, _, _, _, ckc_4, by decide, rfl, rfl, Or.inl tm_218⟩
theorem fl_Night_196 : FL "RollingNets$Night" 196 4 4 true (.array .int) := ⟨_, _, _, _, ckc_4, by decide, rfl, rfl, Or.inr ⟨_, NTB_mem (w := Cond.fieldLinkNest "RollingNets$Night" 196 "RollingNets$Market" "fails" "[I" "RollingNets") 219 (by decide +kernel) (by decide +kernel)⟩⟩
theorem fl_RollingNets_195 : FL "RollingNets" 195 4 4 true (.array .int) := ⟨_, _, _, _, ckc_4, by decide, rfl, rfl, Or.inr ⟨_, NTB_mem (w := Cond.fieldLinkNest "RollingNets" 195 "RollingNets$Market" "fails" "[I" "RollingNets") 220 (by decide +kernel) (by decide +kernel)⟩⟩
theorem fl_Market_28 : FL "RollingNets$Market" 28 4 5 true (.array .int) := ⟨_, _, _, _, ckc_4, by decide, rfl, rfl, Or.inl tm_221⟩
theorem fl_Night_184 : FL "RollingNets$Night" 184 4 5 true (.array .int) := ⟨_, _, _, _, ckc_4, by decide, rfl, rfl, Or.inr ⟨_, NTB_mem (w := Cond.fieldLinkNest "RollingNets$Night" 184 "RollingNets$Market" "position" "[I" "RollingNets") 222 (by decide +kernel) (by decide +kernel)⟩⟩
theorem fl_House_152 : FL "RollingNets$House" 152 4 5 true (.array .int) := ⟨_, _, _, _, ckc_4, by decide, rfl, rfl, Or.inr ⟨_, NTB_mem (w := Cond.fieldLinkNest "RollingNets$House" 152 "RollingNets$Market" "position" "[I" "RollingNets") 223 (by decide +kernel) (by decide +kernel)⟩⟩
theorem fl_Figures_122 : FL "RollingNets$Figures" 122 4 5 true (.array .int) := ⟨_, _, _, _, ckc_4, by decide, rfl, rfl, Or.inr ⟨_, NTB_mem (w := Cond.fieldLinkNest "RollingNets$Figures" 122 "RollingNets$Market" "position" "[I" "RollingNets") 224 (by decide +kernel) (by decide +kernel)⟩⟩
theorem fl_Market_33 : FL "RollingNets$Market" 33 4 6 true (.array (.array .int)) := ⟨_, _, _, _, ckc_4, by decide, rfl, rfl, Or.inl tm_225⟩
theorem fl_Night_96 : FL "RollingNets$Night" 96 4 6 true (.array (.array .int)) := ⟨_, _, _, _, ckc_4, by decide, rfl, rfl, Or.inr ⟨_, NTB_mem (w := Cond.fieldLinkNest "RollingNets$Night" 96 "RollingNets$Market" "lots" "[[I" "RollingNets") 226 (by decide +kernel) (by decide +kernel)⟩⟩
theorem fl_Line_63 : FL "RollingNets$Line" 63 4 6 true (.array (.array .int)) := ⟨_, _, _, _, ckc_4, by decide, rfl, rfl, Or.inr ⟨_, NTB_mem (w := Cond.fieldLinkNest "RollingNets$Line" 63 "RollingNets$Market" "lots" "[[I" "RollingNets") 227 (by decide +kernel) (by decide +kernel)⟩⟩
theorem fl_Notices_89 : FL "RollingNets$Notices" 89 4 6 true (.array (.array .int)) := ⟨_, _, _, _, ckc_4, by decide, rfl, rfl, Or.inr ⟨_, NTB_mem (w := Cond.fieldLinkNest "RollingNets$Notices" 89 "RollingNets$Market" "lots" "[[I" "RollingNets") 228 (by decide +kernel) (by decide +kernel)⟩⟩
theorem fl_Figures_86 : FL "RollingNets$Figures" 86 4 6 true (.array (.array .int)) := ⟨_, _, _, _, ckc_4, by decide, rfl, rfl, Or.inr ⟨_, NTB_mem (w := Cond.fieldLinkNest "RollingNets$Figures" 86 "RollingNets$Market" "lots" "[[I" "RollingNets") 229 (by decide +kernel) (by decide +kernel)⟩⟩
theorem fl_RollingNets_205 : FL "RollingNets" 205 4 6 true (.array (.array .int)) := ⟨_, _, _, _, ckc_4, by decide, rfl, rfl, Or.inr ⟨_, NTB_mem (w := Cond.fieldLinkNest "RollingNets" 205 "RollingNets$Market" "lots" "[[I" "RollingNets") 230 (by decide +kernel) (by decide +kernel)⟩⟩
theorem fl_Market_36 : FL "RollingNets$Market" 36 4 7 false (.int) := ⟨_, _, _, _, ckc_4, by decide, rfl, rfl, Or.inl tm_231⟩
theorem fl_Figures_15 : FL "RollingNets$Figures" 15 4 7 false (.int) := ⟨_, _, _, _, ckc_4, by decide, rfl, rfl, Or.inr ⟨_, NTB_mem (w := Cond.fieldLinkNest "RollingNets$Figures" 15 "RollingNets$Market" "price" "I" "RollingNets") 232 (by decide +kernel) (by decide +kernel)⟩⟩
theorem fl_RollingNets_91 : FL "RollingNets" 91 4 7 false (.int) := ⟨_, _, _, _, ckc_4, by decide, rfl, rfl, Or.inr ⟨_, NTB_mem (w := Cond.fieldLinkNest "RollingNets" 91 "RollingNets$Market" "price" "I" "RollingNets") 233 (by decide +kernel) (by decide +kernel)⟩⟩
theorem fl_House_119 : FL "RollingNets$House" 119 4 7 false (.int) := ⟨_, _, _, _, ckc_4, by decide, rfl, rfl, Or.inr ⟨_, NTB_mem (w := Cond.fieldLinkNest "RollingNets$House" 119 "RollingNets$Market" "price" "I" "RollingNets") 234 (by decide +kernel) (by decide +kernel)⟩⟩
theorem fl_Night_181 : FL "RollingNets$Night" 181 4 7 false (.int) := ⟨_, _, _, _, ckc_4, by decide, rfl, rfl, Or.inr ⟨_, NTB_mem (w := Cond.fieldLinkNest "RollingNets$Night" 181 "RollingNets$Market" "price" "I" "RollingNets") 235 (by decide +kernel) (by decide +kernel)⟩⟩
theorem fl_Market_40 : FL "RollingNets$Market" 40 4 8 false (.int) := ⟨_, _, _, _, ckc_4, by decide, rfl, rfl, Or.inl tm_236⟩
theorem fl_Figures_21 : FL "RollingNets$Figures" 21 4 8 false (.int) := ⟨_, _, _, _, ckc_4, by decide, rfl, rfl, Or.inr ⟨_, NTB_mem (w := Cond.fieldLinkNest "RollingNets$Figures" 21 "RollingNets$Market" "marked" "I" "RollingNets") 237 (by decide +kernel) (by decide +kernel)⟩⟩
theorem fl_Night_74 : FL "RollingNets$Night" 74 4 8 false (.int) := ⟨_, _, _, _, ckc_4, by decide, rfl, rfl, Or.inr ⟨_, NTB_mem (w := Cond.fieldLinkNest "RollingNets$Night" 74 "RollingNets$Market" "marked" "I" "RollingNets") 238 (by decide +kernel) (by decide +kernel)⟩⟩
theorem fl_Market_43 : FL "RollingNets$Market" 43 4 9 false (.int) := ⟨_, _, _, _, ckc_4, by decide, rfl, rfl, Or.inl tm_239⟩
theorem fl_RollingNets_99 : FL "RollingNets" 99 4 9 false (.int) := ⟨_, _, _, _, ckc_4, by decide, rfl, rfl, Or.inr ⟨_, NTB_mem (w := Cond.fieldLinkNest "RollingNets" 99 "RollingNets$Market" "payout" "I" "RollingNets") 240 (by decide +kernel) (by decide +kernel)⟩⟩
theorem fl_Night_187 : FL "RollingNets$Night" 187 4 9 false (.int) := ⟨_, _, _, _, ckc_4, by decide, rfl, rfl, Or.inr ⟨_, NTB_mem (w := Cond.fieldLinkNest "RollingNets$Night" 187 "RollingNets$Market" "payout" "I" "RollingNets") 241 (by decide +kernel) (by decide +kernel)⟩⟩
theorem fl_Market_46 : FL "RollingNets$Market" 46 4 10 false (.int) := ⟨_, _, _, _, ckc_4, by decide, rfl, rfl, Or.inl tm_242⟩
theorem fl_Notices_72 : FL "RollingNets$Notices" 72 4 10 false (.int) := ⟨_, _, _, _, ckc_4, by decide, rfl, rfl, Or.inr ⟨_, NTB_mem (w := Cond.fieldLinkNest "RollingNets$Notices" 72 "RollingNets$Market" "endDay" "I" "RollingNets") 243 (by decide +kernel) (by decide +kernel)⟩⟩
theorem fl_Line_58 : FL "RollingNets$Line" 58 4 10 false (.int) := ⟨_, _, _, _, ckc_4, by decide, rfl, rfl, Or.inr ⟨_, NTB_mem (w := Cond.fieldLinkNest "RollingNets$Line" 58 "RollingNets$Market" "endDay" "I" "RollingNets") 244 (by decide +kernel) (by decide +kernel)⟩⟩
theorem fl_Night_90 : FL "RollingNets$Night" 90 4 10 false (.int) := ⟨_, _, _, _, ckc_4, by decide, rfl, rfl, Or.inr ⟨_, NTB_mem (w := Cond.fieldLinkNest "RollingNets$Night" 90 "RollingNets$Market" "endDay" "I" "RollingNets") 245 (by decide +kernel) (by decide +kernel)⟩⟩
theorem fl_Figures_83 : FL "RollingNets$Figures" 83 4 10 false (.int) := ⟨_, _, _, _, ckc_4, by decide, rfl, rfl, Or.inr ⟨_, NTB_mem (w := Cond.fieldLinkNest "RollingNets$Figures" 83 "RollingNets$Market" "endDay" "I" "RollingNets") 246 (by decide +kernel) (by decide +kernel)⟩⟩
theorem fl_House_13 : FL "RollingNets$House" 13 1 0 true (.array .int) := ⟨_, _, _, _, ckc_1, by decide, rfl, rfl, Or.inl tm_270⟩
theorem fl_RollingNets_57 : FL "RollingNets" 57 1 0 true (.array .int) := ⟨_, _, _, _, ckc_1, by decide, rfl, rfl, Or.inr ⟨_, NTB_mem (w := Cond.fieldLinkNest "RollingNets" 57 "RollingNets$House" "told" "[I" "RollingNets") 271 (by decide +kernel) (by decide +kernel)⟩⟩
theorem fl_Notices_81 : FL "RollingNets$Notices" 81 1 0 true (.array .int) := ⟨_, _, _, _, ckc_1, by decide, rfl, rfl, Or.inr ⟨_, NTB_mem (w := Cond.fieldLinkNest "RollingNets$Notices" 81 "RollingNets$House" "told" "[I" "RollingNets") 272 (by decide +kernel) (by decide +kernel)⟩⟩
theorem fl_Night_169 : FL "RollingNets$Night" 169 1 0 true (.array .int) := ⟨_, _, _, _, ckc_1, by decide, rfl, rfl, Or.inr ⟨_, NTB_mem (w := Cond.fieldLinkNest "RollingNets$Night" 169 "RollingNets$House" "told" "[I" "RollingNets") 273 (by decide +kernel) (by decide +kernel)⟩⟩
theorem fl_House_18 : FL "RollingNets$House" 18 1 1 true (.array .long) := ⟨_, _, _, _, ckc_1, by decide, rfl, rfl, Or.inl tm_274⟩
theorem fl_Night_122 : FL "RollingNets$Night" 122 1 1 true (.array .long) := ⟨_, _, _, _, ckc_1, by decide, rfl, rfl, Or.inr ⟨_, NTB_mem (w := Cond.fieldLinkNest "RollingNets$Night" 122 "RollingNets$House" "cash" "[J" "RollingNets") 275 (by decide +kernel) (by decide +kernel)⟩⟩
theorem fl_Figures_76 : FL "RollingNets$Figures" 76 1 1 true (.array .long) := ⟨_, _, _, _, ckc_1, by decide, rfl, rfl, Or.inr ⟨_, NTB_mem (w := Cond.fieldLinkNest "RollingNets$Figures" 76 "RollingNets$House" "cash" "[J" "RollingNets") 276 (by decide +kernel) (by decide +kernel)⟩⟩
theorem fl_Notices_142 : FL "RollingNets$Notices" 142 1 1 true (.array .long) := ⟨_, _, _, _, ckc_1, by decide, rfl, rfl, Or.inr ⟨_, NTB_mem (w := Cond.fieldLinkNest "RollingNets$Notices" 142 "RollingNets$House" "cash" "[J" "RollingNets") 277 (by decide +kernel) (by decide +kernel)⟩⟩
theorem fl_RollingNets_209 : FL "RollingNets" 209 1 1 true (.array .long) := ⟨_, _, _, _, ckc_1, by decide, rfl, rfl, Or.inr ⟨_, NTB_mem (w := Cond.fieldLinkNest "RollingNets" 209 "RollingNets$House" "cash" "[J" "RollingNets") 278 (by decide +kernel) (by decide +kernel)⟩⟩
theorem fl_House_22 : FL "RollingNets$House" 22 1 2 true (.array .int) := ⟨_, _, _, _, ckc_1, by decide, rfl, rfl, Or.inl tm_279⟩
theorem fl_Line_55 : FL "RollingNets$Line" 55 1 2 true (.array .int) := ⟨_, _, _, _, ckc_1, by decide, rfl, rfl, Or.inr ⟨_, NTB_mem (w := Cond.fieldLinkNest "RollingNets$Line" 55 "RollingNets$House" "rank" "[I" "RollingNets") 280 (by decide +kernel) (by decide +kernel)⟩⟩
theorem fl_RollingNets_88 : FL "RollingNets" 88 1 2 true (.array .int) := ⟨_, _, _, _, ckc_1, by decide, rfl, rfl, Or.inr ⟨_, NTB_mem (w := Cond.fieldLinkNest "RollingNets" 88 "RollingNets$House" "rank" "[I" "RollingNets") 281 (by decide +kernel) (by decide +kernel)⟩⟩
theorem fl_House_25 : FL "RollingNets$House" 25 1 3 true (.array .int) := ⟨_, _, _, _, ckc_1, by decide, rfl, rfl, Or.inl tm_282⟩
theorem fl_Figures_111 : FL "RollingNets$Figures" 111 1 3 true (.array .int) := ⟨_, _, _, _, ckc_1, by decide, rfl, rfl, Or.inr ⟨_, NTB_mem (w := Cond.fieldLinkNest "RollingNets$Figures" 111 "RollingNets$House" "pledged" "[I" "RollingNets") 283 (by decide +kernel) (by decide +kernel)⟩⟩
theorem fl_RollingNets_120 : FL "RollingNets" 120 1 3 true (.array .int) := ⟨_, _, _, _, ckc_1, by decide, rfl, rfl, Or.inr ⟨_, NTB_mem (w := Cond.fieldLinkNest "RollingNets" 120 "RollingNets$House" "pledged" "[I" "RollingNets") 284 (by decide +kernel) (by decide +kernel)⟩⟩
theorem fl_House_28 : FL "RollingNets$House" 28 1 4 true (.array .boolean) := ⟨_, _, _, _, ckc_1, by decide, rfl, rfl, Or.inl tm_285⟩
theorem fl_Figures_79 : FL "RollingNets$Figures" 79 1 4 true (.array .boolean) := ⟨_, _, _, _, ckc_1, by decide, rfl, rfl, Or.inr ⟨_, NTB_mem (w := Cond.fieldLinkNest "RollingNets$Figures" 79 "RollingNets$House" "suspended" "[Z" "RollingNets") 286 (by decide +kernel) (by decide +kernel)⟩⟩
theorem fl_RollingNets_115 : FL "RollingNets" 115 1 4 true (.array .boolean) := ⟨_, _, _, _, ckc_1, by decide, rfl, rfl, Or.inr ⟨_, NTB_mem (w := Cond.fieldLinkNest "RollingNets" 115 "RollingNets$House" "suspended" "[Z" "RollingNets") 287 (by decide +kernel) (by decide +kernel)⟩⟩
theorem fl_House_34 : FL "RollingNets$House" 34 1 5 true (.array (.object "RollingNets$Market")) := ⟨_, _, _, _, ckc_1, by decide, rfl, rfl, Or.inl tm_288⟩
theorem fl_Figures_9 : FL "RollingNets$Figures" 9 1 5 true (.array (.object "RollingNets$Market")) := ⟨_, _, _, _, ckc_1, by decide, rfl, rfl, Or.inr ⟨_, NTB_mem (w := Cond.fieldLinkNest "RollingNets$Figures" 9 "RollingNets$House" "markets" "[LRollingNets$Market;" "RollingNets") 289 (by decide +kernel) (by decide +kernel)⟩⟩
theorem fl_Line_29 : FL "RollingNets$Line" 29 1 5 true (.array (.object "RollingNets$Market")) := ⟨_, _, _, _, ckc_1, by decide, rfl, rfl, Or.inr ⟨_, NTB_mem (w := Cond.fieldLinkNest "RollingNets$Line" 29 "RollingNets$House" "markets" "[LRollingNets$Market;" "RollingNets") 290 (by decide +kernel) (by decide +kernel)⟩⟩
theorem fl_Night_57 : FL "RollingNets$Night" 57 1 5 true (.array (.object "RollingNets$Market")) := ⟨_, _, _, _, ckc_1, by decide, rfl, rfl, Or.inr ⟨_, NTB_mem (w := Cond.fieldLinkNest "RollingNets$Night" 57 "RollingNets$House" "markets" "[LRollingNets$Market;" "RollingNets") 291 (by decide +kernel) (by decide +kernel)⟩⟩
theorem fl_RollingNets_72 : FL "RollingNets" 72 1 5 true (.array (.object "RollingNets$Market")) := ⟨_, _, _, _, ckc_1, by decide, rfl, rfl, Or.inr ⟨_, NTB_mem (w := Cond.fieldLinkNest "RollingNets" 72 "RollingNets$House" "markets" "[LRollingNets$Market;" "RollingNets") 292 (by decide +kernel) (by decide +kernel)⟩⟩
theorem fl_Notices_68 : FL "RollingNets$Notices" 68 1 5 true (.array (.object "RollingNets$Market")) := ⟨_, _, _, _, ckc_1, by decide, rfl, rfl, Or.inr ⟨_, NTB_mem (w := Cond.fieldLinkNest "RollingNets$Notices" 68 "RollingNets$House" "markets" "[LRollingNets$Market;" "RollingNets") 293 (by decide +kernel) (by decide +kernel)⟩⟩
theorem fl_House_43 : FL "RollingNets$House" 43 1 6 true (.object "RollingNets$Table") := ⟨_, _, _, _, ckc_1, by decide, rfl, rfl, Or.inl tm_294⟩
theorem fl_RollingNets_47 : FL "RollingNets" 47 1 6 true (.object "RollingNets$Table") := ⟨_, _, _, _, ckc_1, by decide, rfl, rfl, Or.inr ⟨_, NTB_mem (w := Cond.fieldLinkNest "RollingNets" 47 "RollingNets$House" "deals" "LRollingNets$Table;" "RollingNets") 295 (by decide +kernel) (by decide +kernel)⟩⟩
theorem fl_Night_53 : FL "RollingNets$Night" 53 1 6 true (.object "RollingNets$Table") := ⟨_, _, _, _, ckc_1, by decide, rfl, rfl, Or.inr ⟨_, NTB_mem (w := Cond.fieldLinkNest "RollingNets$Night" 53 "RollingNets$House" "deals" "LRollingNets$Table;" "RollingNets") 296 (by decide +kernel) (by decide +kernel)⟩⟩
theorem fl_Figures_61 : FL "RollingNets$Figures" 61 1 6 true (.object "RollingNets$Table") := ⟨_, _, _, _, ckc_1, by decide, rfl, rfl, Or.inr ⟨_, NTB_mem (w := Cond.fieldLinkNest "RollingNets$Figures" 61 "RollingNets$House" "deals" "LRollingNets$Table;" "RollingNets") 297 (by decide +kernel) (by decide +kernel)⟩⟩
theorem fl_Notices_106 : FL "RollingNets$Notices" 106 1 6 true (.object "RollingNets$Table") := ⟨_, _, _, _, ckc_1, by decide, rfl, rfl, Or.inr ⟨_, NTB_mem (w := Cond.fieldLinkNest "RollingNets$Notices" 106 "RollingNets$House" "deals" "LRollingNets$Table;" "RollingNets") 298 (by decide +kernel) (by decide +kernel)⟩⟩
theorem fl_House_47 : FL "RollingNets$House" 47 1 7 true (.object "RollingNets$Table") := ⟨_, _, _, _, ckc_1, by decide, rfl, rfl, Or.inl tm_299⟩
theorem fl_Notices_9 : FL "RollingNets$Notices" 9 1 7 true (.object "RollingNets$Table") := ⟨_, _, _, _, ckc_1, by decide, rfl, rfl, Or.inr ⟨_, NTB_mem (w := Cond.fieldLinkNest "RollingNets$Notices" 9 "RollingNets$House" "notices" "LRollingNets$Table;" "RollingNets") 300 (by decide +kernel) (by decide +kernel)⟩⟩
theorem fl_Figures_73 : FL "RollingNets$Figures" 73 1 7 true (.object "RollingNets$Table") := ⟨_, _, _, _, ckc_1, by decide, rfl, rfl, Or.inr ⟨_, NTB_mem (w := Cond.fieldLinkNest "RollingNets$Figures" 73 "RollingNets$House" "notices" "LRollingNets$Table;" "RollingNets") 301 (by decide +kernel) (by decide +kernel)⟩⟩
theorem fl_RollingNets_212 : FL "RollingNets" 212 1 7 true (.object "RollingNets$Table") := ⟨_, _, _, _, ckc_1, by decide, rfl, rfl, Or.inr ⟨_, NTB_mem (w := Cond.fieldLinkNest "RollingNets" 212 "RollingNets$House" "notices" "LRollingNets$Table;" "RollingNets") 302 (by decide +kernel) (by decide +kernel)⟩⟩
theorem fl_House_50 : FL "RollingNets$House" 50 1 8 true (.object "RollingNets$Table") := ⟨_, _, _, _, ckc_1, by decide, rfl, rfl, Or.inl tm_303⟩
theorem fl_RollingNets_221 : FL "RollingNets" 221 1 8 true (.object "RollingNets$Table") := ⟨_, _, _, _, ckc_1, by decide, rfl, rfl, Or.inr ⟨_, NTB_mem (w := Cond.fieldLinkNest "RollingNets" 221 "RollingNets$House" "book" "LRollingNets$Table;" "RollingNets") 304 (by decide +kernel) (by decide +kernel)⟩⟩
theorem fl_House_53 : FL "RollingNets$House" 53 1 9 true (.object "RollingNets$Table") := ⟨_, _, _, _, ckc_1, by decide, rfl, rfl, Or.inl tm_305⟩
theorem fl_RollingNets_152 : FL "RollingNets" 152 1 9 true (.object "RollingNets$Table") := ⟨_, _, _, _, ckc_1, by decide, rfl, rfl, Or.inr ⟨_, NTB_mem (w := Cond.fieldLinkNest "RollingNets" 152 "RollingNets$House" "plan" "LRollingNets$Table;" "RollingNets") 306 (by decide +kernel) (by decide +kernel)⟩⟩
theorem fl_House_56 : FL "RollingNets$House" 56 1 10 false (.int) := ⟨_, _, _, _, ckc_1, by decide, rfl, rfl, Or.inl tm_307⟩
theorem fl_RollingNets_162 : FL "RollingNets" 162 1 10 false (.int) := ⟨_, _, _, _, ckc_1, by decide, rfl, rfl, Or.inr ⟨_, NTB_mem (w := Cond.fieldLinkNest "RollingNets" 162 "RollingNets$House" "planDone" "I" "RollingNets") 308 (by decide +kernel) (by decide +kernel)⟩⟩
theorem fl_House_60 : FL "RollingNets$House" 60 1 11 false (.int) := ⟨_, _, _, _, ckc_1, by decide, rfl, rfl, Or.inl tm_309⟩
theorem fl_Night_13 : FL "RollingNets$Night" 13 1 11 false (.int) := ⟨_, _, _, _, ckc_1, by decide, rfl, rfl, Or.inr ⟨_, NTB_mem (w := Cond.fieldLinkNest "RollingNets$Night" 13 "RollingNets$House" "day" "I" "RollingNets") 310 (by decide +kernel) (by decide +kernel)⟩⟩
theorem fl_Notices_78 : FL "RollingNets$Notices" 78 1 11 false (.int) := ⟨_, _, _, _, ckc_1, by decide, rfl, rfl, Or.inr ⟨_, NTB_mem (w := Cond.fieldLinkNest "RollingNets$Notices" 78 "RollingNets$House" "day" "I" "RollingNets") 311 (by decide +kernel) (by decide +kernel)⟩⟩
theorem fl_Figures_90 : FL "RollingNets$Figures" 90 1 11 false (.int) := ⟨_, _, _, _, ckc_1, by decide, rfl, rfl, Or.inr ⟨_, NTB_mem (w := Cond.fieldLinkNest "RollingNets$Figures" 90 "RollingNets$House" "day" "I" "RollingNets") 312 (by decide +kernel) (by decide +kernel)⟩⟩
theorem fl_RollingNets_261 : FL "RollingNets" 261 1 11 false (.int) := ⟨_, _, _, _, ckc_1, by decide, rfl, rfl, Or.inr ⟨_, NTB_mem (w := Cond.fieldLinkNest "RollingNets" 261 "RollingNets$House" "day" "I" "RollingNets") 313 (by decide +kernel) (by decide +kernel)⟩⟩
theorem fl_House_63 : FL "RollingNets$House" 63 1 12 false (.long) := ⟨_, _, _, _, ckc_1, by decide, rfl, rfl, Or.inl tm_314⟩
theorem fl_Night_190 : FL "RollingNets$Night" 190 1 12 false (.long) := ⟨_, _, _, _, ckc_1, by decide, rfl, rfl, Or.inr ⟨_, NTB_mem (w := Cond.fieldLinkNest "RollingNets$Night" 190 "RollingNets$House" "outside" "J" "RollingNets") 315 (by decide +kernel) (by decide +kernel)⟩⟩
theorem fl_Notices_145 : FL "RollingNets$Notices" 145 1 12 false (.long) := ⟨_, _, _, _, ckc_1, by decide, rfl, rfl, Or.inr ⟨_, NTB_mem (w := Cond.fieldLinkNest "RollingNets$Notices" 145 "RollingNets$House" "outside" "J" "RollingNets") 316 (by decide +kernel) (by decide +kernel)⟩⟩
theorem fl_RollingNets_284 : FL "RollingNets" 284 1 12 false (.long) := ⟨_, _, _, _, ckc_1, by decide, rfl, rfl, Or.inr ⟨_, NTB_mem (w := Cond.fieldLinkNest "RollingNets" 284 "RollingNets$House" "outside" "J" "RollingNets") 317 (by decide +kernel) (by decide +kernel)⟩⟩
theorem fl_House_70 : FL "RollingNets$House" 70 1 13 true (.object "RollingNets$Line") := ⟨_, _, _, _, ckc_1, by decide, rfl, rfl, Or.inl tm_318⟩
theorem fl_Night_141 : FL "RollingNets$Night" 141 1 13 true (.object "RollingNets$Line") := ⟨_, _, _, _, ckc_1, by decide, rfl, rfl, Or.inr ⟨_, NTB_mem (w := Cond.fieldLinkNest "RollingNets$Night" 141 "RollingNets$House" "line" "LRollingNets$Line;" "RollingNets") 319 (by decide +kernel) (by decide +kernel)⟩⟩
theorem fl_Figures_127 : FL "RollingNets$Figures" 127 1 13 true (.object "RollingNets$Line") := ⟨_, _, _, _, ckc_1, by decide, rfl, rfl, Or.inr ⟨_, NTB_mem (w := Cond.fieldLinkNest "RollingNets$Figures" 127 "RollingNets$House" "line" "LRollingNets$Line;" "RollingNets") 320 (by decide +kernel) (by decide +kernel)⟩⟩
theorem fl_RollingNets_236 : FL "RollingNets" 236 1 13 true (.object "RollingNets$Line") := ⟨_, _, _, _, ckc_1, by decide, rfl, rfl, Or.inr ⟨_, NTB_mem (w := Cond.fieldLinkNest "RollingNets" 236 "RollingNets$House" "line" "LRollingNets$Line;" "RollingNets") 321 (by decide +kernel) (by decide +kernel)⟩⟩
theorem fl_House_74 : FL "RollingNets$House" 74 1 14 true (.array .int) := ⟨_, _, _, _, ckc_1, by decide, rfl, rfl, Or.inl tm_322⟩
theorem fl_Notices_164 : FL "RollingNets$Notices" 164 1 14 true (.array .int) := ⟨_, _, _, _, ckc_1, by decide, rfl, rfl, Or.inr ⟨_, NTB_mem (w := Cond.fieldLinkNest "RollingNets$Notices" 164 "RollingNets$House" "chain" "[I" "RollingNets") 323 (by decide +kernel) (by decide +kernel)⟩⟩
theorem fl_House_77 : FL "RollingNets$House" 77 1 15 false (.int) := ⟨_, _, _, _, ckc_1, by decide, rfl, rfl, Or.inl tm_324⟩
theorem fl_Notices_161 : FL "RollingNets$Notices" 161 1 15 false (.int) := ⟨_, _, _, _, ckc_1, by decide, rfl, rfl, Or.inr ⟨_, NTB_mem (w := Cond.fieldLinkNest "RollingNets$Notices" 161 "RollingNets$House" "chainSize" "I" "RollingNets") 325 (by decide +kernel) (by decide +kernel)⟩⟩
theorem fl_RollingNets_278 : FL "RollingNets" 278 1 15 false (.int) := ⟨_, _, _, _, ckc_1, by decide, rfl, rfl, Or.inr ⟨_, NTB_mem (w := Cond.fieldLinkNest "RollingNets" 278 "RollingNets$House" "chainSize" "I" "RollingNets") 326 (by decide +kernel) (by decide +kernel)⟩⟩
theorem fl_House_80 : FL "RollingNets$House" 80 1 16 true (.array .int) := ⟨_, _, _, _, ckc_1, by decide, rfl, rfl, Or.inl tm_327⟩
theorem fl_Notices_60 : FL "RollingNets$Notices" 60 1 16 true (.array .int) := ⟨_, _, _, _, ckc_1, by decide, rfl, rfl, Or.inr ⟨_, NTB_mem (w := Cond.fieldLinkNest "RollingNets$Notices" 60 "RollingNets$House" "parts" "[I" "RollingNets") 328 (by decide +kernel) (by decide +kernel)⟩⟩
theorem fl_Reader_9 : FL "RollingNets$Reader" 9 5 0 true (.array .int) := ⟨_, _, _, _, ckc_5, by decide, rfl, rfl, Or.inl tm_372⟩
theorem fl_Reader_15 : FL "RollingNets$Reader" 15 5 1 false (.int) := ⟨_, _, _, _, ckc_5, by decide, rfl, rfl, Or.inl tm_373⟩
theorem fl_RollingNets_146 : FL "RollingNets" 146 5 1 false (.int) := ⟨_, _, _, _, ckc_5, by decide, rfl, rfl, Or.inr ⟨_, NTB_mem (w := Cond.fieldLinkNest "RollingNets" 146 "RollingNets$Reader" "length" "I" "RollingNets") 374 (by decide +kernel) (by decide +kernel)⟩⟩
theorem fl_Reader_24 : FL "RollingNets$Reader" 24 5 2 true (.object "RollingNets$Table") := ⟨_, _, _, _, ckc_5, by decide, rfl, rfl, Or.inl tm_375⟩
theorem fl_RollingNets_155 : FL "RollingNets" 155 5 2 true (.object "RollingNets$Table") := ⟨_, _, _, _, ckc_5, by decide, rfl, rfl, Or.inr ⟨_, NTB_mem (w := Cond.fieldLinkNest "RollingNets" 155 "RollingNets$Reader" "draft" "LRollingNets$Table;" "RollingNets") 376 (by decide +kernel) (by decide +kernel)⟩⟩
theorem fl_Reader_28 : FL "RollingNets$Reader" 28 5 3 false (.int) := ⟨_, _, _, _, ckc_5, by decide, rfl, rfl, Or.inl tm_377⟩
theorem fl_Reader_31 : FL "RollingNets$Reader" 31 5 4 false (.int) := ⟨_, _, _, _, ckc_5, by decide, rfl, rfl, Or.inl tm_378⟩
theorem fl_RollingNets_165 : FL "RollingNets" 165 5 4 false (.int) := ⟨_, _, _, _, ckc_5, by decide, rfl, rfl, Or.inr ⟨_, NTB_mem (w := Cond.fieldLinkNest "RollingNets" 165 "RollingNets$Reader" "fault" "I" "RollingNets") 379 (by decide +kernel) (by decide +kernel)⟩⟩
theorem fl_Reader_34 : FL "RollingNets$Reader" 34 5 5 false (.int) := ⟨_, _, _, _, ckc_5, by decide, rfl, rfl, Or.inl tm_380⟩
theorem fl_RollingNets_168 : FL "RollingNets" 168 5 5 false (.int) := ⟨_, _, _, _, ckc_5, by decide, rfl, rfl, Or.inr ⟨_, NTB_mem (w := Cond.fieldLinkNest "RollingNets" 168 "RollingNets$Reader" "faultPlace" "I" "RollingNets") 381 (by decide +kernel) (by decide +kernel)⟩⟩
theorem fl_RollingNets_12 : FL "RollingNets" 12 0 0 true (.object "RollingNets$House") := ⟨_, _, _, _, ckc_0, by decide, rfl, rfl, Or.inl tm_395⟩
theorem fl_RollingNets_16 : FL "RollingNets" 16 0 1 true (.object "RollingNets$House") := ⟨_, _, _, _, ckc_0, by decide, rfl, rfl, Or.inl tm_396⟩
theorem fl_RollingNets_19 : FL "RollingNets" 19 0 2 true (.object "RollingNets$House") := ⟨_, _, _, _, ckc_0, by decide, rfl, rfl, Or.inl tm_397⟩
theorem fl_RollingNets_25 : FL "RollingNets" 25 0 3 true (.object "RollingNets$Reader") := ⟨_, _, _, _, ckc_0, by decide, rfl, rfl, Or.inl tm_398⟩
theorem fl_RollingNets_29 : FL "RollingNets" 29 0 4 false (.boolean) := ⟨_, _, _, _, ckc_0, by decide, rfl, rfl, Or.inl tm_399⟩
theorem gs_RollingNets_33 : Cond.fieldLink "RollingNets" 33 "RollingNets" (sN 0) "[I" ∈ TBL := TBL_mem 415 (by decide +kernel) (by decide +kernel)
theorem gs_RollingNets_37 : Cond.fieldLink "RollingNets" 37 "RollingNets" (sN 1) "[I" ∈ TBL := TBL_mem 416 (by decide +kernel) (by decide +kernel)
theorem gs_RollingNets_40 : Cond.fieldLink "RollingNets" 40 "RollingNets" (sN 2) "[I" ∈ TBL := TBL_mem 418 (by decide +kernel) (by decide +kernel)
theorem fl_Y_58 : FL "RollingNetsModel" 58 6 0 false (.int) := ⟨_, _, _, _, ckc_6, by decide, rfl, rfl, Or.inl tm_1061⟩
theorem fl_Y_7 : FL "RollingNetsModel" 7 6 1 true (.array .int) := ⟨_, _, _, _, ckc_6, by decide, rfl, rfl, Or.inl tm_1062⟩
theorem fl_Y_13 : FL "RollingNetsModel" 13 6 2 true (.array .int) := ⟨_, _, _, _, ckc_6, by decide, rfl, rfl, Or.inl tm_1063⟩
theorem fl_Y_16 : FL "RollingNetsModel" 16 6 3 true (.array .long) := ⟨_, _, _, _, ckc_6, by decide, rfl, rfl, Or.inl tm_1064⟩
theorem fl_Y_20 : FL "RollingNetsModel" 20 6 4 true (.array .long) := ⟨_, _, _, _, ckc_6, by decide, rfl, rfl, Or.inl tm_1065⟩
theorem fl_Y_163 : FL "RollingNetsModel" 163 6 5 false (.int) := ⟨_, _, _, _, ckc_6, by decide, rfl, rfl, Or.inl tm_1066⟩
theorem fl_Y_166 : FL "RollingNetsModel" 166 6 6 false (.int) := ⟨_, _, _, _, ckc_6, by decide, rfl, rfl, Or.inl tm_1067⟩
theorem fl_Y_220 : FL "RollingNetsModel" 220 6 7 false (.int) := ⟨_, _, _, _, ckc_6, by decide, rfl, rfl, Or.inl tm_1068⟩
theorem fl_Y_23 : FL "RollingNetsModel" 23 6 8 true (.array .int) := ⟨_, _, _, _, ckc_6, by decide, rfl, rfl, Or.inl tm_1069⟩
theorem fl_Y_223 : FL "RollingNetsModel" 223 6 9 false (.int) := ⟨_, _, _, _, ckc_6, by decide, rfl, rfl, Or.inl tm_1070⟩
theorem fl_Y_240 : FL "RollingNetsModel" 240 6 10 false (.int) := ⟨_, _, _, _, ckc_6, by decide, rfl, rfl, Or.inl tm_1071⟩
theorem fl_Y_26 : FL "RollingNetsModel" 26 6 11 true (.array .int) := ⟨_, _, _, _, ckc_6, by decide, rfl, rfl, Or.inl tm_1072⟩
theorem fl_Y_29 : FL "RollingNetsModel" 29 6 12 true (.array .int) := ⟨_, _, _, _, ckc_6, by decide, rfl, rfl, Or.inl tm_1073⟩
theorem fl_Y_32 : FL "RollingNetsModel" 32 6 13 true (.array .int) := ⟨_, _, _, _, ckc_6, by decide, rfl, rfl, Or.inl tm_1074⟩
theorem fl_Y_250 : FL "RollingNetsModel" 250 6 14 false (.int) := ⟨_, _, _, _, ckc_6, by decide, rfl, rfl, Or.inl tm_1075⟩
theorem fl_Y_35 : FL "RollingNetsModel" 35 6 15 true (.array .boolean) := ⟨_, _, _, _, ckc_6, by decide, rfl, rfl, Or.inl tm_1076⟩
theorem fl_Y_39 : FL "RollingNetsModel" 39 6 16 true (.array .int) := ⟨_, _, _, _, ckc_6, by decide, rfl, rfl, Or.inl tm_1077⟩
theorem fl_Y_344 : FL "RollingNetsModel" 344 6 17 false (.int) := ⟨_, _, _, _, ckc_6, by decide, rfl, rfl, Or.inl tm_1078⟩
theorem fl_Y_350 : FL "RollingNetsModel" 350 6 18 false (.int) := ⟨_, _, _, _, ckc_6, by decide, rfl, rfl, Or.inl tm_1079⟩
theorem fl_Y_356 : FL "RollingNetsModel" 356 6 19 false (.int) := ⟨_, _, _, _, ckc_6, by decide, rfl, rfl, Or.inl tm_1080⟩
theorem fl_Y_359 : FL "RollingNetsModel" 359 6 20 false (.int) := ⟨_, _, _, _, ckc_6, by decide, rfl, rfl, Or.inl tm_1081⟩
theorem fl_Y_362 : FL "RollingNetsModel" 362 6 21 false (.int) := ⟨_, _, _, _, ckc_6, by decide, rfl, rfl, Or.inl tm_1082⟩
theorem fl_Y_42 : FL "RollingNetsModel" 42 6 22 true (.array .int) := ⟨_, _, _, _, ckc_6, by decide, rfl, rfl, Or.inl tm_1083⟩
theorem fl_Y_374 : FL "RollingNetsModel" 374 6 23 false (.int) := ⟨_, _, _, _, ckc_6, by decide, rfl, rfl, Or.inl tm_1084⟩
theorem fl_Y_377 : FL "RollingNetsModel" 377 6 24 false (.int) := ⟨_, _, _, _, ckc_6, by decide, rfl, rfl, Or.inl tm_1085⟩
theorem fl_Y_401 : FL "RollingNetsModel" 401 6 25 false (.int) := ⟨_, _, _, _, ckc_6, by decide, rfl, rfl, Or.inl tm_1086⟩
theorem fl_Y_45 : FL "RollingNetsModel" 45 6 26 false (.int) := ⟨_, _, _, _, ckc_6, by decide, rfl, rfl, Or.inl tm_1087⟩
theorem fl_Y_407 : FL "RollingNetsModel" 407 6 27 false (.int) := ⟨_, _, _, _, ckc_6, by decide, rfl, rfl, Or.inl tm_1088⟩
theorem fl_Y_49 : FL "RollingNetsModel" 49 6 28 true (.array .int) := ⟨_, _, _, _, ckc_6, by decide, rfl, rfl, Or.inl tm_1089⟩
theorem fl_Y_441 : FL "RollingNetsModel" 441 6 29 false (.boolean) := ⟨_, _, _, _, ckc_6, by decide, rfl, rfl, Or.inl tm_1090⟩
theorem fl_Y_52 : FL "RollingNetsModel" 52 6 30 true (.array .int) := ⟨_, _, _, _, ckc_6, by decide, rfl, rfl, Or.inl tm_1091⟩
theorem fl_Y_55 : FL "RollingNetsModel" 55 6 31 true (.array .long) := ⟨_, _, _, _, ckc_6, by decide, rfl, rfl, Or.inl tm_1092⟩
theorem ms_RollingNets_43 : MS "RollingNets" 43 yX8_within cX8_within 3 (some .boolean) 3 := ⟨⟨Or.inl tm_420, tm_111, tm_422, by decide +kernel⟩, tm_421⟩
theorem mv_RollingNets_51 : MV "RollingNets" 51 yX7_size cX7_size 1 (some .int) 0 2 := ⟨⟨Or.inl tm_423, tm_113, tm_426, by decide +kernel⟩, tm_424, tm_425, _, _, rfl⟩
theorem mv_RollingNets_60 : MV "RollingNets" 60 yX1_hasMember cX1_hasMember 2 (some .boolean) 1 1 := ⟨⟨Or.inl tm_431, tm_112, tm_434, by decide +kernel⟩, tm_432, tm_433, _, _, rfl⟩
theorem mv_RollingNets_64 : MV "RollingNets" 64 yX8_tellRank cX8_tellRank 3 (some .boolean) 2 0 := ⟨⟨Or.inl tm_435, tm_111, tm_438, by decide +kernel⟩, tm_437, tm_0, _, _, rfl⟩
theorem ms_RollingNets_68 : MS "RollingNets" 68 yX8_isIssue cX8_isIssue 1 (some .boolean) 1 := ⟨⟨Or.inl tm_439, tm_111, tm_441, by decide +kernel⟩, tm_440⟩
theorem mv_RollingNets_95 : MV "RollingNets" 95 yX1_addDeal cX1_addDeal 8 (some .int) 6 1 := ⟨⟨Or.inl tm_451, tm_112, tm_454, by decide +kernel⟩, tm_452, tm_453, _, _, rfl⟩
theorem mv_House_122 : MV "RollingNets$House" 122 yX1_hasMember cX1_hasMember 2 (some .boolean) 1 1 := ⟨⟨Or.inl tm_455, tm_112, tm_434, by decide +kernel⟩, tm_432, tm_433, _, _, rfl⟩
theorem ms_House_134 : MS "RollingNets$House" 134 yX8_isIssue cX8_isIssue 1 (some .boolean) 1 := ⟨⟨Or.inr ⟨_, NTB_mem (w := Cond.methodLinkNest "RollingNets$House" 134 yX8_isIssue "RollingNets") 456 (by decide +kernel) (by decide +kernel)⟩, tm_111, tm_441, by decide +kernel⟩, tm_440⟩
theorem ms_House_137 : MS "RollingNets$House" 137 yX8_within cX8_within 3 (some .boolean) 3 := ⟨⟨Or.inr ⟨_, NTB_mem (w := Cond.methodLinkNest "RollingNets$House" 137 yX8_within "RollingNets") 457 (by decide +kernel) (by decide +kernel)⟩, tm_111, tm_422, by decide +kernel⟩, tm_421⟩
theorem mv_House_126 : MV "RollingNets$House" 126 yX7_addRow cX7_addRow 2 (some .int) 0 2 := ⟨⟨Or.inl tm_458, tm_113, tm_461, by decide +kernel⟩, tm_459, tm_460, _, _, rfl⟩
theorem mv_Table_23 : MV "RollingNets$Table" 23 yX7_isFull cX7_isFull 1 (some .boolean) 0 2 := ⟨⟨Or.inl tm_462, tm_113, tm_465, by decide +kernel⟩, tm_463, tm_464, _, _, rfl⟩
theorem mv_House_130 : MV "RollingNets$House" 130 yX7_put cX7_put 4 none 3 2 := ⟨⟨Or.inl tm_466, tm_113, tm_469, by decide +kernel⟩, tm_467, tm_468, _, _, rfl⟩
theorem mv_RollingNets_102 : MV "RollingNets" 102 yX1_freeOf cX1_freeOf 4 (some .long) 2 1 := ⟨⟨Or.inl tm_482, tm_112, tm_485, by decide +kernel⟩, tm_483, tm_484, _, _, rfl⟩
theorem mv_RollingNets_106 : MV "RollingNets" 106 yX1_hasOpen cX1_hasOpen 3 (some .boolean) 1 1 := ⟨⟨Or.inl tm_493, tm_112, tm_496, by decide +kernel⟩, tm_494, tm_495, _, _, rfl⟩
theorem mv_House_145 : MV "RollingNets$House" 145 yX7_size cX7_size 1 (some .int) 0 2 := ⟨⟨Or.inl tm_497, tm_113, tm_426, by decide +kernel⟩, tm_424, tm_425, _, _, rfl⟩
theorem mv_House_141 : MV "RollingNets$House" 141 yX7_get cX7_get 3 (some .int) 2 2 := ⟨⟨Or.inl tm_498, tm_113, tm_501, by decide +kernel⟩, tm_499, tm_500, _, _, rfl⟩
theorem mv_House_148 : MV "RollingNets$House" 148 yX1_isOpenNotice cX1_isOpenNotice 3 (some .boolean) 2 1 := ⟨⟨Or.inl tm_502, tm_112, tm_505, by decide +kernel⟩, tm_503, tm_504, _, _, rfl⟩
theorem mv_RollingNets_109 : MV "RollingNets" 109 yX1_members cX1_members 1 (some .int) 0 1 := ⟨⟨Or.inl tm_506, tm_112, tm_509, by decide +kernel⟩, tm_507, tm_508, _, _, rfl⟩
theorem mv_RollingNets_112 : MV "RollingNets" 112 yX3_multiply cX3_multiply 5 (some .boolean) 2 4 := ⟨⟨Or.inl tm_510, tm_116, tm_513, by decide +kernel⟩, tm_511, tm_512, _, _, rfl⟩
theorem mv_Market_77 : MV "RollingNets$Market" 77 yX3_greatest cX3_greatest 5 (some .long) 1 4 := ⟨⟨Or.inl tm_515, tm_116, tm_518, by decide +kernel⟩, tm_517, tm_1, _, _, rfl⟩
theorem mv_Market_81 : MV "RollingNets$Market" 81 yX3_multiplyMember cX3_multiplyMember 4 none 2 4 := ⟨⟨Or.inl tm_526, tm_116, tm_529, by decide +kernel⟩, tm_528, tm_2, _, _, rfl⟩
theorem ms_RollingNets_123 : MS "RollingNets" 123 yX4_pass cX4_pass 5 (some .int) 2 := ⟨⟨Or.inl tm_543, tm_120, tm_545, by decide +kernel⟩, tm_544⟩
theorem ms_Night_9 : MS "RollingNets$Night" 9 yX8_within cX8_within 3 (some .boolean) 3 := ⟨⟨Or.inr ⟨_, NTB_mem (w := Cond.methodLinkNest "RollingNets$Night" 9 yX8_within "RollingNets") 546 (by decide +kernel) (by decide +kernel)⟩, tm_111, tm_422, by decide +kernel⟩, tm_421⟩
theorem ms_Night_19 : MS "RollingNets$Night" 19 yX4_netDue cX4_netDue 8 none 2 := ⟨⟨Or.inl tm_547, tm_120, tm_549, by decide +kernel⟩, tm_548⟩
theorem mv_Night_61 : MV "RollingNets$Night" 61 yX7_size cX7_size 1 (some .int) 0 2 := ⟨⟨Or.inl tm_550, tm_113, tm_426, by decide +kernel⟩, tm_424, tm_425, _, _, rfl⟩
theorem mv_Night_67 : MV "RollingNets$Night" 67 yX1_isDue cX1_isDue 5 (some .boolean) 3 1 := ⟨⟨Or.inl tm_551, tm_112, tm_554, by decide +kernel⟩, tm_552, tm_553, _, _, rfl⟩
theorem mv_Night_70 : MV "RollingNets$Night" 70 yX7_get cX7_get 3 (some .int) 2 2 := ⟨⟨Or.inl tm_555, tm_113, tm_501, by decide +kernel⟩, tm_499, tm_500, _, _, rfl⟩
theorem mv_Night_79 : MV "RollingNets$Night" 79 yX1_pay cX1_pay 5 none 3 1 := ⟨⟨Or.inl tm_556, tm_112, tm_559, by decide +kernel⟩, tm_557, tm_558, _, _, rfl⟩
theorem mv_Night_83 : MV "RollingNets$Night" 83 yX3_addLot cX3_addLot 5 none 3 4 := ⟨⟨Or.inl tm_560, tm_116, tm_563, by decide +kernel⟩, tm_561, tm_562, _, _, rfl⟩
theorem mv_Market_66 : MV "RollingNets$Market" 66 yX3_shortOf cX3_shortOf 2 (some .int) 1 4 := ⟨⟨Or.inl tm_564, tm_116, tm_567, by decide +kernel⟩, tm_565, tm_566, _, _, rfl⟩
theorem mv_Market_69 : MV "RollingNets$Market" 69 yX3_longOf cX3_longOf 2 (some .int) 1 4 := ⟨⟨Or.inl tm_568, tm_116, tm_571, by decide +kernel⟩, tm_569, tm_570, _, _, rfl⟩
theorem mv_Market_72 : MV "RollingNets$Market" 72 yX3_takeOff cX3_takeOff 7 none 2 4 := ⟨⟨Or.inl tm_575, tm_116, tm_578, by decide +kernel⟩, tm_576, tm_577, _, _, rfl⟩
theorem mv_Market_62 : MV "RollingNets$Market" 62 yX3_changeLot cX3_changeLot 4 none 3 4 := ⟨⟨Or.inl tm_579, tm_116, tm_582, by decide +kernel⟩, tm_580, tm_581, _, _, rfl⟩
theorem mv_Night_87 : MV "RollingNets$Night" 87 yX7_put cX7_put 4 none 3 2 := ⟨⟨Or.inl tm_583, tm_113, tm_469, by decide +kernel⟩, tm_467, tm_468, _, _, rfl⟩
theorem ms_Night_25 : MS "RollingNets$Night" 25 yX4_deliverAll cX4_deliverAll 6 (some .int) 2 := ⟨⟨Or.inl tm_584, tm_120, tm_586, by decide +kernel⟩, tm_585⟩
theorem mv_Night_93 : MV "RollingNets$Night" 93 yX1_members cX1_members 1 (some .int) 0 1 := ⟨⟨Or.inl tm_587, tm_112, tm_509, by decide +kernel⟩, tm_507, tm_508, _, _, rfl⟩
theorem ms_Night_100 : MS "RollingNets$Night" 100 yX4_deliver cX4_deliver 5 (some .int) 3 := ⟨⟨Or.inl tm_588, tm_120, tm_590, by decide +kernel⟩, tm_589⟩
theorem mv_Night_104 : MV "RollingNets$Night" 104 yX3_shortOf cX3_shortOf 2 (some .int) 1 4 := ⟨⟨Or.inl tm_591, tm_116, tm_567, by decide +kernel⟩, tm_565, tm_566, _, _, rfl⟩
theorem mv_Night_108 : MV "RollingNets$Night" 108 yX1_freeOf cX1_freeOf 4 (some .long) 2 1 := ⟨⟨Or.inl tm_592, tm_112, tm_485, by decide +kernel⟩, tm_483, tm_484, _, _, rfl⟩
theorem mv_Night_125 : MV "RollingNets$Night" 125 yX3_worth cX3_worth 2 (some .long) 1 4 := ⟨⟨Or.inl tm_596, tm_116, tm_599, by decide +kernel⟩, tm_597, tm_598, _, _, rfl⟩
theorem mv_Night_129 : MV "RollingNets$Night" 129 yX3_takeOff cX3_takeOff 7 none 2 4 := ⟨⟨Or.inl tm_600, tm_116, tm_578, by decide +kernel⟩, tm_576, tm_577, _, _, rfl⟩
theorem mv_Night_133 : MV "RollingNets$Night" 133 yX1_write cX1_write 7 none 5 1 := ⟨⟨Or.inl tm_601, tm_112, tm_604, by decide +kernel⟩, tm_602, tm_603, _, _, rfl⟩
theorem ms_Night_137 : MS "RollingNets$Night" 137 yX5_takeAssigned cX5_takeAssigned 8 none 4 := ⟨⟨Or.inl tm_605, tm_121, tm_607, by decide +kernel⟩, tm_606⟩
theorem mv_Notices_15 : MV "RollingNets$Notices" 15 yX7_size cX7_size 1 (some .int) 0 2 := ⟨⟨Or.inl tm_608, tm_113, tm_426, by decide +kernel⟩, tm_424, tm_425, _, _, rfl⟩
theorem mv_Notices_21 : MV "RollingNets$Notices" 21 yX1_isOpenNotice cX1_isOpenNotice 3 (some .boolean) 2 1 := ⟨⟨Or.inl tm_609, tm_112, tm_505, by decide +kernel⟩, tm_503, tm_504, _, _, rfl⟩
theorem mv_Notices_25 : MV "RollingNets$Notices" 25 yX7_get cX7_get 3 (some .int) 2 2 := ⟨⟨Or.inl tm_610, tm_113, tm_501, by decide +kernel⟩, tm_499, tm_500, _, _, rfl⟩
theorem mv_Notices_64 : MV "RollingNets$Notices" 64 yX7_put cX7_put 4 none 3 2 := ⟨⟨Or.inl tm_612, tm_113, tm_469, by decide +kernel⟩, tm_467, tm_468, _, _, rfl⟩
theorem ms_Night_29 : MS "RollingNets$Night" 29 yX4_allot cX4_allot 9 none 3 := ⟨⟨Or.inl tm_613, tm_120, tm_615, by decide +kernel⟩, tm_614⟩
theorem mv_Night_145 : MV "RollingNets$Night" 145 yX2_form cX2_form 7 none 2 3 := ⟨⟨Or.inl tm_616, tm_114, tm_619, by decide +kernel⟩, tm_617, tm_618, _, _, rfl⟩
theorem mv_Line_25 : MV "RollingNets$Line" 25 yX2_sortByRank cX2_sortByRank 5 none 1 3 := ⟨⟨Or.inl tm_620, tm_114, tm_623, by decide +kernel⟩, tm_622, tm_3, _, _, rfl⟩
theorem mv_Line_35 : MV "RollingNets$Line" 35 yX1_members cX1_members 1 (some .int) 0 1 := ⟨⟨Or.inl tm_624, tm_112, tm_509, by decide +kernel⟩, tm_507, tm_508, _, _, rfl⟩
theorem ms_Line_39 : MS "RollingNets$Line" 39 yX0_suspendedSet cX0_suspendedSet 3 (some .int) 1 := ⟨⟨Or.inl tm_625, tm_122, tm_627, by decide +kernel⟩, tm_626⟩
theorem mv_Figures_42 : MV "RollingNets$Figures" 42 yX1_members cX1_members 1 (some .int) 0 1 := ⟨⟨Or.inl tm_628, tm_112, tm_509, by decide +kernel⟩, tm_507, tm_508, _, _, rfl⟩
theorem ms_Line_45 : MS "RollingNets$Line" 45 yX5_givers cX5_givers 5 (some .int) 2 := ⟨⟨Or.inl tm_629, tm_121, tm_631, by decide +kernel⟩, tm_630⟩
theorem mv_Line_51 : MV "RollingNets$Line" 51 yX2_addGroup cX2_addGroup 6 none 2 3 := ⟨⟨Or.inl tm_632, tm_114, tm_635, by decide +kernel⟩, tm_634, tm_4, _, _, rfl⟩
theorem mv_Night_166 : MV "RollingNets$Night" 166 yX3_changeLot cX3_changeLot 4 none 3 4 := ⟨⟨Or.inl tm_638, tm_116, tm_582, by decide +kernel⟩, tm_580, tm_581, _, _, rfl⟩
theorem ms_Night_33 : MS "RollingNets$Night" 33 yX4_lendToAged cX4_lendToAged 5 none 2 := ⟨⟨Or.inl tm_639, tm_120, tm_641, by decide +kernel⟩, tm_640⟩
theorem ms_Night_172 : MS "RollingNets$Night" 172 yX4_lendTo cX4_lendTo 8 none 4 := ⟨⟨Or.inl tm_642, tm_120, tm_644, by decide +kernel⟩, tm_643⟩
theorem ms_Night_175 : MS "RollingNets$Night" 175 yX4_bestLender cX4_bestLender 7 (some .int) 3 := ⟨⟨Or.inl tm_645, tm_120, tm_647, by decide +kernel⟩, tm_646⟩
theorem mv_Night_178 : MV "RollingNets$Night" 178 yX1_canLend cX1_canLend 6 (some .int) 2 1 := ⟨⟨Or.inl tm_648, tm_112, tm_651, by decide +kernel⟩, tm_649, tm_650, _, _, rfl⟩
theorem mv_House_102 : MV "RollingNets$House" 102 yX3_shortOf cX3_shortOf 2 (some .int) 1 4 := ⟨⟨Or.inl tm_652, tm_116, tm_567, by decide +kernel⟩, tm_565, tm_566, _, _, rfl⟩
theorem mv_House_112 : MV "RollingNets$House" 112 yX1_freeOf cX1_freeOf 4 (some .long) 2 1 := ⟨⟨Or.inl tm_653, tm_112, tm_485, by decide +kernel⟩, tm_483, tm_484, _, _, rfl⟩
theorem ms_Night_36 : MS "RollingNets$Night" 36 yX4_passApart cX4_passApart 8 none 2 := ⟨⟨Or.inl tm_655, tm_120, tm_657, by decide +kernel⟩, tm_656⟩
theorem ms_Night_39 : MS "RollingNets$Night" 39 yX5_closeDue cX5_closeDue 5 none 2 := ⟨⟨Or.inl tm_658, tm_121, tm_660, by decide +kernel⟩, tm_659⟩
theorem mv_Notices_29 : MV "RollingNets$Notices" 29 yX1_hasMember cX1_hasMember 2 (some .boolean) 1 1 := ⟨⟨Or.inl tm_661, tm_112, tm_434, by decide +kernel⟩, tm_432, tm_433, _, _, rfl⟩
theorem ms_Notices_113 : MS "RollingNets$Notices" 113 yX5_closeNet cX5_closeNet 11 none 4 := ⟨⟨Or.inl tm_662, tm_121, tm_664, by decide +kernel⟩, tm_663⟩
theorem mv_Notices_57 : MV "RollingNets$Notices" 57 yX1_members cX1_members 1 (some .int) 0 1 := ⟨⟨Or.inl tm_665, tm_112, tm_509, by decide +kernel⟩, tm_507, tm_508, _, _, rfl⟩
theorem mv_Notices_96 : MV "RollingNets$Notices" 96 yX3_shortOf cX3_shortOf 2 (some .int) 1 4 := ⟨⟨Or.inl tm_666, tm_116, tm_567, by decide +kernel⟩, tm_565, tm_566, _, _, rfl⟩
theorem mv_Notices_120 : MV "RollingNets$Notices" 120 yX3_longOf cX3_longOf 2 (some .int) 1 4 := ⟨⟨Or.inl tm_667, tm_116, tm_571, by decide +kernel⟩, tm_569, tm_570, _, _, rfl⟩
theorem mv_Notices_123 : MV "RollingNets$Notices" 123 yX1_buyPrice cX1_buyPrice 3 (some .int) 1 1 := ⟨⟨Or.inl tm_668, tm_112, tm_671, by decide +kernel⟩, tm_669, tm_670, _, _, rfl⟩
theorem mv_Notices_130 : MV "RollingNets$Notices" 130 yX3_takeOff cX3_takeOff 7 none 2 4 := ⟨⟨Or.inl tm_672, tm_116, tm_578, by decide +kernel⟩, tm_576, tm_577, _, _, rfl⟩
theorem mv_Notices_134 : MV "RollingNets$Notices" 134 yX3_worth cX3_worth 2 (some .long) 1 4 := ⟨⟨Or.inl tm_673, tm_116, tm_599, by decide +kernel⟩, tm_597, tm_598, _, _, rfl⟩
theorem mv_Notices_138 : MV "RollingNets$Notices" 138 yX1_pay cX1_pay 5 none 3 1 := ⟨⟨Or.inl tm_674, tm_112, tm_559, by decide +kernel⟩, tm_557, tm_558, _, _, rfl⟩
theorem mv_Notices_149 : MV "RollingNets$Notices" 149 yX1_write cX1_write 7 none 5 1 := ⟨⟨Or.inl tm_675, tm_112, tm_604, by decide +kernel⟩, tm_602, tm_603, _, _, rfl⟩
theorem ms_Notices_117 : MS "RollingNets$Notices" 117 yX5_closeApart cX5_closeApart 14 none 4 := ⟨⟨Or.inl tm_676, tm_121, tm_678, by decide +kernel⟩, tm_677⟩
theorem ms_Notices_153 : MS "RollingNets$Notices" 153 yX5_layChain cX5_layChain 7 none 3 := ⟨⟨Or.inl tm_679, tm_121, tm_681, by decide +kernel⟩, tm_680⟩
theorem ms_Notices_167 : MS "RollingNets$Notices" 167 yX5_nextLink cX5_nextLink 10 (some .int) 5 := ⟨⟨Or.inl tm_682, tm_121, tm_684, by decide +kernel⟩, tm_683⟩
theorem ms_Notices_157 : MS "RollingNets$Notices" 157 yX5_lastOfChain cX5_lastOfChain 2 (some .int) 1 := ⟨⟨Or.inl tm_685, tm_121, tm_687, by decide +kernel⟩, tm_686⟩
theorem ms_Night_44 : MS "RollingNets$Night" 44 yX4_mark cX4_mark 6 none 2 := ⟨⟨Or.inl tm_688, tm_120, tm_690, by decide +kernel⟩, tm_689⟩
theorem ms_Night_47 : MS "RollingNets$Night" 47 yX4_payOut cX4_payOut 8 none 2 := ⟨⟨Or.inl tm_691, tm_120, tm_693, by decide +kernel⟩, tm_692⟩
theorem ms_Night_50 : MS "RollingNets$Night" 50 yX4_countFails cX4_countFails 7 none 2 := ⟨⟨Or.inl tm_694, tm_120, tm_696, by decide +kernel⟩, tm_695⟩
theorem ms_RollingNets_129 : MS "RollingNets" 129 yX5_giveNet cX5_giveNet 7 (some .int) 4 := ⟨⟨Or.inl tm_702, tm_121, tm_704, by decide +kernel⟩, tm_703⟩
theorem ms_Notices_33 : MS "RollingNets$Notices" 33 yX8_isIssue cX8_isIssue 1 (some .boolean) 1 := ⟨⟨Or.inr ⟨_, NTB_mem (w := Cond.methodLinkNest "RollingNets$Notices" 33 yX8_isIssue "RollingNets") 705 (by decide +kernel) (by decide +kernel)⟩, tm_111, tm_441, by decide +kernel⟩, tm_440⟩
theorem mv_Notices_36 : MV "RollingNets$Notices" 36 yX7_isFull cX7_isFull 1 (some .boolean) 0 2 := ⟨⟨Or.inl tm_706, tm_113, tm_465, by decide +kernel⟩, tm_463, tm_464, _, _, rfl⟩
theorem ms_Notices_40 : MS "RollingNets$Notices" 40 yX5_agedLong cX5_agedLong 7 (some .int) 3 := ⟨⟨Or.inl tm_707, tm_121, tm_709, by decide +kernel⟩, tm_708⟩
theorem ms_Notices_46 : MS "RollingNets$Notices" 46 yX5_givers cX5_givers 5 (some .int) 2 := ⟨⟨Or.inl tm_711, tm_121, tm_631, by decide +kernel⟩, tm_630⟩
theorem ms_Notices_50 : MS "RollingNets$Notices" 50 yX5_assign cX5_assign 11 (some .int) 3 := ⟨⟨Or.inl tm_712, tm_121, tm_714, by decide +kernel⟩, tm_713⟩
theorem ms_Notices_100 : MS "RollingNets$Notices" 100 yX5_assignedTo cX5_assignedTo 5 (some .int) 3 := ⟨⟨Or.inl tm_715, tm_121, tm_717, by decide +kernel⟩, tm_716⟩
theorem ms_Notices_53 : MS "RollingNets$Notices" 53 yX5_addNotice cX5_addNotice 7 (some .int) 5 := ⟨⟨Or.inl tm_718, tm_121, tm_720, by decide +kernel⟩, tm_719⟩
theorem mv_Notices_103 : MV "RollingNets$Notices" 103 yX7_addRow cX7_addRow 2 (some .int) 0 2 := ⟨⟨Or.inl tm_721, tm_113, tm_461, by decide +kernel⟩, tm_459, tm_460, _, _, rfl⟩
theorem ms_RollingNets_135 : MS "RollingNets" 135 yX5_giveApart cX5_giveApart 4 (some .int) 2 := ⟨⟨Or.inl tm_726, tm_121, tm_728, by decide +kernel⟩, tm_727⟩
theorem ms_Notices_109 : MS "RollingNets$Notices" 109 yX5_isCalled cX5_isCalled 4 (some .boolean) 2 := ⟨⟨Or.inl tm_729, tm_121, tm_731, by decide +kernel⟩, tm_730⟩
theorem mv_RollingNets_138 : MV "RollingNets" 138 yX6_hasRoom cX6_hasRoom 1 (some .boolean) 0 5 := ⟨⟨Or.inl tm_736, tm_117, tm_739, by decide +kernel⟩, tm_737, tm_738, _, _, rfl⟩
theorem mv_RollingNets_142 : MV "RollingNets" 142 yX6_append cX6_append 3 none 1 5 := ⟨⟨Or.inl tm_740, tm_117, tm_743, by decide +kernel⟩, tm_741, tm_742, _, _, rfl⟩
theorem mv_RollingNets_149 : MV "RollingNets" 149 yX6_read cX6_read 2 (some .boolean) 0 5 := ⟨⟨Or.inl tm_752, tm_117, tm_755, by decide +kernel⟩, tm_753, tm_754, _, _, rfl⟩
theorem mv_Reader_37 : MV "RollingNets$Reader" 37 yX7_clear cX7_clear 1 none 0 2 := ⟨⟨Or.inl tm_756, tm_113, tm_759, by decide +kernel⟩, tm_757, tm_758, _, _, rfl⟩
theorem mv_Reader_40 : MV "RollingNets$Reader" 40 yX6_skipBlanks cX6_skipBlanks 1 none 0 5 := ⟨⟨Or.inl tm_760, tm_117, tm_763, by decide +kernel⟩, tm_762, tm_5, _, _, rfl⟩
theorem mv_Reader_80 : MV "RollingNets$Reader" 80 yX6_here cX6_here 2 (some .int) 1 5 := ⟨⟨Or.inl tm_764, tm_117, tm_767, by decide +kernel⟩, tm_766, tm_6, _, _, rfl⟩
theorem mv_Reader_43 : MV "RollingNets$Reader" 43 yX6_readLine cX6_readLine 5 none 0 5 := ⟨⟨Or.inl tm_768, tm_117, tm_771, by decide +kernel⟩, tm_770, tm_7, _, _, rfl⟩
theorem mv_Reader_46 : MV "RollingNets$Reader" 46 yX6_wordHere cX6_wordHere 2 (some .int) 0 5 := ⟨⟨Or.inl tm_772, tm_117, tm_775, by decide +kernel⟩, tm_774, tm_8, _, _, rfl⟩
theorem ms_Reader_99 : MS "RollingNets$Reader" 99 yX6_isLetter cX6_isLetter 1 (some .boolean) 1 := ⟨⟨Or.inl tm_841, tm_117, tm_843, by decide +kernel⟩, tm_842⟩
theorem ms_Reader_84 : MS "RollingNets$Reader" 84 yX8_within cX8_within 3 (some .boolean) 3 := ⟨⟨Or.inr ⟨_, NTB_mem (w := Cond.methodLinkNest "RollingNets$Reader" 84 yX8_within "RollingNets") 844 (by decide +kernel) (by decide +kernel)⟩, tm_111, tm_422, by decide +kernel⟩, tm_421⟩
theorem mv_Reader_50 : MV "RollingNets$Reader" 50 yX6_failHere cX6_failHere 2 none 1 5 := ⟨⟨Or.inl tm_845, tm_117, tm_848, by decide +kernel⟩, tm_847, tm_10, _, _, rfl⟩
theorem mv_Reader_54 : MV "RollingNets$Reader" 54 yX7_addRow cX7_addRow 2 (some .int) 0 2 := ⟨⟨Or.inl tm_849, tm_113, tm_461, by decide +kernel⟩, tm_459, tm_460, _, _, rfl⟩
theorem mv_Reader_57 : MV "RollingNets$Reader" 57 yX7_put cX7_put 4 none 3 2 := ⟨⟨Or.inl tm_850, tm_113, tm_469, by decide +kernel⟩, tm_467, tm_468, _, _, rfl⟩
theorem mv_Reader_76 : MV "RollingNets$Reader" 76 yX6_readNumber cX6_readNumber 6 none 3 5 := ⟨⟨Or.inl tm_861, tm_117, tm_864, by decide +kernel⟩, tm_863, tm_11, _, _, rfl⟩
theorem ms_Reader_88 : MS "RollingNets$Reader" 88 yX6_leastOf cX6_leastOf 1 (some .int) 1 := ⟨⟨Or.inl tm_865, tm_117, tm_867, by decide +kernel⟩, tm_866⟩
theorem ms_Reader_92 : MS "RollingNets$Reader" 92 yX6_mostOf cX6_mostOf 1 (some .int) 1 := ⟨⟨Or.inl tm_868, tm_117, tm_870, by decide +kernel⟩, tm_869⟩
theorem mv_RollingNets_158 : MV "RollingNets" 158 yX7_copyFrom cX7_copyFrom 4 none 1 2 := ⟨⟨Or.inl tm_871, tm_113, tm_874, by decide +kernel⟩, tm_872, tm_873, _, _, rfl⟩
theorem mv_RollingNets_171 : MV "RollingNets" 171 yX7_get cX7_get 3 (some .int) 2 2 := ⟨⟨Or.inl tm_886, tm_113, tm_501, by decide +kernel⟩, tm_499, tm_500, _, _, rfl⟩
theorem mv_RollingNets_175 : MV "RollingNets" 175 yX8_perform cX8_perform 6 (some .boolean) 1 0 := ⟨⟨Or.inl tm_887, tm_111, tm_890, by decide +kernel⟩, tm_889, tm_12, _, _, rfl⟩
theorem mv_RollingNets_178 : MV "RollingNets" 178 yX8_trade cX8_trade 6 (some .int) 5 0 := ⟨⟨Or.inl tm_891, tm_111, tm_450, by decide +kernel⟩, tm_448, tm_449, _, _, rfl⟩
theorem mv_RollingNets_182 : MV "RollingNets" 182 yX8_apart cX8_apart 6 (some .int) 5 0 := ⟨⟨Or.inl tm_892, tm_111, tm_473, by decide +kernel⟩, tm_471, tm_472, _, _, rfl⟩
theorem mv_RollingNets_185 : MV "RollingNets" 185 yX8_tell cX8_tell 6 (some .boolean) 4 0 := ⟨⟨Or.inl tm_893, tm_111, tm_430, by decide +kernel⟩, tm_428, tm_429, _, _, rfl⟩
theorem mv_RollingNets_189 : MV "RollingNets" 189 yX8_price cX8_price 3 (some .boolean) 2 0 := ⟨⟨Or.inl tm_894, tm_111, tm_446, by decide +kernel⟩, tm_444, tm_445, _, _, rfl⟩
theorem mv_RollingNets_191 : MV "RollingNets" 191 yX1_copyFrom cX1_copyFrom 3 none 1 1 := ⟨⟨Or.inl tm_899, tm_112, tm_902, by decide +kernel⟩, tm_900, tm_901, _, _, rfl⟩
theorem mv_House_165 : MV "RollingNets$House" 165 yX3_copyFrom cX3_copyFrom 4 none 1 4 := ⟨⟨Or.inl tm_903, tm_116, tm_906, by decide +kernel⟩, tm_904, tm_905, _, _, rfl⟩
theorem mv_House_169 : MV "RollingNets$House" 169 yX7_copyFrom cX7_copyFrom 4 none 1 2 := ⟨⟨Or.inl tm_908, tm_113, tm_874, by decide +kernel⟩, tm_872, tm_873, _, _, rfl⟩
theorem mv_RollingNets_198 : MV "RollingNets" 198 yX1_holding cX1_holding 5 (some .int) 3 1 := ⟨⟨Or.inl tm_914, tm_112, tm_917, by decide +kernel⟩, tm_915, tm_916, _, _, rfl⟩
theorem mv_House_155 : MV "RollingNets$House" 155 yX3_countLots cX3_countLots 4 (some .int) 1 4 := ⟨⟨Or.inl tm_918, tm_116, tm_921, by decide +kernel⟩, tm_919, tm_920, _, _, rfl⟩
theorem mv_House_158 : MV "RollingNets$House" 158 yX3_dayOfLot cX3_dayOfLot 5 (some .int) 2 4 := ⟨⟨Or.inl tm_922, tm_116, tm_925, by decide +kernel⟩, tm_923, tm_924, _, _, rfl⟩
theorem mv_House_161 : MV "RollingNets$House" 161 yX1_canLend cX1_canLend 6 (some .int) 2 1 := ⟨⟨Or.inl tm_926, tm_112, tm_651, by decide +kernel⟩, tm_649, tm_650, _, _, rfl⟩
theorem mv_RollingNets_202 : MV "RollingNets" 202 yX3_dayOfLot cX3_dayOfLot 5 (some .int) 2 4 := ⟨⟨Or.inl tm_932, tm_116, tm_925, by decide +kernel⟩, tm_923, tm_924, _, _, rfl⟩
theorem ms_RollingNets_215 : MS "RollingNets" 215 yX0_ofIssue cX0_ofIssue 4 (some .int) 3 := ⟨⟨Or.inl tm_949, tm_122, tm_951, by decide +kernel⟩, tm_950⟩
theorem ms_Figures_24 : MS "RollingNets$Figures" 24 yX0_overMembers cX0_overMembers 6 (some .int) 3 := ⟨⟨Or.inl tm_952, tm_122, tm_954, by decide +kernel⟩, tm_953⟩
theorem mv_Figures_50 : MV "RollingNets$Figures" 50 yX3_longOf cX3_longOf 2 (some .int) 1 4 := ⟨⟨Or.inl tm_955, tm_116, tm_571, by decide +kernel⟩, tm_569, tm_570, _, _, rfl⟩
theorem mv_Figures_54 : MV "RollingNets$Figures" 54 yX3_shortOf cX3_shortOf 2 (some .int) 1 4 := ⟨⟨Or.inl tm_956, tm_116, tm_567, by decide +kernel⟩, tm_565, tm_566, _, _, rfl⟩
theorem ms_Figures_30 : MS "RollingNets$Figures" 30 yX0_eldestDay cX0_eldestDay 5 (some .int) 2 := ⟨⟨Or.inl tm_957, tm_122, tm_959, by decide +kernel⟩, tm_958⟩
theorem mv_Figures_57 : MV "RollingNets$Figures" 57 yX3_dayOfLot cX3_dayOfLot 5 (some .int) 2 4 := ⟨⟨Or.inl tm_960, tm_116, tm_925, by decide +kernel⟩, tm_923, tm_924, _, _, rfl⟩
theorem ms_Figures_34 : MS "RollingNets$Figures" 34 yX0_overDeals cX0_overDeals 8 (some .int) 4 := ⟨⟨Or.inl tm_961, tm_122, tm_963, by decide +kernel⟩, tm_962⟩
theorem mv_Figures_65 : MV "RollingNets$Figures" 65 yX7_size cX7_size 1 (some .int) 0 2 := ⟨⟨Or.inl tm_964, tm_113, tm_426, by decide +kernel⟩, tm_424, tm_425, _, _, rfl⟩
theorem mv_Figures_70 : MV "RollingNets$Figures" 70 yX7_get cX7_get 3 (some .int) 2 2 := ⟨⟨Or.inl tm_965, tm_113, tm_501, by decide +kernel⟩, tm_499, tm_500, _, _, rfl⟩
theorem ms_Figures_38 : MS "RollingNets$Figures" 38 yX0_countDeals cX0_countDeals 4 (some .int) 2 := ⟨⟨Or.inl tm_966, tm_122, tm_968, by decide +kernel⟩, tm_967⟩
theorem ms_RollingNets_226 : MS "RollingNets" 226 yX0_demand cX0_demand 10 (some .long) 2 := ⟨⟨Or.inl tm_978, tm_122, tm_980, by decide +kernel⟩, tm_979⟩
theorem mv_Figures_101 : MV "RollingNets$Figures" 101 yX3_worth cX3_worth 2 (some .long) 1 4 := ⟨⟨Or.inl tm_983, tm_116, tm_599, by decide +kernel⟩, tm_597, tm_598, _, _, rfl⟩
theorem ms_RollingNets_230 : MS "RollingNets" 230 yX0_lacks cX0_lacks 2 (some .long) 2 := ⟨⟨Or.inl tm_985, tm_122, tm_987, by decide +kernel⟩, tm_986⟩
theorem ms_Figures_107 : MS "RollingNets$Figures" 107 yX0_demand cX0_demand 10 (some .long) 2 := ⟨⟨Or.inl tm_988, tm_122, tm_980, by decide +kernel⟩, tm_979⟩
theorem ms_RollingNets_233 : MS "RollingNets" 233 yX0_sunk cX0_sunk 8 (some .int) 2 := ⟨⟨Or.inl tm_994, tm_122, tm_996, by decide +kernel⟩, tm_995⟩
theorem mv_RollingNets_240 : MV "RollingNets" 240 yX2_form cX2_form 7 none 2 3 := ⟨⟨Or.inl tm_1001, tm_114, tm_619, by decide +kernel⟩, tm_617, tm_618, _, _, rfl⟩
theorem ms_RollingNets_254 : MS "RollingNets" 254 yX0_agedShort cX0_agedShort 8 (some .int) 3 := ⟨⟨Or.inl tm_1006, tm_122, tm_1008, by decide +kernel⟩, tm_1007⟩
theorem ms_RollingNets_257 : MS "RollingNets" 257 yX0_booked cX0_booked 6 (some .int) 4 := ⟨⟨Or.inl tm_1014, tm_122, tm_1016, by decide +kernel⟩, tm_1015⟩
theorem mv_RollingNets_263 : MV "RollingNets" 263 yX3_longOf cX3_longOf 2 (some .int) 1 4 := ⟨⟨Or.inl tm_1025, tm_116, tm_571, by decide +kernel⟩, tm_569, tm_570, _, _, rfl⟩
theorem ms_RollingNets_267 : MS "RollingNets" 267 yX0_aheadOf cX0_aheadOf 6 (some .int) 3 := ⟨⟨Or.inl tm_1026, tm_122, tm_1028, by decide +kernel⟩, tm_1027⟩
theorem mv_Figures_131 : MV "RollingNets$Figures" 131 yX2_form cX2_form 7 none 2 3 := ⟨⟨Or.inl tm_1029, tm_114, tm_619, by decide +kernel⟩, tm_617, tm_618, _, _, rfl⟩
theorem ms_RollingNets_270 : MS "RollingNets" 270 yX5_layChain cX5_layChain 7 none 3 := ⟨⟨Or.inl tm_1034, tm_121, tm_681, by decide +kernel⟩, tm_680⟩
theorem ms_RollingNets_274 : MS "RollingNets" 274 yX5_lastOfChain cX5_lastOfChain 2 (some .int) 1 := ⟨⟨Or.inl tm_1035, tm_121, tm_687, by decide +kernel⟩, tm_686⟩
theorem ms_RollingNets_281 : MS "RollingNets" 281 yX0_openNotices cX0_openNotices 3 (some .int) 1 := ⟨⟨Or.inl tm_1040, tm_122, tm_1042, by decide +kernel⟩, tm_1041⟩
theorem ms_RollingNets_288 : MS "RollingNets" 288 yX0_allCash cX0_allCash 4 (some .long) 1 := ⟨⟨Or.inl tm_1043, tm_122, tm_1045, by decide +kernel⟩, tm_1044⟩
theorem ms_RollingNets_292 : MS "RollingNets" 292 yX0_overDeals cX0_overDeals 8 (some .int) 4 := ⟨⟨Or.inl tm_1046, tm_122, tm_963, by decide +kernel⟩, tm_962⟩
theorem ms_RollingNets_295 : MS "RollingNets" 295 yX0_lacking cX0_lacking 3 (some .int) 1 := ⟨⟨Or.inl tm_1047, tm_122, tm_1049, by decide +kernel⟩, tm_1048⟩
theorem ms_Figures_119 : MS "RollingNets$Figures" 119 yX0_lacks cX0_lacks 2 (some .long) 2 := ⟨⟨Or.inl tm_1050, tm_122, tm_987, by decide +kernel⟩, tm_986⟩
theorem ms_RollingNets_298 : MS "RollingNets" 298 yX0_suspendedSet cX0_suspendedSet 3 (some .int) 1 := ⟨⟨Or.inl tm_1051, tm_122, tm_627, by decide +kernel⟩, tm_626⟩
theorem ms_RollingNets_301 : MS "RollingNets" 301 yX0_shortSet cX0_shortSet 4 (some .int) 1 := ⟨⟨Or.inl tm_1052, tm_122, tm_1054, by decide +kernel⟩, tm_1053⟩
theorem mv_Y_87 : MV "RollingNetsModel" 87 yX9_canSet cX9_canSet 3 (some .boolean) 2 6 := ⟨⟨Or.inl tm_1162, tm_118, tm_1165, by decide +kernel⟩, tm_1164, tm_13, _, _, rfl⟩
theorem mv_Y_79 : MV "RollingNetsModel" 79 yX9_isIn cX9_isIn 4 (some .boolean) 3 6 := ⟨⟨Or.inl tm_1166, tm_118, tm_1169, by decide +kernel⟩, tm_1168, tm_14, _, _, rfl⟩
theorem mv_Y_83 : MV "RollingNetsModel" 83 yX9_firstOf cX9_firstOf 2 (some .int) 1 6 := ⟨⟨Or.inl tm_1170, tm_118, tm_1173, by decide +kernel⟩, tm_1172, tm_15, _, _, rfl⟩
theorem mv_Y_90 : MV "RollingNetsModel" 90 yX9_isMember cX9_isMember 2 (some .boolean) 1 6 := ⟨⟨Or.inl tm_1178, tm_118, tm_1181, by decide +kernel⟩, tm_1180, tm_16, _, _, rfl⟩
theorem mv_Y_61 : MV "RollingNetsModel" 61 yX9_memberMany cX9_memberMany 1 (some .int) 0 6 := ⟨⟨Or.inl tm_1182, tm_118, tm_1185, by decide +kernel⟩, tm_1184, tm_17, _, _, rfl⟩
theorem mv_Y_94 : MV "RollingNetsModel" 94 yX9_isIssue cX9_isIssue 2 (some .boolean) 1 6 := ⟨⟨Or.inl tm_1186, tm_118, tm_1189, by decide +kernel⟩, tm_1188, tm_18, _, _, rfl⟩
theorem mv_Y_65 : MV "RollingNetsModel" 65 yX9_cellOf cX9_cellOf 3 (some .int) 2 6 := ⟨⟨Or.inl tm_1191, tm_118, tm_1194, by decide +kernel⟩, tm_1193, tm_19, _, _, rfl⟩
theorem mv_Y_98 : MV "RollingNetsModel" 98 yX9_freeOf cX9_freeOf 3 (some .int) 2 6 := ⟨⟨Or.inl tm_1207, tm_118, tm_1210, by decide +kernel⟩, tm_1209, tm_20, _, _, rfl⟩
theorem mv_Y_69 : MV "RollingNetsModel" 69 yX9_has cX9_has 3 (some .boolean) 2 6 := ⟨⟨Or.inl tm_1211, tm_118, tm_1214, by decide +kernel⟩, tm_1213, tm_21, _, _, rfl⟩
theorem mv_Y_73 : MV "RollingNetsModel" 73 yX9_stockOf cX9_stockOf 3 (some .int) 2 6 := ⟨⟨Or.inl tm_1215, tm_118, tm_1218, by decide +kernel⟩, tm_1217, tm_22, _, _, rfl⟩
theorem mv_Y_76 : MV "RollingNetsModel" 76 yX9_greater cX9_greater 3 (some .int) 2 6 := ⟨⟨Or.inl tm_1219, tm_118, tm_1222, by decide +kernel⟩, tm_1221, tm_23, _, _, rfl⟩
theorem mv_Y_101 : MV "RollingNetsModel" 101 yX9_stockMore cX9_stockMore 4 none 3 6 := ⟨⟨Or.inl tm_1223, tm_118, tm_1226, by decide +kernel⟩, tm_1225, tm_24, _, _, rfl⟩
theorem mv_Y_147 : MV "RollingNetsModel" 147 yX9_trades cX9_trades 8 (some .int) 6 6 := ⟨⟨Or.inl tm_1240, tm_118, tm_1243, by decide +kernel⟩, tm_1242, tm_25, _, _, rfl⟩
theorem mv_Y_141 : MV "RollingNetsModel" 141 yX9_tradeAt cX9_tradeAt 2 (some .int) 1 6 := ⟨⟨Or.inl tm_1244, tm_118, tm_1247, by decide +kernel⟩, tm_1246, tm_26, _, _, rfl⟩
theorem mv_Y_144 : MV "RollingNetsModel" 144 yX9_settingOf cX9_settingOf 2 (some .int) 1 6 := ⟨⟨Or.inl tm_1248, tm_118, tm_1251, by decide +kernel⟩, tm_1250, tm_27, _, _, rfl⟩
theorem mv_Y_169 : MV "RollingNetsModel" 169 yX9_oldLong cX9_oldLong 5 (some .int) 2 6 := ⟨⟨Or.inl tm_1260, tm_118, tm_1263, by decide +kernel⟩, tm_1262, tm_28, _, _, rfl⟩
theorem mv_Y_110 : MV "RollingNetsModel" 110 yX9_lotMany cX9_lotMany 3 (some .int) 2 6 := ⟨⟨Or.inl tm_1264, tm_118, tm_1267, by decide +kernel⟩, tm_1266, tm_29, _, _, rfl⟩
theorem mv_Y_122 : MV "RollingNetsModel" 122 yX9_isLong cX9_isLong 3 (some .boolean) 2 6 := ⟨⟨Or.inl tm_1268, tm_118, tm_1271, by decide +kernel⟩, tm_1270, tm_30, _, _, rfl⟩
theorem mv_Y_113 : MV "RollingNetsModel" 113 yX9_sharesOf cX9_sharesOf 4 (some .int) 3 6 := ⟨⟨Or.inl tm_1272, tm_118, tm_1275, by decide +kernel⟩, tm_1274, tm_31, _, _, rfl⟩
theorem mv_Y_106 : MV "RollingNetsModel" 106 yX9_lotAt cX9_lotAt 4 (some .int) 3 6 := ⟨⟨Or.inl tm_1276, tm_118, tm_1279, by decide +kernel⟩, tm_1278, tm_32, _, _, rfl⟩
theorem mv_Y_125 : MV "RollingNetsModel" 125 yX9_dayOf cX9_dayOf 4 (some .int) 3 6 := ⟨⟨Or.inl tm_1280, tm_118, tm_1283, by decide +kernel⟩, tm_1282, tm_33, _, _, rfl⟩
theorem mv_Y_172 : MV "RollingNetsModel" 172 yX9_isNoticed cX9_isNoticed 4 (some .boolean) 2 6 := ⟨⟨Or.inl tm_1284, tm_118, tm_1287, by decide +kernel⟩, tm_1286, tm_34, _, _, rfl⟩
theorem mv_Y_160 : MV "RollingNetsModel" 160 yX9_isOpenNet cX9_isOpenNet 3 (some .boolean) 2 6 := ⟨⟨Or.inl tm_1288, tm_118, tm_1291, by decide +kernel⟩, tm_1290, tm_35, _, _, rfl⟩
theorem mv_Y_157 : MV "RollingNetsModel" 157 yX9_noticeOf cX9_noticeOf 3 (some .int) 2 6 := ⟨⟨Or.inl tm_1292, tm_118, tm_1295, by decide +kernel⟩, tm_1294, tm_36, _, _, rfl⟩
theorem mv_Y_154 : MV "RollingNetsModel" 154 yX9_noticeAt cX9_noticeAt 2 (some .int) 1 6 := ⟨⟨Or.inl tm_1296, tm_118, tm_1299, by decide +kernel⟩, tm_1298, tm_37, _, _, rfl⟩
theorem mv_Y_175 : MV "RollingNetsModel" 175 yX9_newNotice cX9_newNotice 7 (some .int) 4 6 := ⟨⟨Or.inl tm_1300, tm_118, tm_1303, by decide +kernel⟩, tm_1302, tm_38, _, _, rfl⟩
theorem mv_Y_179 : MV "RollingNetsModel" 179 yX9_nextShort cX9_nextShort 9 (some .int) 3 6 := ⟨⟨Or.inl tm_1304, tm_118, tm_1307, by decide +kernel⟩, tm_1306, tm_39, _, _, rfl⟩
theorem mv_Y_116 : MV "RollingNetsModel" 116 yX9_isShort cX9_isShort 3 (some .boolean) 2 6 := ⟨⟨Or.inl tm_1308, tm_118, tm_1311, by decide +kernel⟩, tm_1310, tm_40, _, _, rfl⟩
theorem mv_Y_182 : MV "RollingNetsModel" 182 yX9_shortOf cX9_shortOf 3 (some .int) 2 6 := ⟨⟨Or.inl tm_1312, tm_118, tm_1315, by decide +kernel⟩, tm_1314, tm_41, _, _, rfl⟩
theorem mv_Y_119 : MV "RollingNetsModel" 119 yX9_positionOf cX9_positionOf 5 (some .int) 2 6 := ⟨⟨Or.inl tm_1316, tm_118, tm_1319, by decide +kernel⟩, tm_1318, tm_42, _, _, rfl⟩
theorem mv_Y_185 : MV "RollingNetsModel" 185 yX9_assignedTo cX9_assignedTo 5 (some .int) 2 6 := ⟨⟨Or.inl tm_1320, tm_118, tm_1323, by decide +kernel⟩, tm_1322, tm_43, _, _, rfl⟩
theorem mv_Y_131 : MV "RollingNetsModel" 131 yX9_lesser cX9_lesser 3 (some .int) 2 6 := ⟨⟨Or.inl tm_1324, tm_118, tm_1327, by decide +kernel⟩, tm_1326, tm_44, _, _, rfl⟩
theorem mv_Y_191 : MV "RollingNetsModel" 191 yX9_isOpenApart cX9_isOpenApart 2 (some .boolean) 1 6 := ⟨⟨Or.inl tm_1332, tm_118, tm_1335, by decide +kernel⟩, tm_1334, tm_45, _, _, rfl⟩
theorem mv_Y_188 : MV "RollingNetsModel" 188 yX9_isTrade cX9_isTrade 2 (some .boolean) 1 6 := ⟨⟨Or.inl tm_1336, tm_118, tm_1339, by decide +kernel⟩, tm_1338, tm_46, _, _, rfl⟩
theorem mv_Y_151 : MV "RollingNetsModel" 151 yX9_tradeOf cX9_tradeOf 3 (some .int) 2 6 := ⟨⟨Or.inl tm_1340, tm_118, tm_1343, by decide +kernel⟩, tm_1342, tm_47, _, _, rfl⟩
theorem mv_Y_194 : MV "RollingNetsModel" 194 yX9_hasNotice cX9_hasNotice 3 (some .boolean) 1 6 := ⟨⟨Or.inl tm_1344, tm_118, tm_1347, by decide +kernel⟩, tm_1346, tm_48, _, _, rfl⟩
theorem mv_Y_229 : MV "RollingNetsModel" 229 yX9_laysChain cX9_laysChain 6 none 2 6 := ⟨⟨Or.inl tm_1352, tm_118, tm_1355, by decide +kernel⟩, tm_1354, tm_49, _, _, rfl⟩
theorem mv_Y_226 : MV "RollingNetsModel" 226 yX9_nextOfChain cX9_nextOfChain 7 (some .int) 4 6 := ⟨⟨Or.inl tm_1356, tm_118, tm_1359, by decide +kernel⟩, tm_1358, tm_50, _, _, rfl⟩
theorem mv_Y_217 : MV "RollingNetsModel" 217 yX9_isRipe cX9_isRipe 4 (some .boolean) 3 6 := ⟨⟨Or.inl tm_1360, tm_118, tm_1363, by decide +kernel⟩, tm_1362, tm_51, _, _, rfl⟩
theorem mv_Y_303 : MV "RollingNetsModel" 303 yX9_goesNight cX9_goesNight 3 none 0 6 := ⟨⟨Or.inl tm_1368, tm_118, tm_1371, by decide +kernel⟩, tm_1370, tm_52, _, _, rfl⟩
theorem mv_Y_282 : MV "RollingNetsModel" 282 yX9_nets cX9_nets 6 none 1 6 := ⟨⟨Or.inl tm_1372, tm_118, tm_1375, by decide +kernel⟩, tm_1374, tm_53, _, _, rfl⟩
theorem mv_Y_203 : MV "RollingNetsModel" 203 yX9_markedOf cX9_markedOf 2 (some .int) 1 6 := ⟨⟨Or.inl tm_1376, tm_118, tm_1379, by decide +kernel⟩, tm_1378, tm_54, _, _, rfl⟩
theorem mv_Y_206 : MV "RollingNetsModel" 206 yX9_cashMore cX9_cashMore 4 none 2 6 := ⟨⟨Or.inl tm_1380, tm_118, tm_1383, by decide +kernel⟩, tm_1382, tm_55, _, _, rfl⟩
theorem mv_Y_247 : MV "RollingNetsModel" 247 yX9_adds cX9_adds 8 none 4 6 := ⟨⟨Or.inl tm_1384, tm_118, tm_1387, by decide +kernel⟩, tm_1386, tm_56, _, _, rfl⟩
theorem mv_Y_138 : MV "RollingNetsModel" 138 yX9_takesOff cX9_takesOff 7 none 3 6 := ⟨⟨Or.inl tm_1388, tm_118, tm_1391, by decide +kernel⟩, tm_1390, tm_57, _, _, rfl⟩
theorem mv_Y_134 : MV "RollingNetsModel" 134 yX9_takesOf cX9_takesOf 6 none 4 6 := ⟨⟨Or.inl tm_1392, tm_118, tm_1395, by decide +kernel⟩, tm_1394, tm_58, _, _, rfl⟩
theorem mv_Y_128 : MV "RollingNetsModel" 128 yX9_dropsLot cX9_dropsLot 5 none 3 6 := ⟨⟨Or.inl tm_1396, tm_118, tm_1399, by decide +kernel⟩, tm_1398, tm_59, _, _, rfl⟩
theorem mv_Y_285 : MV "RollingNetsModel" 285 yX9_delivers cX9_delivers 4 none 1 6 := ⟨⟨Or.inl tm_1400, tm_118, tm_1403, by decide +kernel⟩, tm_1402, tm_60, _, _, rfl⟩
theorem mv_Y_256 : MV "RollingNetsModel" 256 yX9_deliversOf cX9_deliversOf 4 none 2 6 := ⟨⟨Or.inl tm_1404, tm_118, tm_1407, by decide +kernel⟩, tm_1406, tm_61, _, _, rfl⟩
theorem mv_Y_213 : MV "RollingNetsModel" 213 yX9_writes cX9_writes 7 none 5 6 := ⟨⟨Or.inl tm_1408, tm_118, tm_1411, by decide +kernel⟩, tm_1410, tm_62, _, _, rfl⟩
theorem mv_Y_253 : MV "RollingNetsModel" 253 yX9_takesAssigned cX9_takesAssigned 7 none 3 6 := ⟨⟨Or.inl tm_1412, tm_118, tm_1415, by decide +kernel⟩, tm_1414, tm_63, _, _, rfl⟩
theorem mv_Y_288 : MV "RollingNetsModel" 288 yX9_allots cX9_allots 4 none 1 6 := ⟨⟨Or.inl tm_1416, tm_118, tm_1419, by decide +kernel⟩, tm_1418, tm_64, _, _, rfl⟩
theorem mv_Y_259 : MV "RollingNetsModel" 259 yX9_firstServed cX9_firstServed 4 (some .int) 1 6 := ⟨⟨Or.inl tm_1420, tm_118, tm_1423, by decide +kernel⟩, tm_1422, tm_65, _, _, rfl⟩
theorem mv_Y_243 : MV "RollingNetsModel" 243 yX9_goesAhead cX9_goesAhead 6 (some .boolean) 5 6 := ⟨⟨Or.inl tm_1424, tm_118, tm_1427, by decide +kernel⟩, tm_1426, tm_66, _, _, rfl⟩
theorem mv_Y_291 : MV "RollingNetsModel" 291 yX9_lends cX9_lends 3 none 1 6 := ⟨⟨Or.inl tm_1428, tm_118, tm_1431, by decide +kernel⟩, tm_1430, tm_67, _, _, rfl⟩
theorem mv_Y_271 : MV "RollingNetsModel" 271 yX9_laysQueue cX9_laysQueue 7 none 2 6 := ⟨⟨Or.inl tm_1432, tm_118, tm_1435, by decide +kernel⟩, tm_1434, tm_68, _, _, rfl⟩
theorem mv_Y_274 : MV "RollingNetsModel" 274 yX9_lendsTo cX9_lendsTo 7 none 3 6 := ⟨⟨Or.inl tm_1436, tm_118, tm_1439, by decide +kernel⟩, tm_1438, tm_69, _, _, rfl⟩
theorem mv_Y_265 : MV "RollingNetsModel" 265 yX9_lenderFor cX9_lenderFor 5 (some .int) 2 6 := ⟨⟨Or.inl tm_1440, tm_118, tm_1443, by decide +kernel⟩, tm_1442, tm_70, _, _, rfl⟩
theorem mv_Y_262 : MV "RollingNetsModel" 262 yX9_canLend cX9_canLend 3 (some .int) 2 6 := ⟨⟨Or.inl tm_1444, tm_118, tm_1447, by decide +kernel⟩, tm_1446, tm_71, _, _, rfl⟩
theorem mv_Y_268 : MV "RollingNetsModel" 268 yX9_lotOfDay cX9_lotOfDay 5 (some .int) 3 6 := ⟨⟨Or.inl tm_1448, tm_118, tm_1451, by decide +kernel⟩, tm_1450, tm_72, _, _, rfl⟩
theorem mv_Y_294 : MV "RollingNetsModel" 294 yX9_doesApart cX9_doesApart 6 none 1 6 := ⟨⟨Or.inl tm_1452, tm_118, tm_1455, by decide +kernel⟩, tm_1454, tm_73, _, _, rfl⟩
theorem mv_Y_297 : MV "RollingNetsModel" 297 yX9_closes cX9_closes 4 none 1 6 := ⟨⟨Or.inl tm_1456, tm_118, tm_1459, by decide +kernel⟩, tm_1458, tm_74, _, _, rfl⟩
theorem mv_Y_233 : MV "RollingNetsModel" 233 yX9_closesApart cX9_closesApart 9 none 1 6 := ⟨⟨Or.inl tm_1460, tm_118, tm_1463, by decide +kernel⟩, tm_1462, tm_75, _, _, rfl⟩
theorem mv_Y_210 : MV "RollingNetsModel" 210 yX9_buyPrice cX9_buyPrice 2 (some .int) 1 6 := ⟨⟨Or.inl tm_1464, tm_118, tm_1467, by decide +kernel⟩, tm_1466, tm_76, _, _, rfl⟩
theorem mv_Y_197 : MV "RollingNetsModel" 197 yX9_priceOf cX9_priceOf 2 (some .int) 1 6 := ⟨⟨Or.inl tm_1468, tm_118, tm_1471, by decide +kernel⟩, tm_1470, tm_77, _, _, rfl⟩
theorem mv_Y_237 : MV "RollingNetsModel" 237 yX9_closesFrom cX9_closesFrom 6 none 2 6 := ⟨⟨Or.inl tm_1472, tm_118, tm_1475, by decide +kernel⟩, tm_1474, tm_78, _, _, rfl⟩
theorem mv_Y_200 : MV "RollingNetsModel" 200 yX9_longOf cX9_longOf 3 (some .int) 2 6 := ⟨⟨Or.inl tm_1476, tm_118, tm_1479, by decide +kernel⟩, tm_1478, tm_79, _, _, rfl⟩
theorem mv_Y_300 : MV "RollingNetsModel" 300 yX9_marks cX9_marks 4 none 1 6 := ⟨⟨Or.inl tm_1480, tm_118, tm_1483, by decide +kernel⟩, tm_1482, tm_80, _, _, rfl⟩
theorem mv_Y_279 : MV "RollingNetsModel" 279 yX9_fails cX9_fails 5 none 2 6 := ⟨⟨Or.inl tm_1484, tm_118, tm_1487, by decide +kernel⟩, tm_1486, tm_81, _, _, rfl⟩
theorem mv_Y_310 : MV "RollingNetsModel" 310 yX9_isFinished cX9_isFinished 3 (some .boolean) 1 6 := ⟨⟨Or.inl tm_1493, tm_118, tm_1496, by decide +kernel⟩, tm_1495, tm_82, _, _, rfl⟩
theorem mv_Y_313 : MV "RollingNetsModel" 313 yX9_canSplit cX9_canSplit 5 (some .boolean) 2 6 := ⟨⟨Or.inl tm_1497, tm_118, tm_1500, by decide +kernel⟩, tm_1499, tm_83, _, _, rfl⟩
theorem mv_Y_307 : MV "RollingNetsModel" 307 yX9_canGrow cX9_canGrow 3 (some .boolean) 2 6 := ⟨⟨Or.inl tm_1501, tm_118, tm_1504, by decide +kernel⟩, tm_1503, tm_84, _, _, rfl⟩
theorem mv_Y_318 : MV "RollingNetsModel" 318 yX9_demandOf cX9_demandOf 8 (some .long) 1 6 := ⟨⟨Or.inl tm_1511, tm_118, tm_1514, by decide +kernel⟩, tm_1513, tm_85, _, _, rfl⟩
theorem mv_Y_324 : MV "RollingNetsModel" 324 yX9_lacksOf cX9_lacksOf 4 (some .long) 1 6 := ⟨⟨Or.inl tm_1516, tm_118, tm_1519, by decide +kernel⟩, tm_1518, tm_86, _, _, rfl⟩
theorem mv_Y_327 : MV "RollingNetsModel" 327 yX9_atOf cX9_atOf 4 (some .int) 3 6 := ⟨⟨Or.inl tm_1528, tm_118, tm_1531, by decide +kernel⟩, tm_1530, tm_87, _, _, rfl⟩
theorem mv_Y_331 : MV "RollingNetsModel" 331 yX9_tradedOf cX9_tradedOf 5 (some .int) 2 6 := ⟨⟨Or.inl tm_1557, tm_118, tm_1560, by decide +kernel⟩, tm_1559, tm_88, _, _, rfl⟩
theorem mv_Y_335 : MV "RollingNetsModel" 335 yX9_sumOf cX9_sumOf 5 (some .int) 2 6 := ⟨⟨Or.inl tm_1561, tm_118, tm_1564, by decide +kernel⟩, tm_1563, tm_89, _, _, rfl⟩
theorem mv_Y_338 : MV "RollingNetsModel" 338 yX9_eldest cX9_eldest 4 (some .int) 1 6 := ⟨⟨Or.inl tm_1565, tm_118, tm_1568, by decide +kernel⟩, tm_1567, tm_90, _, _, rfl⟩
theorem mv_Y_341 : MV "RollingNetsModel" 341 yX9_openOf cX9_openOf 5 (some .int) 2 6 := ⟨⟨Or.inl tm_1569, tm_118, tm_1572, by decide +kernel⟩, tm_1571, tm_91, _, _, rfl⟩
theorem mv_Y_347 : MV "RollingNetsModel" 347 yX9_types cX9_types 3 none 1 6 := ⟨⟨Or.inl tm_1597, tm_118, tm_1600, by decide +kernel⟩, tm_1599, tm_92, _, _, rfl⟩
theorem mv_Y_404 : MV "RollingNetsModel" 404 yX9_readPlan cX9_readPlan 2 (some .int) 0 6 := ⟨⟨Or.inl tm_1609, tm_118, tm_1612, by decide +kernel⟩, tm_1611, tm_93, _, _, rfl⟩
theorem mv_Y_383 : MV "RollingNetsModel" 383 yX9_reads cX9_reads 2 none 0 6 := ⟨⟨Or.inl tm_1613, tm_118, tm_1616, by decide +kernel⟩, tm_1615, tm_94, _, _, rfl⟩
theorem mv_Y_353 : MV "RollingNetsModel" 353 yX9_raw cX9_raw 2 (some .int) 1 6 := ⟨⟨Or.inl tm_1617, tm_118, tm_1620, by decide +kernel⟩, tm_1619, tm_95, _, _, rfl⟩
theorem mv_Y_365 : MV "RollingNetsModel" 365 yX9_isLetter cX9_isLetter 2 (some .boolean) 1 6 := ⟨⟨Or.inl tm_1621, tm_118, tm_1624, by decide +kernel⟩, tm_1623, tm_96, _, _, rfl⟩
theorem mv_Y_368 : MV "RollingNetsModel" 368 yX9_wordAt cX9_wordAt 6 (some .int) 2 6 := ⟨⟨Or.inl tm_1625, tm_118, tm_1628, by decide +kernel⟩, tm_1627, tm_97, _, _, rfl⟩
theorem mv_Y_371 : MV "RollingNetsModel" 371 yX9_isDigit cX9_isDigit 2 (some .boolean) 1 6 := ⟨⟨Or.inl tm_1629, tm_118, tm_1632, by decide +kernel⟩, tm_1631, tm_98, _, _, rfl⟩
theorem mv_Y_398 : MV "RollingNetsModel" 398 yX9_readLine cX9_readLine 5 (some .int) 1 6 := ⟨⟨Or.inl tm_1633, tm_118, tm_1636, by decide +kernel⟩, tm_1635, tm_99, _, _, rfl⟩
theorem mv_Y_380 : MV "RollingNetsModel" 380 yX9_errs cX9_errs 2 (some .int) 1 6 := ⟨⟨Or.inl tm_1637, tm_118, tm_1640, by decide +kernel⟩, tm_1639, tm_100, _, _, rfl⟩
theorem mv_Y_386 : MV "RollingNetsModel" 386 yX9_manyOf cX9_manyOf 2 (some .int) 1 6 := ⟨⟨Or.inl tm_1641, tm_118, tm_1644, by decide +kernel⟩, tm_1643, tm_101, _, _, rfl⟩
theorem mv_Y_389 : MV "RollingNetsModel" 389 yX9_lowOf cX9_lowOf 3 (some .int) 2 6 := ⟨⟨Or.inl tm_1645, tm_118, tm_1648, by decide +kernel⟩, tm_1647, tm_102, _, _, rfl⟩
theorem mv_Y_392 : MV "RollingNetsModel" 392 yX9_highOf cX9_highOf 3 (some .int) 2 6 := ⟨⟨Or.inl tm_1649, tm_118, tm_1652, by decide +kernel⟩, tm_1651, tm_103, _, _, rfl⟩
theorem mv_Y_395 : MV "RollingNetsModel" 395 yX9_readNumber cX9_readNumber 4 (some .int) 2 6 := ⟨⟨Or.inl tm_1653, tm_118, tm_1656, by decide +kernel⟩, tm_1655, tm_104, _, _, rfl⟩
theorem mv_Y_426 : MV "RollingNetsModel" 426 yX9_runsLine cX9_runsLine 6 (some .boolean) 1 6 := ⟨⟨Or.inl tm_1665, tm_118, tm_1668, by decide +kernel⟩, tm_1667, tm_105, _, _, rfl⟩
theorem mv_Y_410 : MV "RollingNetsModel" 410 yX9_tell cX9_tell 5 (some .boolean) 4 6 := ⟨⟨Or.inl tm_1669, tm_118, tm_1177, by decide +kernel⟩, tm_1175, tm_1176, _, _, rfl⟩
theorem mv_Y_414 : MV "RollingNetsModel" 414 yX9_price cX9_price 3 (some .boolean) 2 6 := ⟨⟨Or.inl tm_1670, tm_118, tm_1198, by decide +kernel⟩, tm_1196, tm_1197, _, _, rfl⟩
theorem mv_Y_417 : MV "RollingNetsModel" 417 yX9_give cX9_give 10 (some .int) 3 6 := ⟨⟨Or.inl tm_1671, tm_118, tm_1259, by decide +kernel⟩, tm_1257, tm_1258, _, _, rfl⟩
theorem mv_Y_420 : MV "RollingNetsModel" 420 yX9_call cX9_call 2 (some .int) 1 6 := ⟨⟨Or.inl tm_1672, tm_118, tm_1331, by decide +kernel⟩, tm_1329, tm_1330, _, _, rfl⟩
theorem mv_Y_423 : MV "RollingNetsModel" 423 yX9_night cX9_night 3 (some .int) 1 6 := ⟨⟨Or.inl tm_1673, tm_118, tm_1367, by decide +kernel⟩, tm_1365, tm_1366, _, _, rfl⟩
theorem mv_Y_429 : MV "RollingNetsModel" 429 yX9_openNotices cX9_openNotices 3 (some .int) 0 6 := ⟨⟨Or.inl tm_1678, tm_118, tm_1681, by decide +kernel⟩, tm_1680, tm_106, _, _, rfl⟩
theorem mv_Y_432 : MV "RollingNetsModel" 432 yX9_allCash cX9_allCash 4 (some .int) 0 6 := ⟨⟨Or.inl tm_1682, tm_118, tm_1685, by decide +kernel⟩, tm_1684, tm_107, _, _, rfl⟩
theorem mv_Y_435 : MV "RollingNetsModel" 435 yX9_lackMany cX9_lackMany 3 (some .int) 0 6 := ⟨⟨Or.inl tm_1686, tm_118, tm_1689, by decide +kernel⟩, tm_1688, tm_108, _, _, rfl⟩
theorem mv_Y_438 : MV "RollingNetsModel" 438 yX9_shortSet cX9_shortSet 4 (some .int) 0 6 := ⟨⟨Or.inl tm_1690, tm_118, tm_1693, by decide +kernel⟩, tm_1692, tm_109, _, _, rfl⟩
theorem kb_7 : (Int8.ofInt (7)).toInt32 = nI 7 := by decide +kernel
theorem kb_12 : (Int8.ofInt (12)).toInt32 = nI 12 := by decide +kernel
theorem kb_6 : (Int8.ofInt (6)).toInt32 = nI 6 := by decide +kernel
theorem kb_100 : (Int8.ofInt (100)).toInt32 = nI 100 := by decide +kernel
theorem kb_10 : (Int8.ofInt (10)).toInt32 = nI 10 := by decide +kernel
theorem kb_8 : (Int8.ofInt (8)).toInt32 = nI 8 := by decide +kernel
theorem ks_200 : (Int16.ofInt (200)).toInt32 = nI 200 := by decide +kernel
theorem kb_19 : (Int8.ofInt (19)).toInt32 = nI 19 := by decide +kernel
theorem kb_60 : (Int8.ofInt (60)).toInt32 = nI 60 := by decide +kernel
theorem ks_300 : (Int16.ofInt (300)).toInt32 = nI 300 := by decide +kernel
theorem kb_24 : (Int8.ofInt (24)).toInt32 = nI 24 := by decide +kernel
theorem ks_9999 : (Int16.ofInt (9999)).toInt32 = nI 9999 := by decide +kernel
theorem ks_1200 : (Int16.ofInt (1200)).toInt32 = nI 1200 := by decide +kernel
theorem kb_9 : (Int8.ofInt (9)).toInt32 = nI 9 := by decide +kernel
theorem kb_20 : (Int8.ofInt (20)).toInt32 = nI 20 := by decide +kernel
theorem kb_99 : (Int8.ofInt (99)).toInt32 = nI 99 := by decide +kernel
theorem ks_400 : (Int16.ofInt (400)).toInt32 = nI 400 := by decide +kernel
theorem ks_255 : (Int16.ofInt (255)).toInt32 = nI 255 := by decide +kernel
theorem ki_n8 : Int32.ofInt (-8) = -8 := by decide +kernel
theorem kb_59 : (Int8.ofInt (59)).toInt32 = nI 59 := by decide +kernel
theorem kb_48 : (Int8.ofInt (48)).toInt32 = nI 48 := by decide +kernel
theorem kb_57 : (Int8.ofInt (57)).toInt32 = nI 57 := by decide +kernel
theorem kb_32 : (Int8.ofInt (32)).toInt32 = nI 32 := by decide +kernel
theorem kb_97 : (Int8.ofInt (97)).toInt32 = nI 97 := by decide +kernel
theorem kb_122 : (Int8.ofInt (122)).toInt32 = nI 122 := by decide +kernel
theorem kb_65 : (Int8.ofInt (65)).toInt32 = nI 65 := by decide +kernel
theorem kb_90 : (Int8.ofInt (90)).toInt32 = nI 90 := by decide +kernel
theorem kb_78 : (Int8.ofInt (78)).toInt32 = nI 78 := by decide +kernel
theorem kb_80 : (Int8.ofInt (80)).toInt32 = nI 80 := by decide +kernel
theorem kb_75 : (Int8.ofInt (75)).toInt32 = nI 75 := by decide +kernel
theorem kb_11 : (Int8.ofInt (11)).toInt32 = nI 11 := by decide +kernel
theorem ks_199 : (Int16.ofInt (199)).toInt32 = nI 199 := by decide +kernel
theorem kb_n99 : (Int8.ofInt (-99)).toInt32 = -99 := by decide +kernel
theorem ks_19782 : (Int16.ofInt (19782)).toInt32 = nI 19782 := by decide +kernel
theorem kb_13 : (Int8.ofInt (13)).toInt32 = nI 13 := by decide +kernel
theorem ks_1224 : (Int16.ofInt (1224)).toInt32 = nI 1224 := by decide +kernel
theorem kb_98 : (Int8.ofInt (98)).toInt32 = nI 98 := by decide +kernel
theorem kb_117 : (Int8.ofInt (117)).toInt32 = nI 117 := by decide +kernel
theorem kb_121 : (Int8.ofInt (121)).toInt32 = nI 121 := by decide +kernel
theorem kb_112 : (Int8.ofInt (112)).toInt32 = nI 112 := by decide +kernel
theorem kb_114 : (Int8.ofInt (114)).toInt32 = nI 114 := by decide +kernel
theorem kb_116 : (Int8.ofInt (116)).toInt32 = nI 116 := by decide +kernel
theorem kb_115 : (Int8.ofInt (115)).toInt32 = nI 115 := by decide +kernel
theorem kb_111 : (Int8.ofInt (111)).toInt32 = nI 111 := by decide +kernel
theorem kb_14 : (Int8.ofInt (14)).toInt32 = nI 14 := by decide +kernel
theorem kb_15 : (Int8.ofInt (15)).toInt32 = nI 15 := by decide +kernel
theorem kb_107 : (Int8.ofInt (107)).toInt32 = nI 107 := by decide +kernel
theorem kb_16 : (Int8.ofInt (16)).toInt32 = nI 16 := by decide +kernel
theorem kb_17 : (Int8.ofInt (17)).toInt32 = nI 17 := by decide +kernel
theorem kb_18 : (Int8.ofInt (18)).toInt32 = nI 18 := by decide +kernel
theorem kb_101 : (Int8.ofInt (101)).toInt32 = nI 101 := by decide +kernel
theorem kb_21 : (Int8.ofInt (21)).toInt32 = nI 21 := by decide +kernel
theorem kb_22 : (Int8.ofInt (22)).toInt32 = nI 22 := by decide +kernel
theorem kb_118 : (Int8.ofInt (118)).toInt32 = nI 118 := by decide +kernel
theorem kb_23 : (Int8.ofInt (23)).toInt32 = nI 23 := by decide +kernel
theorem kb_25 : (Int8.ofInt (25)).toInt32 = nI 25 := by decide +kernel
theorem kb_108 : (Int8.ofInt (108)).toInt32 = nI 108 := by decide +kernel
theorem kb_26 : (Int8.ofInt (26)).toInt32 = nI 26 := by decide +kernel
theorem kb_27 : (Int8.ofInt (27)).toInt32 = nI 27 := by decide +kernel
theorem kb_110 : (Int8.ofInt (110)).toInt32 = nI 110 := by decide +kernel
theorem kb_28 : (Int8.ofInt (28)).toInt32 = nI 28 := by decide +kernel
theorem kb_29 : (Int8.ofInt (29)).toInt32 = nI 29 := by decide +kernel
theorem kb_30 : (Int8.ofInt (30)).toInt32 = nI 30 := by decide +kernel
theorem kb_31 : (Int8.ofInt (31)).toInt32 = nI 31 := by decide +kernel
theorem kb_33 : (Int8.ofInt (33)).toInt32 = nI 33 := by decide +kernel
theorem kb_34 : (Int8.ofInt (34)).toInt32 = nI 34 := by decide +kernel
theorem kb_35 : (Int8.ofInt (35)).toInt32 = nI 35 := by decide +kernel
theorem kb_36 : (Int8.ofInt (36)).toInt32 = nI 36 := by decide +kernel
theorem kb_37 : (Int8.ofInt (37)).toInt32 = nI 37 := by decide +kernel
theorem kb_105 : (Int8.ofInt (105)).toInt32 = nI 105 := by decide +kernel
theorem kb_38 : (Int8.ofInt (38)).toInt32 = nI 38 := by decide +kernel
theorem kb_39 : (Int8.ofInt (39)).toInt32 = nI 39 := by decide +kernel
theorem kb_40 : (Int8.ofInt (40)).toInt32 = nI 40 := by decide +kernel
theorem kb_41 : (Int8.ofInt (41)).toInt32 = nI 41 := by decide +kernel
theorem kb_103 : (Int8.ofInt (103)).toInt32 = nI 103 := by decide +kernel
theorem kb_42 : (Int8.ofInt (42)).toInt32 = nI 42 := by decide +kernel
theorem kb_43 : (Int8.ofInt (43)).toInt32 = nI 43 := by decide +kernel
theorem kb_44 : (Int8.ofInt (44)).toInt32 = nI 44 := by decide +kernel
theorem kb_45 : (Int8.ofInt (45)).toInt32 = nI 45 := by decide +kernel
theorem kb_46 : (Int8.ofInt (46)).toInt32 = nI 46 := by decide +kernel
theorem kb_47 : (Int8.ofInt (47)).toInt32 = nI 47 := by decide +kernel
theorem kb_49 : (Int8.ofInt (49)).toInt32 = nI 49 := by decide +kernel
theorem kb_50 : (Int8.ofInt (50)).toInt32 = nI 50 := by decide +kernel
theorem kb_51 : (Int8.ofInt (51)).toInt32 = nI 51 := by decide +kernel
theorem kb_52 : (Int8.ofInt (52)).toInt32 = nI 52 := by decide +kernel
theorem kb_53 : (Int8.ofInt (53)).toInt32 = nI 53 := by decide +kernel
theorem kb_54 : (Int8.ofInt (54)).toInt32 = nI 54 := by decide +kernel
theorem kb_104 : (Int8.ofInt (104)).toInt32 = nI 104 := by decide +kernel
theorem kb_55 : (Int8.ofInt (55)).toInt32 = nI 55 := by decide +kernel
theorem kb_56 : (Int8.ofInt (56)).toInt32 = nI 56 := by decide +kernel
theorem ks_288 : (Int16.ofInt (288)).toInt32 = nI 288 := by decide +kernel
theorem ks_19927 : (Int16.ofInt (19927)).toInt32 = nI 19927 := by decide +kernel
theorem ks_132 : (Int16.ofInt (132)).toInt32 = nI 132 := by decide +kernel
theorem kb_72 : (Int8.ofInt (72)).toInt32 = nI 72 := by decide +kernel
theorem ks_348 : (Int16.ofInt (348)).toInt32 = nI 348 := by decide +kernel
theorem kb_102 : (Int8.ofInt (102)).toInt32 = nI 102 := by decide +kernel
theorem ks_420 : (Int16.ofInt (420)).toInt32 = nI 420 := by decide +kernel
theorem ks_7764 : (Int16.ofInt (7764)).toInt32 = nI 7764 := by decide +kernel
theorem ks_15110 : (Int16.ofInt (15110)).toInt32 = nI 15110 := by decide +kernel
theorem ks_17910 : (Int16.ofInt (17910)).toInt32 = nI 17910 := by decide +kernel
theorem ks_16710 : (Int16.ofInt (16710)).toInt32 = nI 16710 := by decide +kernel
theorem ks_276 : (Int16.ofInt (276)).toInt32 = nI 276 := by decide +kernel
theorem ks_204 : (Int16.ofInt (204)).toInt32 = nI 204 := by decide +kernel
theorem ks_19710 : (Int16.ofInt (19710)).toInt32 = nI 19710 := by decide +kernel
theorem ks_380 : (Int16.ofInt (380)).toInt32 = nI 380 := by decide +kernel
theorem ks_10000 : (Int16.ofInt (10000)).toInt32 = nI 10000 := by decide +kernel
theorem ks_144 : (Int16.ofInt (144)).toInt32 = nI 144 := by decide +kernel
theorem ks_19926 : (Int16.ofInt (19926)).toInt32 = nI 19926 := by decide +kernel
theorem kc_RollingNets_71 : Cond.constant "RollingNets" 71 (nI 99999) ∈ TBL := TBL_mem 442 (by decide +kernel) (by decide +kernel)
theorem kc_Market_76 : Cond.constant "RollingNets$Market" 76 (nI 99999999) ∈ TBL := TBL_mem 514 (by decide +kernel) (by decide +kernel)
theorem kc_RollingNets_119 : Cond.constant "RollingNets" 119 (nI 9999999) ∈ TBL := TBL_mem 538 (by decide +kernel) (by decide +kernel)
theorem kl_Night_194 : Cond.constantLong "RollingNets$Night" 194 (10000) ∈ TBL := TBL_mem 697 (by decide +kernel) (by decide +kernel)
theorem kc_RollingNets_194 : Cond.constant "RollingNets" 194 ((-1000000)) ∈ TBL := TBL_mem 913 (by decide +kernel) (by decide +kernel)
theorem kc_House_164 : Cond.constant "RollingNets$House" 164 ((-1000000)) ∈ TBL := TBL_mem 927 (by decide +kernel) (by decide +kernel)
theorem kl_RollingNets_224 : Cond.constantLong "RollingNets" 224 (-1) ∈ TBL := TBL_mem 977 (by decide +kernel) (by decide +kernel)
theorem kl_Figures_105 : Cond.constantLong "RollingNets$Figures" 105 (100) ∈ TBL := TBL_mem 984 (by decide +kernel) (by decide +kernel)
theorem kc_Y_97 : Cond.constant "RollingNetsModel" 97 (nI 99999) ∈ TBL := TBL_mem 1190 (by decide +kernel) (by decide +kernel)
theorem kc_Y_105 : Cond.constant "RollingNetsModel" 105 (nI 9999999) ∈ TBL := TBL_mem 1235 (by decide +kernel) (by decide +kernel)
theorem kl_Y_277 : Cond.constantLong "RollingNetsModel" 277 (10000) ∈ TBL := TBL_mem 1488 (by decide +kernel) (by decide +kernel)
theorem kc_Y_306 : Cond.constant "RollingNetsModel" 306 (nI 99999999) ∈ TBL := TBL_mem 1505 (by decide +kernel) (by decide +kernel)
theorem kl_Y_322 : Cond.constantLong "RollingNetsModel" 322 (-1) ∈ TBL := TBL_mem 1510 (by decide +kernel) (by decide +kernel)
theorem kl_Y_316 : Cond.constantLong "RollingNetsModel" 316 (100) ∈ TBL := TBL_mem 1515 (by decide +kernel) (by decide +kernel)
theorem kc_Y_330 : Cond.constant "RollingNetsModel" 330 ((-1000000)) ∈ TBL := TBL_mem 1532 (by decide +kernel) (by decide +kernel)
theorem ma_House_96 : MA "RollingNets$House" 96 Lib.MathLoose.max_long.x := ⟨tm_486, tm_487, tm_119⟩
theorem mc_max_long : Cond.code Lib.MathLoose.max_long.x Lib.MathLoose.max_long.code 4 (some .long) ∈ TBL := tm_488
theorem ma_Market_84 : MA "RollingNets$Market" 84 Lib.MathLoose.max_long.x := ⟨tm_519, tm_487, tm_119⟩
theorem ma_Market_49 : MA "RollingNets$Market" 49 Lib.Math.max.name := ⟨tm_520, tm_521, tm_119⟩
theorem mc_max : Cond.code Lib.Math.max.name Lib.Math.max.code 2 (some .int) ∈ TBL := tm_522
theorem ma_Market_55 : MA "RollingNets$Market" 55 Lib.Math.abs.name := ⟨tm_523, tm_524, tm_119⟩
theorem mc_abs : Cond.code Lib.Math.abs.name Lib.Math.abs.code 1 (some .int) ∈ TBL := tm_525
theorem ma_Market_59 : MA "RollingNets$Market" 59 Lib.Math.min.name := ⟨tm_572, tm_573, tm_119⟩
theorem mc_min : Cond.code Lib.Math.min.name Lib.Math.min.code 2 (some .int) ∈ TBL := tm_574
theorem ma_Night_112 : MA "RollingNets$Night" 112 Lib.MathLoose.min_long.x := ⟨tm_593, tm_594, tm_119⟩
theorem mc_min_long : Cond.code Lib.MathLoose.min_long.x Lib.MathLoose.min_long.code 4 (some .long) ∈ TBL := tm_595
theorem ma_Notices_84 : MA "RollingNets$Notices" 84 Lib.Math.min.name := ⟨tm_611, tm_573, tm_119⟩
theorem ma_Night_158 : MA "RollingNets$Night" 158 Lib.Math.min.name := ⟨tm_636, tm_573, tm_119⟩
theorem ma_Night_163 : MA "RollingNets$Night" 163 Lib.Math.max.name := ⟨tm_637, tm_521, tm_119⟩
theorem ma_House_116 : MA "RollingNets$House" 116 Lib.MathLoose.min_long.x := ⟨tm_654, tm_594, tm_119⟩
theorem ma_Notices_93 : MA "RollingNets$Notices" 93 Lib.Math.max.name := ⟨tm_710, tm_521, tm_119⟩
theorem ma_Table_27 : MA "RollingNets$Table" 27 Lib.Math.min.name := ⟨tm_875, tm_573, tm_119⟩
theorem ma_Figures_93 : MA "RollingNets$Figures" 93 Lib.Math.min.name := ⟨tm_981, tm_573, tm_119⟩
theorem ma_Figures_98 : MA "RollingNets$Figures" 98 Lib.Math.abs.name := ⟨tm_982, tm_524, tm_119⟩
theorem ma_Figures_115 : MA "RollingNets$Figures" 115 Lib.MathLoose.max_long.x := ⟨tm_989, tm_487, tm_119⟩
theorem ma_Figures_125 : MA "RollingNets$Figures" 125 Lib.Math.max.name := ⟨tm_1009, tm_521, tm_119⟩
theorem ac_House_83 : AC "RollingNets$House" 83 := ⟨tm_194, tm_196, tm_195, tm_115⟩
theorem ac_Table_33 : AC "RollingNets$Table" 33 := ⟨tm_876, tm_196, tm_195, tm_115⟩
theorem ac_Market_87 : AC "RollingNets$Market" 87 := ⟨tm_907, tm_196, tm_195, tm_115⟩
