set_option maxRecDepth 20000 in
theorem in_wsX11_init_r1 : ∀ w ∈ wsX11_init_r1, w ∈ lw_tbl := w_cons wl24 (w_cons wl23 (w_cons wl22 (w_cons wl21 (w_cons wl20 (w_cons wl19 (w_cons wl18 (w_cons wl17 (w_cons wl16 (w_cons wl15 (w_cons wl14 (w_cons wl13 (w_cons wl12 (w_cons wl11 (w_cons wl10 (w_cons wl9 (w_cons wl8 (w_cons wl7 (w_cons wl6 (w_cons wl5 (w_cons wl4 (w_cons wl3 (w_cons wl2 (w_cons wl1 w_nil)))))))))))))))))))))))
set_option maxRecDepth 20000 in
theorem in_wsX11_init_r2 : ∀ w ∈ wsX11_init_r2, w ∈ lw_tbl := w_cons wl48 (w_cons wl47 (w_cons wl46 (w_cons wl45 (w_cons wl44 (w_cons wl43 (w_cons wl42 (w_cons wl41 (w_cons wl40 (w_cons wl39 (w_cons wl38 (w_cons wl37 (w_cons wl36 (w_cons wl35 (w_cons wl34 (w_cons wl33 (w_cons wl32 (w_cons wl31 (w_cons wl30 (w_cons wl29 (w_cons wl28 (w_cons wl27 (w_cons wl26 (w_cons wl25 w_nil)))))))))))))))))))))))
set_option maxRecDepth 20000 in
theorem in_wsX11_init_r3 : ∀ w ∈ wsX11_init_r3, w ∈ lw_tbl := w_cons wl72 (w_cons wl71 (w_cons wl70 (w_cons wl69 (w_cons wl68 (w_cons wl67 (w_cons wl66 (w_cons wl65 (w_cons wl64 (w_cons wl63 (w_cons wl62 (w_cons wl61 (w_cons wl60 (w_cons wl59 (w_cons wl58 (w_cons wl57 (w_cons wl56 (w_cons wl55 (w_cons wl54 (w_cons wl53 (w_cons wl52 (w_cons wl51 (w_cons wl50 (w_cons wl49 w_nil)))))))))))))))))))))))
set_option maxRecDepth 20000 in
theorem in_wsX11_init_r4 : ∀ w ∈ wsX11_init_r4, w ∈ lw_tbl := w_cons wl88 (w_cons wl87 (w_cons wl86 (w_cons wl85 (w_cons wl84 (w_cons wl83 (w_cons wl82 (w_cons wl81 (w_cons wl80 (w_cons wl79 (w_cons wl78 (w_cons wl77 (w_cons wl76 (w_cons wl75 (w_cons wl74 (w_cons wl73 w_nil)))))))))))))))
set_option maxRecDepth 20000 in
theorem in_wsX80 : ∀ w ∈ wsX80, w ∈ lw_tbl := w_nil
set_option maxRecDepth 20000 in
theorem in_wsX20 : ∀ w ∈ wsX20, w ∈ lw_tbl := w_nil
set_option maxRecDepth 20000 in
theorem in_wsX00 : ∀ w ∈ wsX00, w ∈ lw_tbl := w_nil
set_option maxRecDepth 20000 in
theorem in_wsX50 : ∀ w ∈ wsX50, w ∈ lw_tbl := w_nil
set_option maxRecDepth 20000 in
theorem in_wsX60 : ∀ w ∈ wsX60, w ∈ lw_tbl := w_nil
set_option maxRecDepth 20000 in
theorem in_wsX40 : ∀ w ∈ wsX40, w ∈ lw_tbl := w_nil
set_option maxRecDepth 20000 in
theorem in_wsX10 : ∀ w ∈ wsX10, w ∈ lw_tbl := w_nil
set_option maxRecDepth 20000 in
theorem in_wsX110 : ∀ w ∈ wsX110, w ∈ lw_tbl := w_eq (l2 := [.laysFinal RX11 "SpoonsLast" "house" "LSpoonsLast$House;", .laysFinal RX11 "SpoonsLast" "thought" "LSpoonsLast$House;", .laysFinal RX11 "SpoonsLast" "kept" "LSpoonsLast$House;", .lays RX11 "SpoonsLast" "images" "I", .laysFinal RX11 "SpoonsLast" "kinds" "[LSpoonsLast$Spoon;", .laysFinal RX11 "SpoonsLast" "voice" "LSpoonsLast$Voice;", .laysFinal RX11 "SpoonsLast" "sheets" "[LSpoonsLast$Sheet;", .laysFinal RX11 "SpoonsLast" "errors" "[I", .laysFinal RX11 "SpoonsLast" "fewest" "[I"]) rfl (w_cons wl97 (w_cons wl96 (w_cons wl95 (w_cons wl94 (w_cons wl93 (w_cons wl92 (w_cons wl91 (w_cons wl90 (w_cons wl89 (w_nil))))))))))
set_option maxRecDepth 20000 in
theorem in_wsX30 : ∀ w ∈ wsX30, w ∈ lw_tbl := w_eq (l2 := [.laysFinal RX3 "SpoonsLast$House" "kinds" "[LSpoonsLast$Spoon;", .laysFinal RX3 "SpoonsLast$House" "weight" "[I", .lays RX3 "SpoonsLast$House" "known" "I", .lays RX3 "SpoonsLast$House" "hour" "I", .laysFinal RX3 "SpoonsLast$House" "swallowSpoon" "[I", .laysFinal RX3 "SpoonsLast$House" "swallowWord" "[I", .laysFinal RX3 "SpoonsLast$House" "washSpoon" "[I", .lays RX3 "SpoonsLast$House" "spoons" "I", .laysFinal RX3 "SpoonsLast$House" "kind" "[I", .laysFinal RX3 "SpoonsLast$House" "mark" "[I", .laysFinal RX3 "SpoonsLast$House" "silver" "[I", .laysFinal RX3 "SpoonsLast$House" "fresh" "[J", .laysFinal RX3 "SpoonsLast$House" "texts" "[LSpoonsLast$Text;", .laysFinal RX3 "SpoonsLast$House" "tape" "[I", .lays RX3 "SpoonsLast$House" "tapeCount" "I", .lays RX3 "SpoonsLast$House" "z" "I", .laysFinal RX3 "SpoonsLast$House" "waiting" "[I", .lays RX3 "SpoonsLast$House" "waitingCount" "I"]) rfl (w_cons wl115 (w_cons wl114 (w_cons wl113 (w_cons wl112 (w_cons wl111 (w_cons wl110 (w_cons wl109 (w_cons wl108 (w_cons wl107 (w_cons wl106 (w_cons wl105 (w_cons wl104 (w_cons wl103 (w_cons wl102 (w_cons wl101 (w_cons wl100 (w_cons wl99 (w_cons wl98 (w_nil)))))))))))))))))))
set_option maxRecDepth 20000 in
theorem in_wsX100 : ∀ w ∈ wsX100, w ∈ lw_tbl := w_eq (l2 := [.lays RX10 "SpoonsLast$Voice" "spoon" "I", .lays RX10 "SpoonsLast$Voice" "mark" "I", .lays RX10 "SpoonsLast$Voice" "count" "I", .laysFinal RX10 "SpoonsLast$Voice" "bodies" "[I"]) rfl (w_cons wl119 (w_cons wl118 (w_cons wl117 (w_cons wl116 (w_nil)))))
set_option maxRecDepth 20000 in
theorem in_wsX70 : ∀ w ∈ wsX70, w ∈ lw_tbl := w_eq (l2 := [.lays RX7 "SpoonsLast$Sheet" "bits" "I", .lays RX7 "SpoonsLast$Sheet" "length" "I", .laysFinal RX7 "SpoonsLast$Sheet" "numbers" "[I"]) rfl (w_cons wl122 (w_cons wl121 (w_cons wl120 (w_nil))))
set_option maxRecDepth 20000 in
theorem in_wsX11_init : ∀ w ∈ wsX11_init, w ∈ lw_tbl := w_cons wl0 (w_app (w_app (w_app (w_app (w_app (w_app (w_app (w_app (w_app (w_app (w_app (w_app (in_wsX11_init_r1) (w_app (in_wsX11_init_r2) (w_app (in_wsX11_init_r3) (in_wsX11_init_r4)))) (in_wsX80)) (in_wsX20)) (in_wsX00)) (in_wsX50)) (in_wsX60)) (in_wsX40)) (in_wsX10)) (in_wsX110)) (in_wsX30)) (in_wsX100)) (in_wsX70))
set_option maxRecDepth 20000 in
theorem in_wsX120 : ∀ w ∈ wsX120, w ∈ lw_tbl := w_eq (l2 := [.laysFinal RX12 "SpoonsLastModel" "d" "[I", .laysFinal RX12 "SpoonsLastModel" "kept" "[I", .laysFinal RX12 "SpoonsLastModel" "aside" "[I", .lays RX12 "SpoonsLastModel" "images" "I", .laysFinal RX12 "SpoonsLastModel" "found" "[I", .lays RX12 "SpoonsLastModel" "base" "I", .lays RX12 "SpoonsLastModel" "at" "I", .lays RX12 "SpoonsLastModel" "size" "I", .lays RX12 "SpoonsLastModel" "fault" "I", .lays RX12 "SpoonsLastModel" "opened" "I", .lays RX12 "SpoonsLastModel" "isRub" "Z", .laysFinal RX12 "SpoonsLastModel" "names" "[I", .laysFinal RX12 "SpoonsLastModel" "code" "[I", .lays RX12 "SpoonsLastModel" "coded" "I", .laysFinal RX12 "SpoonsLastModel" "pile" "[I", .laysFinal RX12 "SpoonsLastModel" "needs" "[I", .laysFinal RX12 "SpoonsLastModel" "traced" "[I", .lays RX12 "SpoonsLastModel" "traceMany" "I", .lays RX12 "SpoonsLastModel" "who" "I", .laysFinal RX12 "SpoonsLastModel" "bitsOf" "[I", .laysFinal RX12 "SpoonsLastModel" "sizeOf" "[I", .laysFinal RX12 "SpoonsLastModel" "number" "[I", .laysFinal RX12 "SpoonsLastModel" "lifted" "[I"]) rfl (w_cons wl160 (w_cons wl159 (w_cons wl158 (w_cons wl157 (w_cons wl156 (w_cons wl155 (w_cons wl154 (w_cons wl153 (w_cons wl152 (w_cons wl151 (w_cons wl150 (w_cons wl149 (w_cons wl148 (w_cons wl147 (w_cons wl146 (w_cons wl145 (w_cons wl144 (w_cons wl143 (w_cons wl142 (w_cons wl141 (w_cons wl140 (w_cons wl139 (w_cons wl138 (w_nil))))))))))))))))))))))))
set_option maxRecDepth 20000 in
theorem in_wsX12_init : ∀ w ∈ wsX12_init, w ∈ lw_tbl := w_cons wl123 (w_app (w_cons wl137 (w_cons wl23 (w_cons wl22 (w_cons wl33 (w_cons wl136 (w_cons wl135 (w_cons wl134 (w_cons wl133 (w_cons wl132 (w_cons wl131 (w_cons wl130 (w_cons wl129 (w_cons wl128 (w_cons wl127 (w_cons wl126 (w_cons wl125 (w_cons wl124 w_nil))))))))))))))))) (in_wsX120))
set_option maxRecDepth 20000 in
theorem in_wsX11_word : ∀ w ∈ wsX11_word, w ∈ lw_tbl := w_cons wl161 (w_app (w_app (w_cons wl175 (w_cons wl44 (w_cons wl174 (w_cons wl173 (w_cons wl172 (w_cons wl171 (w_cons wl170 (w_cons wl169 (w_cons wl168 (w_cons wl167 (w_cons wl166 (w_cons wl165 (w_cons wl164 (w_cons wl163 (w_cons wl32 (w_cons wl162 w_nil)))))))))))))))) (in_wsX110)) (in_wsX30))
set_option maxRecDepth 20000 in
theorem in_wsX12_word : ∀ w ∈ wsX12_word, w ∈ lw_tbl := w_cons wl179 (w_app (w_cons wl197 (w_cons wl196 (w_cons wl195 (w_cons wl194 (w_cons wl193 (w_cons wl192 (w_cons wl191 (w_cons wl190 (w_cons wl189 (w_cons wl188 (w_cons wl187 (w_cons wl186 (w_cons wl185 (w_cons wl136 (w_cons wl184 (w_cons wl183 (w_cons wl182 (w_cons wl181 (w_cons wl133 (w_cons wl180 w_nil)))))))))))))))))))) (in_wsX120))
set_option maxRecDepth 20000 in
theorem in_wsX11_ofWord_r1 : ∀ w ∈ wsX11_ofWord_r1, w ∈ lw_tbl := w_cons wl175 (w_cons wl44 (w_cons wl174 (w_cons wl207 (w_cons wl173 (w_cons wl172 (w_cons wl171 (w_cons wl170 (w_cons wl169 (w_cons wl168 (w_cons wl167 (w_cons wl166 (w_cons wl165 (w_cons wl164 (w_cons wl163 (w_cons wl32 (w_cons wl162 (w_cons wl206 (w_cons wl205 (w_cons wl204 (w_cons wl45 (w_cons wl203 (w_cons wl202 (w_cons wl51 w_nil)))))))))))))))))))))))
set_option maxRecDepth 20000 in
theorem in_wsX11_ofWord_r2 : ∀ w ∈ wsX11_ofWord_r2, w ∈ lw_tbl := w_cons wl210 (w_cons wl209 (w_cons wl208 w_nil))
set_option maxRecDepth 20000 in
theorem in_wsX11_ofWord : ∀ w ∈ wsX11_ofWord, w ∈ lw_tbl := w_cons wl201 (w_app (w_app (w_app (in_wsX11_ofWord_r1) (in_wsX11_ofWord_r2)) (in_wsX110)) (in_wsX30))
set_option maxRecDepth 20000 in
theorem in_wsX12_ofWord : ∀ w ∈ wsX12_ofWord, w ∈ lw_tbl := w_cons wl214 (w_app (w_cons wl223 (w_cons wl136 (w_cons wl196 (w_cons wl195 (w_cons wl194 (w_cons wl193 (w_cons wl192 (w_cons wl191 (w_cons wl190 (w_cons wl189 (w_cons wl184 (w_cons wl183 (w_cons wl182 (w_cons wl181 (w_cons wl133 (w_cons wl180 (w_cons wl222 (w_cons wl221 (w_cons wl220 (w_cons wl219 (w_cons wl218 (w_cons wl217 (w_cons wl216 (w_cons wl215 w_nil)))))))))))))))))))))))) (in_wsX120))
set_option maxRecDepth 20000 in
theorem in_wsX11_known : ∀ w ∈ wsX11_known, w ∈ lw_tbl := w_cons wl227 (w_app (w_app (w_cons wl175 (w_cons wl44 (w_cons wl207 (w_cons wl230 (w_cons wl229 (w_cons wl171 (w_cons wl228 (w_cons wl169 (w_cons wl168 (w_cons wl167 (w_cons wl166 (w_cons wl165 (w_cons wl164 (w_cons wl163 (w_cons wl32 (w_cons wl162 w_nil)))))))))))))))) (in_wsX110)) (in_wsX30))
set_option maxRecDepth 20000 in
theorem in_wsX12_known : ∀ w ∈ wsX12_known, w ∈ lw_tbl := w_cons wl234 (w_app (w_cons wl238 (w_cons wl237 (w_cons wl194 (w_cons wl236 (w_cons wl235 (w_cons wl191 (w_cons wl190 (w_cons wl189 (w_cons wl188 (w_cons wl187 (w_cons wl186 (w_cons wl185 (w_cons wl136 (w_cons wl184 (w_cons wl183 (w_cons wl182 (w_cons wl181 (w_cons wl133 (w_cons wl180 w_nil))))))))))))))))))) (in_wsX120))
set_option maxRecDepth 20000 in
theorem in_wsX11_swallow_r1 : ∀ w ∈ wsX11_swallow_r1, w ∈ lw_tbl := w_cons wl175 (w_cons wl44 (w_cons wl250 (w_cons wl249 (w_cons wl169 (w_cons wl168 (w_cons wl171 (w_cons wl167 (w_cons wl248 (w_cons wl247 (w_cons wl246 (w_cons wl173 (w_cons wl172 (w_cons wl170 (w_cons wl166 (w_cons wl165 (w_cons wl164 (w_cons wl163 (w_cons wl32 (w_cons wl162 (w_cons wl245 (w_cons wl244 (w_cons wl243 (w_cons wl45 w_nil)))))))))))))))))))))))
set_option maxRecDepth 20000 in
theorem in_wsX11_swallow_r2 : ∀ w ∈ wsX11_swallow_r2, w ∈ lw_tbl := w_cons wl251 (w_cons wl58 (w_cons wl57 w_nil))
set_option maxRecDepth 20000 in
theorem in_wsX11_swallow : ∀ w ∈ wsX11_swallow, w ∈ lw_tbl := w_cons wl242 (w_app (w_app (w_app (in_wsX11_swallow_r1) (in_wsX11_swallow_r2)) (in_wsX110)) (in_wsX30))
set_option maxRecDepth 20000 in
theorem in_wsX12_swallow : ∀ w ∈ wsX12_swallow, w ∈ lw_tbl := w_cons wl255 (w_app (w_cons wl262 (w_cons wl261 (w_cons wl260 (w_cons wl136 (w_cons wl191 (w_cons wl190 (w_cons wl194 (w_cons wl189 (w_cons wl196 (w_cons wl195 (w_cons wl193 (w_cons wl192 (w_cons wl184 (w_cons wl183 (w_cons wl182 (w_cons wl181 (w_cons wl133 (w_cons wl180 (w_cons wl259 (w_cons wl258 (w_cons wl257 (w_cons wl256 w_nil)))))))))))))))))))))) (in_wsX120))
set_option maxRecDepth 20000 in
theorem in_wsX11_ofSwallow : ∀ w ∈ wsX11_ofSwallow, w ∈ lw_tbl := w_cons wl266 (w_app (w_app (w_cons wl44 (w_cons wl175 (w_cons wl169 (w_cons wl168 (w_cons wl171 (w_cons wl167 (w_cons wl245 (w_cons wl244 (w_cons wl243 (w_cons wl45 (w_cons wl251 (w_cons wl58 (w_cons wl57 (w_cons wl166 (w_cons wl165 (w_cons wl164 (w_cons wl163 (w_cons wl32 (w_cons wl162 w_nil))))))))))))))))))) (in_wsX110)) (in_wsX30))
set_option maxRecDepth 20000 in
theorem in_wsX12_ofSwallow : ∀ w ∈ wsX12_ofSwallow, w ∈ lw_tbl := w_cons wl270 (w_app (w_cons wl262 (w_cons wl191 (w_cons wl190 (w_cons wl194 (w_cons wl189 (w_cons wl259 (w_cons wl258 (w_cons wl257 (w_cons wl256 (w_cons wl136 (w_cons wl184 (w_cons wl183 (w_cons wl182 (w_cons wl181 (w_cons wl133 (w_cons wl180 w_nil)))))))))))))))) (in_wsX120))
set_option maxRecDepth 20000 in
theorem in_wsX11_wash : ∀ w ∈ wsX11_wash, w ∈ lw_tbl := w_cons wl274 (w_app (w_app (w_cons wl175 (w_cons wl44 (w_cons wl275 (w_cons wl169 (w_cons wl168 (w_cons wl171 (w_cons wl167 (w_cons wl248 (w_cons wl247 (w_cons wl246 (w_cons wl166 (w_cons wl165 (w_cons wl164 (w_cons wl163 (w_cons wl32 (w_cons wl162 w_nil)))))))))))))))) (in_wsX110)) (in_wsX30))
set_option maxRecDepth 20000 in
theorem in_wsX12_wash : ∀ w ∈ wsX12_wash, w ∈ lw_tbl := w_cons wl279 (w_app (w_cons wl280 (w_cons wl261 (w_cons wl260 (w_cons wl191 (w_cons wl190 (w_cons wl194 (w_cons wl189 (w_cons wl188 (w_cons wl187 (w_cons wl186 (w_cons wl185 (w_cons wl136 (w_cons wl184 (w_cons wl183 (w_cons wl182 (w_cons wl181 (w_cons wl133 (w_cons wl180 w_nil)))))))))))))))))) (in_wsX120))
set_option maxRecDepth 20000 in
theorem in_wsX11_ofWash : ∀ w ∈ wsX11_ofWash, w ∈ lw_tbl := w_cons wl284 (w_app (w_app (w_cons wl44 (w_cons wl275 (w_cons wl175 (w_cons wl169 (w_cons wl168 (w_cons wl171 (w_cons wl167 (w_cons wl166 (w_cons wl165 (w_cons wl164 (w_cons wl163 (w_cons wl32 (w_cons wl162 w_nil))))))))))))) (in_wsX110)) (in_wsX30))
set_option maxRecDepth 20000 in
theorem in_wsX12_ofWash : ∀ w ∈ wsX12_ofWash, w ∈ lw_tbl := w_cons wl288 (w_app (w_cons wl280 (w_cons wl136 (w_cons wl191 (w_cons wl190 (w_cons wl194 (w_cons wl189 (w_cons wl184 (w_cons wl183 (w_cons wl182 (w_cons wl181 (w_cons wl133 (w_cons wl180 w_nil)))))))))))) (in_wsX120))
set_option maxRecDepth 20000 in
theorem in_wsX11_spoon : ∀ w ∈ wsX11_spoon, w ∈ lw_tbl := w_cons wl292 (w_app (w_app (w_cons wl175 (w_cons wl44 (w_cons wl298 (w_cons wl297 (w_cons wl296 (w_cons wl295 (w_cons wl294 (w_cons wl293 (w_cons wl169 (w_cons wl168 (w_cons wl171 (w_cons wl167 (w_cons wl166 (w_cons wl165 (w_cons wl164 (w_cons wl163 (w_cons wl32 (w_cons wl162 w_nil)))))))))))))))))) (in_wsX110)) (in_wsX30))
set_option maxRecDepth 20000 in
theorem in_wsX12_spoon : ∀ w ∈ wsX12_spoon, w ∈ lw_tbl := w_cons wl302 (w_app (w_cons wl311 (w_cons wl136 (w_cons wl310 (w_cons wl309 (w_cons wl194 (w_cons wl308 (w_cons wl307 (w_cons wl191 (w_cons wl190 (w_cons wl189 (w_cons wl184 (w_cons wl183 (w_cons wl182 (w_cons wl181 (w_cons wl133 (w_cons wl180 (w_cons wl306 (w_cons wl305 (w_cons wl304 (w_cons wl303 w_nil)))))))))))))))))))) (in_wsX120))
set_option maxRecDepth 20000 in
theorem in_wsX11_ofSpoon_r1 : ∀ w ∈ wsX11_ofSpoon_r1, w ∈ lw_tbl := w_cons wl175 (w_cons wl44 (w_cons wl296 (w_cons wl295 (w_cons wl294 (w_cons wl293 (w_cons wl322 (w_cons wl321 (w_cons wl320 (w_cons wl171 (w_cons wl319 (w_cons wl298 (w_cons wl169 (w_cons wl168 (w_cons wl167 (w_cons wl166 (w_cons wl165 (w_cons wl164 (w_cons wl163 (w_cons wl32 (w_cons wl162 (w_cons wl318 (w_cons wl317 (w_cons wl316 w_nil)))))))))))))))))))))))
set_option maxRecDepth 20000 in
theorem in_wsX11_ofSpoon_r2 : ∀ w ∈ wsX11_ofSpoon_r2, w ∈ lw_tbl := w_cons wl45 (w_cons wl338 (w_cons wl51 (w_cons wl337 (w_cons wl336 (w_cons wl335 (w_cons wl210 (w_cons wl209 (w_cons wl208 (w_cons wl334 (w_cons wl333 (w_cons wl332 (w_cons wl331 (w_cons wl85 (w_cons wl55 (w_cons wl53 (w_cons wl330 (w_cons wl329 (w_cons wl328 (w_cons wl327 (w_cons wl326 (w_cons wl325 (w_cons wl324 (w_cons wl323 w_nil)))))))))))))))))))))))
set_option maxRecDepth 20000 in
theorem in_wsX11_ofSpoon_r3 : ∀ w ∈ wsX11_ofSpoon_r3, w ∈ lw_tbl := w_cons wl357 (w_cons wl356 (w_cons wl355 (w_cons wl353 (w_cons wl19 (w_cons wl354 (w_cons wl353 (w_cons wl352 (w_cons wl351 (w_cons wl1 (w_cons wl350 (w_cons wl349 (w_cons wl348 (w_cons wl347 (w_cons wl346 (w_cons wl10 (w_cons wl345 (w_cons wl344 (w_cons wl343 (w_cons wl16 (w_cons wl342 (w_cons wl341 (w_cons wl340 (w_cons wl339 w_nil)))))))))))))))))))))))
set_option maxRecDepth 20000 in
theorem in_wsX11_ofSpoon_r4 : ∀ w ∈ wsX11_ofSpoon_r4, w ∈ lw_tbl := w_cons wl378 (w_cons wl4 (w_cons wl377 (w_cons wl376 (w_cons wl375 (w_cons wl357 (w_cons wl374 (w_cons wl373 (w_cons wl372 (w_cons wl371 (w_cons wl370 (w_cons wl49 (w_cons wl369 (w_cons wl368 (w_cons wl367 (w_cons wl366 (w_cons wl365 (w_cons wl364 (w_cons wl363 (w_cons wl362 (w_cons wl361 (w_cons wl360 (w_cons wl359 (w_cons wl358 w_nil)))))))))))))))))))))))
set_option maxRecDepth 20000 in
theorem in_wsX11_ofSpoon_r5 : ∀ w ∈ wsX11_ofSpoon_r5, w ∈ lw_tbl := w_cons wl385 (w_cons wl384 (w_cons wl383 (w_cons wl382 (w_cons wl381 (w_cons wl380 (w_cons wl379 w_nil))))))
set_option maxRecDepth 20000 in
theorem in_wsX90 : ∀ w ∈ wsX90, w ∈ lw_tbl := w_eq (l2 := [.laysFinal RX9 "SpoonsLast$Text" "bytes" "[I", .laysFinal RX9 "SpoonsLast$Text" "names" "Ljava/lang/String;", .lays RX9 "SpoonsLast$Text" "at" "I", .laysFinal RX9 "SpoonsLast$Text" "codes" "[I", .lays RX9 "SpoonsLast$Text" "length" "I", .laysFinal RX9 "SpoonsLast$Text" "stack" "[I", .lays RX9 "SpoonsLast$Text" "fault" "I"]) rfl (w_cons wl392 (w_cons wl391 (w_cons wl390 (w_cons wl389 (w_cons wl388 (w_cons wl387 (w_cons wl386 (w_nil))))))))
set_option maxRecDepth 20000 in
theorem in_wsX11_ofSpoon : ∀ w ∈ wsX11_ofSpoon, w ∈ lw_tbl := w_cons wl315 (w_app (w_app (w_app (w_app (in_wsX11_ofSpoon_r1) (w_app (in_wsX11_ofSpoon_r2) (w_app (in_wsX11_ofSpoon_r3) (w_app (in_wsX11_ofSpoon_r4) (in_wsX11_ofSpoon_r5))))) (in_wsX110)) (in_wsX30)) (in_wsX90))
set_option maxRecDepth 20000 in
theorem in_wsX12_ofSpoon_r1 : ∀ w ∈ wsX12_ofSpoon_r1, w ∈ lw_tbl := w_cons wl405 (w_cons wl404 (w_cons wl403 (w_cons wl402 (w_cons wl194 (w_cons wl401 (w_cons wl136 (w_cons wl191 (w_cons wl190 (w_cons wl189 (w_cons wl184 (w_cons wl183 (w_cons wl182 (w_cons wl181 (w_cons wl133 (w_cons wl180 (w_cons wl218 (w_cons wl217 (w_cons wl216 (w_cons wl215 (w_cons wl400 (w_cons wl399 (w_cons wl398 (w_cons wl397 w_nil)))))))))))))))))))))))
set_option maxRecDepth 20000 in
theorem in_wsX12_ofSpoon_r2 : ∀ w ∈ wsX12_ofSpoon_r2, w ∈ lw_tbl := w_cons wl427 (w_cons wl426 (w_cons wl425 (w_cons wl424 (w_cons wl423 (w_cons wl422 (w_cons wl421 (w_cons wl420 (w_cons wl419 (w_cons wl418 (w_cons wl417 (w_cons wl416 (w_cons wl415 (w_cons wl414 (w_cons wl413 (w_cons wl132 (w_cons wl412 (w_cons wl411 (w_cons wl410 (w_cons wl409 (w_cons wl130 (w_cons wl408 (w_cons wl407 (w_cons wl406 w_nil)))))))))))))))))))))))
set_option maxRecDepth 20000 in
theorem in_wsX12_ofSpoon_r3 : ∀ w ∈ wsX12_ofSpoon_r3, w ∈ lw_tbl := w_cons wl430 (w_cons wl429 (w_cons wl428 w_nil))
set_option maxRecDepth 20000 in
theorem in_wsX12_ofSpoon : ∀ w ∈ wsX12_ofSpoon, w ∈ lw_tbl := w_cons wl396 (w_app (w_app (in_wsX12_ofSpoon_r1) (w_app (in_wsX12_ofSpoon_r2) (in_wsX12_ofSpoon_r3))) (in_wsX120))
set_option maxRecDepth 20000 in
theorem in_wsX11_change_r1 : ∀ w ∈ wsX11_change_r1, w ∈ lw_tbl := w_cons wl175 (w_cons wl44 (w_cons wl294 (w_cons wl293 (w_cons wl322 (w_cons wl321 (w_cons wl320 (w_cons wl171 (w_cons wl319 (w_cons wl298 (w_cons wl169 (w_cons wl168 (w_cons wl167 (w_cons wl166 (w_cons wl165 (w_cons wl164 (w_cons wl163 (w_cons wl32 (w_cons wl162 (w_cons wl438 (w_cons wl437 (w_cons wl45 (w_cons wl436 (w_cons wl435 w_nil)))))))))))))))))))))))
set_option maxRecDepth 20000 in
theorem in_wsX11_change_r2 : ∀ w ∈ wsX11_change_r2, w ∈ lw_tbl := w_cons wl439 (w_cons wl379 (w_cons wl209 (w_cons wl208 w_nil)))
set_option maxRecDepth 20000 in
theorem in_wsX11_change : ∀ w ∈ wsX11_change, w ∈ lw_tbl := w_cons wl434 (w_app (w_app (w_app (in_wsX11_change_r1) (in_wsX11_change_r2)) (in_wsX110)) (in_wsX30))
set_option maxRecDepth 20000 in
theorem in_wsX12_change : ∀ w ∈ wsX12_change, w ∈ lw_tbl := w_cons wl443 (w_app (w_cons wl444 (w_cons wl311 (w_cons wl197 (w_cons wl404 (w_cons wl403 (w_cons wl402 (w_cons wl194 (w_cons wl401 (w_cons wl136 (w_cons wl191 (w_cons wl190 (w_cons wl189 (w_cons wl184 (w_cons wl183 (w_cons wl182 (w_cons wl181 (w_cons wl133 (w_cons wl180 (w_cons wl188 (w_cons wl187 (w_cons wl186 (w_cons wl185 w_nil)))))))))))))))))))))) (in_wsX120))
set_option maxRecDepth 20000 in
theorem in_wsX11_become : ∀ w ∈ wsX11_become, w ∈ lw_tbl := w_cons wl448 (w_app (w_app (w_cons wl175 (w_cons wl44 (w_cons wl296 (w_cons wl295 (w_cons wl322 (w_cons wl321 (w_cons wl320 (w_cons wl171 (w_cons wl319 (w_cons wl298 (w_cons wl169 (w_cons wl168 (w_cons wl167 (w_cons wl166 (w_cons wl165 (w_cons wl164 (w_cons wl163 (w_cons wl32 (w_cons wl162 w_nil))))))))))))))))))) (in_wsX110)) (in_wsX30))
set_option maxRecDepth 20000 in
theorem in_wsX12_become_r1 : ∀ w ∈ wsX12_become_r1, w ∈ lw_tbl := w_cons wl404 (w_cons wl403 (w_cons wl402 (w_cons wl194 (w_cons wl401 (w_cons wl136 (w_cons wl191 (w_cons wl190 (w_cons wl189 (w_cons wl310 (w_cons wl309 (w_cons wl308 (w_cons wl307 (w_cons wl184 (w_cons wl183 (w_cons wl182 (w_cons wl181 (w_cons wl133 (w_cons wl180 (w_cons wl306 (w_cons wl305 (w_cons wl304 (w_cons wl303 (w_cons wl188 w_nil)))))))))))))))))))))))
set_option maxRecDepth 20000 in
theorem in_wsX12_become_r2 : ∀ w ∈ wsX12_become_r2, w ∈ lw_tbl := w_cons wl187 (w_cons wl186 (w_cons wl185 w_nil))
set_option maxRecDepth 20000 in
theorem in_wsX12_become : ∀ w ∈ wsX12_become, w ∈ lw_tbl := w_cons wl452 (w_app (w_app (in_wsX12_become_r1) (in_wsX12_become_r2)) (in_wsX120))
set_option maxRecDepth 20000 in
theorem in_wsX11_as : ∀ w ∈ wsX11_as, w ∈ lw_tbl := w_cons wl456 (w_app (w_app (w_cons wl175 (w_cons wl44 (w_cons wl296 (w_cons wl295 (w_cons wl458 (w_cons wl457 (w_cons wl322 (w_cons wl321 (w_cons wl320 (w_cons wl171 (w_cons wl319 (w_cons wl298 (w_cons wl169 (w_cons wl168 (w_cons wl167 (w_cons wl166 (w_cons wl165 (w_cons wl164 (w_cons wl163 (w_cons wl32 (w_cons wl162 w_nil))))))))))))))))))))) (in_wsX110)) (in_wsX30))
set_option maxRecDepth 20000 in
theorem in_wsX12_as : ∀ w ∈ wsX12_as, w ∈ lw_tbl := w_cons wl462 (w_app (w_cons wl466 (w_cons wl404 (w_cons wl403 (w_cons wl402 (w_cons wl194 (w_cons wl401 (w_cons wl136 (w_cons wl191 (w_cons wl190 (w_cons wl189 (w_cons wl184 (w_cons wl183 (w_cons wl182 (w_cons wl181 (w_cons wl133 (w_cons wl180 (w_cons wl218 (w_cons wl217 (w_cons wl216 (w_cons wl215 (w_cons wl465 (w_cons wl464 (w_cons wl463 w_nil))))))))))))))))))))))) (in_wsX120))
set_option maxRecDepth 20000 in
theorem in_wsX11_feed : ∀ w ∈ wsX11_feed, w ∈ lw_tbl := w_cons wl470 (w_app (w_app (w_cons wl175 (w_cons wl44 (w_cons wl472 (w_cons wl297 (w_cons wl471 (w_cons wl169 (w_cons wl168 (w_cons wl171 (w_cons wl167 (w_cons wl166 (w_cons wl165 (w_cons wl164 (w_cons wl163 (w_cons wl32 (w_cons wl162 w_nil))))))))))))))) (in_wsX110)) (in_wsX30))
set_option maxRecDepth 20000 in
theorem in_wsX12_feed : ∀ w ∈ wsX12_feed, w ∈ lw_tbl := w_cons wl476 (w_app (w_cons wl478 (w_cons wl136 (w_cons wl477 (w_cons wl191 (w_cons wl190 (w_cons wl194 (w_cons wl189 (w_cons wl184 (w_cons wl183 (w_cons wl182 (w_cons wl181 (w_cons wl133 (w_cons wl180 w_nil))))))))))))) (in_wsX120))
set_option maxRecDepth 20000 in
theorem in_wsX11_text_r1 : ∀ w ∈ wsX11_text_r1, w ∈ lw_tbl := w_cons wl175 (w_cons wl491 (w_cons wl490 (w_cons wl359 (w_cons wl44 (w_cons wl471 (w_cons wl472 (w_cons wl489 (w_cons wl488 (w_cons wl487 (w_cons wl486 (w_cons wl171 (w_cons wl485 (w_cons wl169 (w_cons wl168 (w_cons wl167 (w_cons wl166 (w_cons wl165 (w_cons wl164 (w_cons wl163 (w_cons wl32 (w_cons wl162 (w_cons wl484 (w_cons wl483 w_nil)))))))))))))))))))))))
set_option maxRecDepth 20000 in
theorem in_wsX11_text_r2 : ∀ w ∈ wsX11_text_r2, w ∈ lw_tbl := w_cons wl507 (w_cons wl506 (w_cons wl23 (w_cons wl22 (w_cons wl505 (w_cons wl504 (w_cons wl503 (w_cons wl33 (w_cons wl384 (w_cons wl383 (w_cons wl502 (w_cons wl501 (w_cons wl500 (w_cons wl82 (w_cons wl499 (w_cons wl498 (w_cons wl497 (w_cons wl496 (w_cons wl495 (w_cons wl494 (w_cons wl493 (w_cons wl492 (w_cons wl368 (w_cons wl367 w_nil)))))))))))))))))))))))
set_option maxRecDepth 20000 in
theorem in_wsX11_text_r3 : ∀ w ∈ wsX11_text_r3, w ∈ lw_tbl := w_cons wl366 (w_cons wl530 (w_cons wl529 (w_cons wl528 (w_cons wl527 (w_cons wl526 (w_cons wl525 (w_cons wl524 (w_cons wl523 (w_cons wl522 (w_cons wl521 (w_cons wl520 (w_cons wl519 (w_cons wl518 (w_cons wl517 (w_cons wl516 (w_cons wl515 (w_cons wl514 (w_cons wl513 (w_cons wl512 (w_cons wl511 (w_cons wl510 (w_cons wl509 (w_cons wl508 w_nil)))))))))))))))))))))))
set_option maxRecDepth 20000 in
theorem in_wsX11_text_r4 : ∀ w ∈ wsX11_text_r4, w ∈ lw_tbl := w_cons wl552 (w_cons wl551 (w_cons wl550 (w_cons wl549 (w_cons wl548 (w_cons wl547 (w_cons wl546 (w_cons wl545 (w_cons wl544 (w_cons wl543 (w_cons wl542 (w_cons wl541 (w_cons wl540 (w_cons wl539 (w_cons wl538 (w_cons wl537 (w_cons wl536 (w_cons wl535 (w_cons wl534 (w_cons wl533 (w_cons wl532 (w_cons wl364 (w_cons wl363 (w_cons wl531 w_nil)))))))))))))))))))))))
set_option maxRecDepth 20000 in
theorem in_wsX11_text_r5 : ∀ w ∈ wsX11_text_r5, w ∈ lw_tbl := w_cons wl576 (w_cons wl575 (w_cons wl574 (w_cons wl573 (w_cons wl572 (w_cons wl571 (w_cons wl570 (w_cons wl569 (w_cons wl568 (w_cons wl567 (w_cons wl566 (w_cons wl565 (w_cons wl564 (w_cons wl563 (w_cons wl562 (w_cons wl561 (w_cons wl560 (w_cons wl559 (w_cons wl558 (w_cons wl557 (w_cons wl556 (w_cons wl555 (w_cons wl554 (w_cons wl553 w_nil)))))))))))))))))))))))
set_option maxRecDepth 20000 in
theorem in_wsX11_text_r6 : ∀ w ∈ wsX11_text_r6, w ∈ lw_tbl := w_cons wl600 (w_cons wl599 (w_cons wl598 (w_cons wl597 (w_cons wl596 (w_cons wl595 (w_cons wl594 (w_cons wl593 (w_cons wl592 (w_cons wl591 (w_cons wl590 (w_cons wl589 (w_cons wl588 (w_cons wl587 (w_cons wl586 (w_cons wl585 (w_cons wl584 (w_cons wl583 (w_cons wl582 (w_cons wl581 (w_cons wl580 (w_cons wl579 (w_cons wl578 (w_cons wl577 w_nil)))))))))))))))))))))))
set_option maxRecDepth 20000 in
theorem in_wsX11_text_r7 : ∀ w ∈ wsX11_text_r7, w ∈ lw_tbl := w_cons wl623 (w_cons wl622 (w_cons wl621 (w_cons wl620 (w_cons wl619 (w_cons wl618 (w_cons wl617 (w_cons wl616 (w_cons wl615 (w_cons wl614 (w_cons wl613 (w_cons wl612 (w_cons wl611 (w_cons wl610 (w_cons wl385 (w_cons wl609 (w_cons wl608 (w_cons wl607 (w_cons wl606 (w_cons wl605 (w_cons wl604 (w_cons wl603 (w_cons wl602 (w_cons wl601 w_nil)))))))))))))))))))))))
set_option maxRecDepth 20000 in
theorem in_wsX11_text_r8 : ∀ w ∈ wsX11_text_r8, w ∈ lw_tbl := w_cons wl639 (w_cons wl638 (w_cons wl637 (w_cons wl636 (w_cons wl635 (w_cons wl634 (w_cons wl633 (w_cons wl632 (w_cons wl631 (w_cons wl630 (w_cons wl629 (w_cons wl628 (w_cons wl627 (w_cons wl626 (w_cons wl625 (w_cons wl624 w_nil)))))))))))))))
set_option maxRecDepth 20000 in
theorem in_wsX11_text : ∀ w ∈ wsX11_text, w ∈ lw_tbl := w_cons wl482 (w_app (w_app (w_app (w_app (in_wsX11_text_r1) (w_app (in_wsX11_text_r2) (w_app (in_wsX11_text_r3) (w_app (in_wsX11_text_r4) (w_app (in_wsX11_text_r5) (w_app (in_wsX11_text_r6) (w_app (in_wsX11_text_r7) (in_wsX11_text_r8)))))))) (in_wsX90)) (in_wsX110)) (in_wsX30))
set_option maxRecDepth 20000 in
theorem in_wsX12_text_r1 : ∀ w ∈ wsX12_text_r1, w ∈ lw_tbl := w_cons wl136 (w_cons wl655 (w_cons wl654 (w_cons wl131 (w_cons wl191 (w_cons wl190 (w_cons wl194 (w_cons wl189 (w_cons wl184 (w_cons wl183 (w_cons wl182 (w_cons wl181 (w_cons wl133 (w_cons wl180 (w_cons wl653 (w_cons wl652 (w_cons wl651 (w_cons wl650 (w_cons wl649 (w_cons wl648 (w_cons wl647 (w_cons wl646 (w_cons wl645 (w_cons wl644 w_nil)))))))))))))))))))))))
set_option maxRecDepth 20000 in
theorem in_wsX12_text_r2 : ∀ w ∈ wsX12_text_r2, w ∈ lw_tbl := w_cons wl679 (w_cons wl678 (w_cons wl677 (w_cons wl676 (w_cons wl675 (w_cons wl674 (w_cons wl673 (w_cons wl672 (w_cons wl671 (w_cons wl670 (w_cons wl669 (w_cons wl668 (w_cons wl667 (w_cons wl666 (w_cons wl665 (w_cons wl664 (w_cons wl663 (w_cons wl662 (w_cons wl661 (w_cons wl660 (w_cons wl659 (w_cons wl658 (w_cons wl657 (w_cons wl656 w_nil)))))))))))))))))))))))
set_option maxRecDepth 20000 in
theorem in_wsX12_text_r3 : ∀ w ∈ wsX12_text_r3, w ∈ lw_tbl := w_cons wl703 (w_cons wl702 (w_cons wl701 (w_cons wl700 (w_cons wl699 (w_cons wl698 (w_cons wl697 (w_cons wl696 (w_cons wl695 (w_cons wl694 (w_cons wl693 (w_cons wl692 (w_cons wl691 (w_cons wl690 (w_cons wl689 (w_cons wl688 (w_cons wl687 (w_cons wl686 (w_cons wl685 (w_cons wl684 (w_cons wl683 (w_cons wl682 (w_cons wl681 (w_cons wl680 w_nil)))))))))))))))))))))))
set_option maxRecDepth 20000 in
theorem in_wsX12_text_r4 : ∀ w ∈ wsX12_text_r4, w ∈ lw_tbl := w_cons wl704 w_nil
set_option maxRecDepth 20000 in
theorem in_wsX12_text : ∀ w ∈ wsX12_text, w ∈ lw_tbl := w_cons wl643 (w_app (w_app (in_wsX12_text_r1) (w_app (in_wsX12_text_r2) (w_app (in_wsX12_text_r3) (in_wsX12_text_r4)))) (in_wsX120))
set_option maxRecDepth 20000 in
theorem in_wsX11_law_r1 : ∀ w ∈ wsX11_law_r1, w ∈ lw_tbl := w_cons wl44 (w_cons wl175 (w_cons wl487 (w_cons wl486 (w_cons wl171 (w_cons wl485 (w_cons wl169 (w_cons wl168 (w_cons wl167 (w_cons wl709 (w_cons wl372 (w_cons wl371 (w_cons wl45 (w_cons wl370 (w_cons wl49 (w_cons wl369 (w_cons wl368 (w_cons wl367 (w_cons wl366 (w_cons wl365 (w_cons wl364 (w_cons wl363 (w_cons wl362 (w_cons wl361 w_nil)))))))))))))))))))))))
set_option maxRecDepth 20000 in
theorem in_wsX11_law_r2 : ∀ w ∈ wsX11_law_r2, w ∈ lw_tbl := w_cons wl360 (w_cons wl359 (w_cons wl358 (w_cons wl385 (w_cons wl384 (w_cons wl383 (w_cons wl382 (w_cons wl381 (w_cons wl380 (w_cons wl166 (w_cons wl165 (w_cons wl164 (w_cons wl163 (w_cons wl32 (w_cons wl162 w_nil))))))))))))))
set_option maxRecDepth 20000 in
theorem in_wsX11_law : ∀ w ∈ wsX11_law, w ∈ lw_tbl := w_cons wl708 (w_app (w_app (w_app (w_app (in_wsX11_law_r1) (in_wsX11_law_r2)) (in_wsX110)) (in_wsX30)) (in_wsX90))
set_option maxRecDepth 20000 in
theorem in_wsX12_law_r1 : ∀ w ∈ wsX12_law_r1, w ∈ lw_tbl := w_cons wl191 (w_cons wl190 (w_cons wl194 (w_cons wl189 (w_cons wl416 (w_cons wl415 (w_cons wl414 (w_cons wl413 (w_cons wl136 (w_cons wl132 (w_cons wl412 (w_cons wl411 (w_cons wl410 (w_cons wl409 (w_cons wl130 (w_cons wl408 (w_cons wl407 (w_cons wl406 (w_cons wl430 (w_cons wl429 (w_cons wl428 (w_cons wl184 (w_cons wl183 (w_cons wl182 w_nil)))))))))))))))))))))))
set_option maxRecDepth 20000 in
theorem in_wsX12_law_r2 : ∀ w ∈ wsX12_law_r2, w ∈ lw_tbl := w_cons wl181 (w_cons wl133 (w_cons wl180 w_nil))
set_option maxRecDepth 20000 in
theorem in_wsX12_law : ∀ w ∈ wsX12_law, w ∈ lw_tbl := w_cons wl713 (w_app (w_app (in_wsX12_law_r1) (in_wsX12_law_r2)) (in_wsX120))
set_option maxRecDepth 20000 in
theorem in_wsX11_hours_r1 : ∀ w ∈ wsX11_hours_r1, w ∈ lw_tbl := w_cons wl175 (w_cons wl44 (w_cons wl725 (w_cons wl724 (w_cons wl207 (w_cons wl169 (w_cons wl168 (w_cons wl171 (w_cons wl167 (w_cons wl166 (w_cons wl165 (w_cons wl164 (w_cons wl163 (w_cons wl32 (w_cons wl162 (w_cons wl723 (w_cons wl722 (w_cons wl721 (w_cons wl45 (w_cons wl720 (w_cons wl202 (w_cons wl51 (w_cons wl719 (w_cons wl718 w_nil)))))))))))))))))))))))
set_option maxRecDepth 20000 in
theorem in_wsX11_hours_r2 : ∀ w ∈ wsX11_hours_r2, w ∈ lw_tbl := w_cons wl741 (w_cons wl740 (w_cons wl739 (w_cons wl58 (w_cons wl57 (w_cons wl85 (w_cons wl55 (w_cons wl54 (w_cons wl59 (w_cons wl53 (w_cons wl738 (w_cons wl737 (w_cons wl736 (w_cons wl735 (w_cons wl734 (w_cons wl733 (w_cons wl367 (w_cons wl732 (w_cons wl731 (w_cons wl730 (w_cons wl729 (w_cons wl728 (w_cons wl727 (w_cons wl726 w_nil)))))))))))))))))))))))
set_option maxRecDepth 20000 in
theorem in_wsX11_hours_r3 : ∀ w ∈ wsX11_hours_r3, w ∈ lw_tbl := w_cons wl757 (w_cons wl755 (w_cons wl19 (w_cons wl756 (w_cons wl755 (w_cons wl754 (w_cons wl753 (w_cons wl1 (w_cons wl752 (w_cons wl751 (w_cons wl750 (w_cons wl347 (w_cons wl749 (w_cons wl10 (w_cons wl748 (w_cons wl747 (w_cons wl746 (w_cons wl16 (w_cons wl745 (w_cons wl744 (w_cons wl340 (w_cons wl743 (w_cons wl742 (w_cons wl4 w_nil)))))))))))))))))))))))
set_option maxRecDepth 20000 in
theorem in_wsX11_hours_r4 : ∀ w ∈ wsX11_hours_r4, w ∈ lw_tbl := w_cons wl766 (w_cons wl765 (w_cons wl764 (w_cons wl763 (w_cons wl7 (w_cons wl762 (w_cons wl761 (w_cons wl760 (w_cons wl759 (w_cons wl727 (w_cons wl758 (w_cons wl373 (w_cons wl372 (w_cons wl371 (w_cons wl370 (w_cons wl49 (w_cons wl369 (w_cons wl368 (w_cons wl367 (w_cons wl366 (w_cons wl365 (w_cons wl364 (w_cons wl363 (w_cons wl362 w_nil)))))))))))))))))))))))
set_option maxRecDepth 20000 in
theorem in_wsX11_hours_r5 : ∀ w ∈ wsX11_hours_r5, w ∈ lw_tbl := w_cons wl361 (w_cons wl360 (w_cons wl359 (w_cons wl358 (w_cons wl385 (w_cons wl384 (w_cons wl383 (w_cons wl382 (w_cons wl381 (w_cons wl380 (w_cons wl210 (w_cons wl209 (w_cons wl208 (w_cons wl772 (w_cons wl437 (w_cons wl436 (w_cons wl435 (w_cons wl439 (w_cons wl771 (w_cons wl770 (w_cons wl769 (w_cons wl768 (w_cons wl56 (w_cons wl767 w_nil)))))))))))))))))))))))
set_option maxRecDepth 20000 in
theorem in_wsX11_hours_r6 : ∀ w ∈ wsX11_hours_r6, w ∈ lw_tbl := w_cons wl773 (w_cons wl333 (w_cons wl332 (w_cons wl331 (w_cons wl330 (w_cons wl317 (w_cons wl316 (w_cons wl338 (w_cons wl337 (w_cons wl336 (w_cons wl335 (w_cons wl329 (w_cons wl328 (w_cons wl327 (w_cons wl326 (w_cons wl325 (w_cons wl324 (w_cons wl323 (w_cons wl357 (w_cons wl356 (w_cons wl355 (w_cons wl353 (w_cons wl354 (w_cons wl353 w_nil)))))))))))))))))))))))
set_option maxRecDepth 20000 in
theorem in_wsX11_hours_r7 : ∀ w ∈ wsX11_hours_r7, w ∈ lw_tbl := w_cons wl352 (w_cons wl351 (w_cons wl350 (w_cons wl349 (w_cons wl348 (w_cons wl346 (w_cons wl345 (w_cons wl344 (w_cons wl343 (w_cons wl342 (w_cons wl341 (w_cons wl339 (w_cons wl378 (w_cons wl377 (w_cons wl376 (w_cons wl375 (w_cons wl357 (w_cons wl374 (w_cons wl778 (w_cons wl777 (w_cons wl776 (w_cons wl775 (w_cons wl774 (w_cons wl13 w_nil)))))))))))))))))))))))
set_option maxRecDepth 20000 in
theorem in_wsX11_hours_r8 : ∀ w ∈ wsX11_hours_r8, w ∈ lw_tbl := w_cons wl800 (w_cons wl799 (w_cons wl798 (w_cons wl797 (w_cons wl796 (w_cons wl795 (w_cons wl794 (w_cons wl793 (w_cons wl792 (w_cons wl791 (w_cons wl776 (w_cons wl790 (w_cons wl789 (w_cons wl788 (w_cons wl787 (w_cons wl786 (w_cons wl778 (w_cons wl785 (w_cons wl784 (w_cons wl783 (w_cons wl782 (w_cons wl781 (w_cons wl780 (w_cons wl779 w_nil)))))))))))))))))))))))
set_option maxRecDepth 20000 in
theorem in_wsX11_hours_r9 : ∀ w ∈ wsX11_hours_r9, w ∈ lw_tbl := w_cons wl802 (w_cons wl801 w_nil)
set_option maxRecDepth 20000 in
theorem in_wsX11_hours : ∀ w ∈ wsX11_hours, w ∈ lw_tbl := w_cons wl717 (w_app (w_app (w_app (w_app (in_wsX11_hours_r1) (w_app (in_wsX11_hours_r2) (w_app (in_wsX11_hours_r3) (w_app (in_wsX11_hours_r4) (w_app (in_wsX11_hours_r5) (w_app (in_wsX11_hours_r6) (w_app (in_wsX11_hours_r7) (w_app (in_wsX11_hours_r8) (in_wsX11_hours_r9))))))))) (in_wsX110)) (in_wsX30)) (in_wsX90))
set_option maxRecDepth 20000 in
theorem in_wsX12_hours_r1 : ∀ w ∈ wsX12_hours_r1, w ∈ lw_tbl := w_cons wl819 (w_cons wl136 (w_cons wl191 (w_cons wl190 (w_cons wl194 (w_cons wl189 (w_cons wl184 (w_cons wl183 (w_cons wl182 (w_cons wl181 (w_cons wl133 (w_cons wl180 (w_cons wl818 (w_cons wl817 (w_cons wl816 (w_cons wl815 (w_cons wl814 (w_cons wl813 (w_cons wl812 (w_cons wl811 (w_cons wl810 (w_cons wl809 (w_cons wl808 (w_cons wl807 w_nil)))))))))))))))))))))))
set_option maxRecDepth 20000 in
theorem in_wsX12_hours_r2 : ∀ w ∈ wsX12_hours_r2, w ∈ lw_tbl := w_cons wl404 (w_cons wl403 (w_cons wl402 (w_cons wl401 (w_cons wl831 (w_cons wl830 (w_cons wl829 (w_cons wl828 (w_cons wl218 (w_cons wl217 (w_cons wl216 (w_cons wl215 (w_cons wl827 (w_cons wl826 (w_cons wl825 (w_cons wl824 (w_cons wl823 (w_cons wl822 (w_cons wl821 (w_cons wl820 (w_cons wl416 (w_cons wl415 (w_cons wl414 (w_cons wl413 w_nil)))))))))))))))))))))))
set_option maxRecDepth 20000 in
theorem in_wsX12_hours_r3 : ∀ w ∈ wsX12_hours_r3, w ∈ lw_tbl := w_cons wl132 (w_cons wl412 (w_cons wl411 (w_cons wl410 (w_cons wl409 (w_cons wl130 (w_cons wl408 (w_cons wl407 (w_cons wl406 (w_cons wl430 (w_cons wl429 (w_cons wl428 (w_cons wl306 (w_cons wl305 (w_cons wl304 (w_cons wl303 (w_cons wl835 (w_cons wl834 (w_cons wl833 (w_cons wl832 (w_cons wl400 (w_cons wl399 (w_cons wl398 (w_cons wl397 w_nil)))))))))))))))))))))))
set_option maxRecDepth 20000 in
theorem in_wsX12_hours_r4 : ∀ w ∈ wsX12_hours_r4, w ∈ lw_tbl := w_cons wl427 (w_cons wl426 (w_cons wl425 (w_cons wl424 (w_cons wl423 (w_cons wl422 (w_cons wl421 (w_cons wl420 (w_cons wl419 (w_cons wl418 (w_cons wl417 (w_cons wl839 (w_cons wl838 (w_cons wl837 (w_cons wl836 w_nil))))))))))))))
set_option maxRecDepth 20000 in
theorem in_wsX12_hours : ∀ w ∈ wsX12_hours, w ∈ lw_tbl := w_cons wl806 (w_app (w_app (in_wsX12_hours_r1) (w_app (in_wsX12_hours_r2) (w_app (in_wsX12_hours_r3) (in_wsX12_hours_r4)))) (in_wsX120))
set_option maxRecDepth 20000 in
theorem in_wsX11_loose_r1 : ∀ w ∈ wsX11_loose_r1, w ∈ lw_tbl := w_cons wl175 (w_cons wl44 (w_cons wl725 (w_cons wl724 (w_cons wl207 (w_cons wl169 (w_cons wl168 (w_cons wl171 (w_cons wl167 (w_cons wl166 (w_cons wl165 (w_cons wl164 (w_cons wl163 (w_cons wl32 (w_cons wl162 (w_cons wl847 (w_cons wl846 (w_cons wl845 (w_cons wl45 (w_cons wl844 (w_cons wl58 (w_cons wl57 (w_cons wl738 (w_cons wl737 w_nil)))))))))))))))))))))))
set_option maxRecDepth 20000 in
theorem in_wsX11_loose_r2 : ∀ w ∈ wsX11_loose_r2, w ∈ lw_tbl := w_cons wl736 (w_cons wl735 (w_cons wl719 (w_cons wl734 (w_cons wl733 (w_cons wl367 (w_cons wl732 (w_cons wl852 (w_cons wl851 (w_cons wl850 (w_cons wl849 (w_cons wl87 (w_cons wl848 (w_cons wl723 (w_cons wl722 (w_cons wl721 (w_cons wl720 (w_cons wl202 (w_cons wl51 (w_cons wl718 (w_cons wl741 (w_cons wl740 (w_cons wl739 (w_cons wl85 w_nil)))))))))))))))))))))))
set_option maxRecDepth 20000 in
theorem in_wsX11_loose_r3 : ∀ w ∈ wsX11_loose_r3, w ∈ lw_tbl := w_cons wl55 (w_cons wl54 (w_cons wl59 (w_cons wl53 (w_cons wl731 (w_cons wl730 (w_cons wl729 (w_cons wl728 (w_cons wl727 (w_cons wl726 (w_cons wl757 (w_cons wl755 (w_cons wl19 (w_cons wl756 (w_cons wl755 (w_cons wl754 (w_cons wl753 (w_cons wl1 (w_cons wl752 (w_cons wl751 (w_cons wl750 (w_cons wl347 (w_cons wl749 (w_cons wl10 w_nil)))))))))))))))))))))))
set_option maxRecDepth 20000 in
theorem in_wsX11_loose_r4 : ∀ w ∈ wsX11_loose_r4, w ∈ lw_tbl := w_cons wl748 (w_cons wl747 (w_cons wl746 (w_cons wl16 (w_cons wl745 (w_cons wl744 (w_cons wl340 (w_cons wl743 (w_cons wl742 (w_cons wl4 (w_cons wl766 (w_cons wl765 (w_cons wl764 (w_cons wl763 (w_cons wl7 (w_cons wl762 (w_cons wl761 (w_cons wl760 (w_cons wl759 (w_cons wl727 (w_cons wl758 (w_cons wl373 (w_cons wl372 (w_cons wl371 w_nil)))))))))))))))))))))))
set_option maxRecDepth 20000 in
theorem in_wsX11_loose_r5 : ∀ w ∈ wsX11_loose_r5, w ∈ lw_tbl := w_cons wl370 (w_cons wl49 (w_cons wl369 (w_cons wl368 (w_cons wl367 (w_cons wl366 (w_cons wl365 (w_cons wl364 (w_cons wl363 (w_cons wl362 (w_cons wl361 (w_cons wl360 (w_cons wl359 (w_cons wl358 (w_cons wl385 (w_cons wl384 (w_cons wl383 (w_cons wl382 (w_cons wl381 (w_cons wl380 (w_cons wl210 (w_cons wl209 (w_cons wl208 (w_cons wl772 w_nil)))))))))))))))))))))))
set_option maxRecDepth 20000 in
theorem in_wsX11_loose_r6 : ∀ w ∈ wsX11_loose_r6, w ∈ lw_tbl := w_cons wl437 (w_cons wl436 (w_cons wl435 (w_cons wl439 (w_cons wl771 (w_cons wl770 (w_cons wl769 (w_cons wl768 (w_cons wl56 (w_cons wl767 (w_cons wl773 (w_cons wl333 (w_cons wl332 (w_cons wl331 (w_cons wl330 (w_cons wl317 (w_cons wl316 (w_cons wl338 (w_cons wl337 (w_cons wl336 (w_cons wl335 (w_cons wl329 (w_cons wl328 (w_cons wl327 w_nil)))))))))))))))))))))))
set_option maxRecDepth 20000 in
theorem in_wsX11_loose_r7 : ∀ w ∈ wsX11_loose_r7, w ∈ lw_tbl := w_cons wl326 (w_cons wl325 (w_cons wl324 (w_cons wl323 (w_cons wl357 (w_cons wl356 (w_cons wl355 (w_cons wl353 (w_cons wl354 (w_cons wl353 (w_cons wl352 (w_cons wl351 (w_cons wl350 (w_cons wl349 (w_cons wl348 (w_cons wl346 (w_cons wl345 (w_cons wl344 (w_cons wl343 (w_cons wl342 (w_cons wl341 (w_cons wl339 (w_cons wl378 (w_cons wl377 w_nil)))))))))))))))))))))))
set_option maxRecDepth 20000 in
theorem in_wsX11_loose_r8 : ∀ w ∈ wsX11_loose_r8, w ∈ lw_tbl := w_cons wl376 (w_cons wl375 (w_cons wl357 (w_cons wl374 (w_cons wl778 (w_cons wl777 (w_cons wl776 (w_cons wl775 (w_cons wl774 (w_cons wl13 (w_cons wl800 (w_cons wl799 (w_cons wl798 (w_cons wl797 (w_cons wl796 (w_cons wl795 (w_cons wl794 (w_cons wl793 (w_cons wl792 (w_cons wl791 (w_cons wl776 (w_cons wl790 (w_cons wl789 (w_cons wl788 w_nil)))))))))))))))))))))))
set_option maxRecDepth 20000 in
theorem in_wsX11_loose_r9 : ∀ w ∈ wsX11_loose_r9, w ∈ lw_tbl := w_cons wl787 (w_cons wl786 (w_cons wl778 (w_cons wl785 (w_cons wl784 (w_cons wl783 (w_cons wl782 (w_cons wl781 (w_cons wl780 (w_cons wl779 (w_cons wl802 (w_cons wl801 w_nil)))))))))))
set_option maxRecDepth 20000 in
theorem in_wsX11_loose : ∀ w ∈ wsX11_loose, w ∈ lw_tbl := w_cons wl843 (w_app (w_app (w_app (w_app (in_wsX11_loose_r1) (w_app (in_wsX11_loose_r2) (w_app (in_wsX11_loose_r3) (w_app (in_wsX11_loose_r4) (w_app (in_wsX11_loose_r5) (w_app (in_wsX11_loose_r6) (w_app (in_wsX11_loose_r7) (w_app (in_wsX11_loose_r8) (in_wsX11_loose_r9))))))))) (in_wsX110)) (in_wsX30)) (in_wsX90))
set_option maxRecDepth 20000 in
theorem in_wsX12_loose_r1 : ∀ w ∈ wsX12_loose_r1, w ∈ lw_tbl := w_cons wl862 (w_cons wl136 (w_cons wl191 (w_cons wl190 (w_cons wl194 (w_cons wl189 (w_cons wl184 (w_cons wl183 (w_cons wl182 (w_cons wl181 (w_cons wl133 (w_cons wl180 (w_cons wl818 (w_cons wl817 (w_cons wl816 (w_cons wl815 (w_cons wl861 (w_cons wl860 (w_cons wl859 (w_cons wl858 (w_cons wl857 (w_cons wl810 (w_cons wl809 (w_cons wl808 w_nil)))))))))))))))))))))))
set_option maxRecDepth 20000 in
theorem in_wsX12_loose_r2 : ∀ w ∈ wsX12_loose_r2, w ∈ lw_tbl := w_cons wl807 (w_cons wl404 (w_cons wl403 (w_cons wl402 (w_cons wl401 (w_cons wl831 (w_cons wl830 (w_cons wl829 (w_cons wl828 (w_cons wl218 (w_cons wl217 (w_cons wl216 (w_cons wl215 (w_cons wl827 (w_cons wl826 (w_cons wl825 (w_cons wl824 (w_cons wl823 (w_cons wl822 (w_cons wl821 (w_cons wl820 (w_cons wl416 (w_cons wl415 (w_cons wl414 w_nil)))))))))))))))))))))))
set_option maxRecDepth 20000 in
theorem in_wsX12_loose_r3 : ∀ w ∈ wsX12_loose_r3, w ∈ lw_tbl := w_cons wl413 (w_cons wl132 (w_cons wl412 (w_cons wl411 (w_cons wl410 (w_cons wl409 (w_cons wl130 (w_cons wl408 (w_cons wl407 (w_cons wl406 (w_cons wl430 (w_cons wl429 (w_cons wl428 (w_cons wl306 (w_cons wl305 (w_cons wl304 (w_cons wl303 (w_cons wl835 (w_cons wl834 (w_cons wl833 (w_cons wl832 (w_cons wl400 (w_cons wl399 (w_cons wl398 w_nil)))))))))))))))))))))))
set_option maxRecDepth 20000 in
theorem in_wsX12_loose_r4 : ∀ w ∈ wsX12_loose_r4, w ∈ lw_tbl := w_cons wl397 (w_cons wl427 (w_cons wl426 (w_cons wl425 (w_cons wl424 (w_cons wl423 (w_cons wl422 (w_cons wl421 (w_cons wl420 (w_cons wl419 (w_cons wl418 (w_cons wl417 (w_cons wl839 (w_cons wl838 (w_cons wl837 (w_cons wl836 w_nil)))))))))))))))
set_option maxRecDepth 20000 in
theorem in_wsX12_loose : ∀ w ∈ wsX12_loose, w ∈ lw_tbl := w_cons wl856 (w_app (w_app (in_wsX12_loose_r1) (w_app (in_wsX12_loose_r2) (w_app (in_wsX12_loose_r3) (in_wsX12_loose_r4)))) (in_wsX120))
set_option maxRecDepth 20000 in
theorem in_wsX11_then_r1 : ∀ w ∈ wsX11_then_r1, w ∈ lw_tbl := w_cons wl175 (w_cons wl43 (w_cons wl44 (w_cons wl294 (w_cons wl871 (w_cons wl870 (w_cons wl171 (w_cons wl869 (w_cons wl169 (w_cons wl168 (w_cons wl167 (w_cons wl322 (w_cons wl321 (w_cons wl320 (w_cons wl319 (w_cons wl298 (w_cons wl166 (w_cons wl165 (w_cons wl164 (w_cons wl163 (w_cons wl32 (w_cons wl162 (w_cons wl868 (w_cons wl867 w_nil)))))))))))))))))))))))
set_option maxRecDepth 20000 in
theorem in_wsX11_then_r2 : ∀ w ∈ wsX11_then_r2, w ∈ lw_tbl := w_cons wl874 (w_cons wl45 (w_cons wl873 (w_cons wl59 (w_cons wl872 (w_cons wl529 (w_cons wl528 (w_cons wl527 (w_cons wl767 (w_cons wl719 (w_cons wl58 (w_cons wl57 (w_cons wl56 (w_cons wl202 (w_cons wl55 (w_cons wl54 (w_cons wl53 (w_cons wl51 (w_cons wl49 (w_cons wl723 (w_cons wl722 (w_cons wl721 (w_cons wl720 (w_cons wl718 w_nil)))))))))))))))))))))))
set_option maxRecDepth 20000 in
theorem in_wsX11_then_r3 : ∀ w ∈ wsX11_then_r3, w ∈ lw_tbl := w_cons wl741 (w_cons wl740 (w_cons wl739 (w_cons wl85 (w_cons wl738 (w_cons wl737 (w_cons wl736 (w_cons wl735 (w_cons wl734 (w_cons wl733 (w_cons wl367 (w_cons wl732 (w_cons wl731 (w_cons wl730 (w_cons wl729 (w_cons wl728 (w_cons wl727 (w_cons wl726 (w_cons wl757 (w_cons wl755 (w_cons wl19 (w_cons wl756 (w_cons wl755 (w_cons wl754 w_nil)))))))))))))))))))))))
set_option maxRecDepth 20000 in
theorem in_wsX11_then_r4 : ∀ w ∈ wsX11_then_r4, w ∈ lw_tbl := w_cons wl753 (w_cons wl1 (w_cons wl752 (w_cons wl751 (w_cons wl750 (w_cons wl347 (w_cons wl749 (w_cons wl10 (w_cons wl748 (w_cons wl747 (w_cons wl746 (w_cons wl16 (w_cons wl745 (w_cons wl744 (w_cons wl340 (w_cons wl743 (w_cons wl742 (w_cons wl4 (w_cons wl766 (w_cons wl765 (w_cons wl764 (w_cons wl763 (w_cons wl7 (w_cons wl762 w_nil)))))))))))))))))))))))
set_option maxRecDepth 20000 in
theorem in_wsX11_then_r5 : ∀ w ∈ wsX11_then_r5, w ∈ lw_tbl := w_cons wl761 (w_cons wl760 (w_cons wl759 (w_cons wl727 (w_cons wl758 (w_cons wl373 (w_cons wl372 (w_cons wl371 (w_cons wl370 (w_cons wl369 (w_cons wl368 (w_cons wl367 (w_cons wl366 (w_cons wl365 (w_cons wl364 (w_cons wl363 (w_cons wl362 (w_cons wl361 (w_cons wl360 (w_cons wl359 (w_cons wl358 (w_cons wl385 (w_cons wl384 (w_cons wl383 w_nil)))))))))))))))))))))))
set_option maxRecDepth 20000 in
theorem in_wsX11_then_r6 : ∀ w ∈ wsX11_then_r6, w ∈ lw_tbl := w_cons wl382 (w_cons wl381 (w_cons wl380 (w_cons wl210 (w_cons wl209 (w_cons wl208 (w_cons wl772 (w_cons wl437 (w_cons wl436 (w_cons wl435 (w_cons wl439 (w_cons wl771 (w_cons wl770 (w_cons wl769 (w_cons wl768 (w_cons wl773 (w_cons wl333 (w_cons wl332 (w_cons wl331 (w_cons wl330 (w_cons wl317 (w_cons wl316 (w_cons wl338 (w_cons wl337 w_nil)))))))))))))))))))))))
set_option maxRecDepth 20000 in
theorem in_wsX11_then_r7 : ∀ w ∈ wsX11_then_r7, w ∈ lw_tbl := w_cons wl336 (w_cons wl335 (w_cons wl329 (w_cons wl328 (w_cons wl327 (w_cons wl326 (w_cons wl325 (w_cons wl324 (w_cons wl323 (w_cons wl357 (w_cons wl356 (w_cons wl355 (w_cons wl353 (w_cons wl354 (w_cons wl353 (w_cons wl352 (w_cons wl351 (w_cons wl350 (w_cons wl349 (w_cons wl348 (w_cons wl346 (w_cons wl345 (w_cons wl344 (w_cons wl343 w_nil)))))))))))))))))))))))
set_option maxRecDepth 20000 in
theorem in_wsX11_then_r8 : ∀ w ∈ wsX11_then_r8, w ∈ lw_tbl := w_cons wl342 (w_cons wl341 (w_cons wl339 (w_cons wl378 (w_cons wl377 (w_cons wl376 (w_cons wl375 (w_cons wl357 (w_cons wl374 (w_cons wl778 (w_cons wl777 (w_cons wl776 (w_cons wl775 (w_cons wl774 (w_cons wl13 (w_cons wl800 (w_cons wl799 (w_cons wl798 (w_cons wl797 (w_cons wl796 (w_cons wl795 (w_cons wl794 (w_cons wl793 (w_cons wl792 w_nil)))))))))))))))))))))))
set_option maxRecDepth 20000 in
theorem in_wsX11_then_r9 : ∀ w ∈ wsX11_then_r9, w ∈ lw_tbl := w_cons wl791 (w_cons wl776 (w_cons wl790 (w_cons wl789 (w_cons wl788 (w_cons wl787 (w_cons wl786 (w_cons wl778 (w_cons wl785 (w_cons wl784 (w_cons wl783 (w_cons wl782 (w_cons wl781 (w_cons wl780 (w_cons wl779 (w_cons wl802 (w_cons wl801 (w_cons wl318 w_nil)))))))))))))))))
set_option maxRecDepth 20000 in
theorem in_wsX11_then : ∀ w ∈ wsX11_then, w ∈ lw_tbl := w_cons wl866 (w_app (w_app (w_app (w_app (in_wsX11_then_r1) (w_app (in_wsX11_then_r2) (w_app (in_wsX11_then_r3) (w_app (in_wsX11_then_r4) (w_app (in_wsX11_then_r5) (w_app (in_wsX11_then_r6) (w_app (in_wsX11_then_r7) (w_app (in_wsX11_then_r8) (in_wsX11_then_r9))))))))) (in_wsX110)) (in_wsX30)) (in_wsX90))
set_option maxRecDepth 20000 in
theorem in_wsX12_then_r1 : ∀ w ∈ wsX12_then_r1, w ∈ lw_tbl := w_cons wl885 (w_cons wl884 (w_cons wl194 (w_cons wl883 (w_cons wl819 (w_cons wl191 (w_cons wl190 (w_cons wl189 (w_cons wl404 (w_cons wl403 (w_cons wl402 (w_cons wl401 (w_cons wl136 (w_cons wl184 (w_cons wl183 (w_cons wl182 (w_cons wl181 (w_cons wl133 (w_cons wl180 (w_cons wl882 (w_cons wl881 (w_cons wl880 (w_cons wl879 (w_cons wl134 w_nil)))))))))))))))))))))))
set_option maxRecDepth 20000 in
theorem in_wsX12_then_r2 : ∀ w ∈ wsX12_then_r2, w ∈ lw_tbl := w_cons wl814 (w_cons wl813 (w_cons wl812 (w_cons wl811 (w_cons wl810 (w_cons wl809 (w_cons wl808 (w_cons wl807 (w_cons wl831 (w_cons wl830 (w_cons wl829 (w_cons wl828 (w_cons wl218 (w_cons wl217 (w_cons wl216 (w_cons wl215 (w_cons wl827 (w_cons wl826 (w_cons wl825 (w_cons wl824 (w_cons wl823 (w_cons wl822 (w_cons wl821 (w_cons wl820 w_nil)))))))))))))))))))))))
set_option maxRecDepth 20000 in
theorem in_wsX12_then_r3 : ∀ w ∈ wsX12_then_r3, w ∈ lw_tbl := w_cons wl416 (w_cons wl415 (w_cons wl414 (w_cons wl413 (w_cons wl132 (w_cons wl412 (w_cons wl411 (w_cons wl410 (w_cons wl409 (w_cons wl130 (w_cons wl408 (w_cons wl407 (w_cons wl406 (w_cons wl430 (w_cons wl429 (w_cons wl428 (w_cons wl306 (w_cons wl305 (w_cons wl304 (w_cons wl303 (w_cons wl835 (w_cons wl834 (w_cons wl833 (w_cons wl832 w_nil)))))))))))))))))))))))
set_option maxRecDepth 20000 in
theorem in_wsX12_then_r4 : ∀ w ∈ wsX12_then_r4, w ∈ lw_tbl := w_cons wl400 (w_cons wl399 (w_cons wl398 (w_cons wl397 (w_cons wl427 (w_cons wl426 (w_cons wl425 (w_cons wl424 (w_cons wl423 (w_cons wl422 (w_cons wl421 (w_cons wl420 (w_cons wl419 (w_cons wl418 (w_cons wl417 (w_cons wl839 (w_cons wl838 (w_cons wl837 (w_cons wl836 (w_cons wl889 (w_cons wl888 (w_cons wl887 (w_cons wl886 w_nil))))))))))))))))))))))
set_option maxRecDepth 20000 in
theorem in_wsX12_then : ∀ w ∈ wsX12_then, w ∈ lw_tbl := w_cons wl878 (w_app (w_app (in_wsX12_then_r1) (w_app (in_wsX12_then_r2) (w_app (in_wsX12_then_r3) (in_wsX12_then_r4)))) (in_wsX120))
set_option maxRecDepth 20000 in
theorem in_wsX11_spreads_r1 : ∀ w ∈ wsX11_spreads_r1, w ∈ lw_tbl := w_cons wl175 (w_cons wl43 (w_cons wl44 (w_cons wl207 (w_cons wl871 (w_cons wl870 (w_cons wl171 (w_cons wl869 (w_cons wl169 (w_cons wl168 (w_cons wl167 (w_cons wl166 (w_cons wl165 (w_cons wl164 (w_cons wl163 (w_cons wl32 (w_cons wl162 (w_cons wl868 (w_cons wl867 (w_cons wl874 (w_cons wl45 (w_cons wl873 (w_cons wl59 (w_cons wl872 w_nil)))))))))))))))))))))))
set_option maxRecDepth 20000 in
theorem in_wsX11_spreads_r2 : ∀ w ∈ wsX11_spreads_r2, w ∈ lw_tbl := w_cons wl529 (w_cons wl528 (w_cons wl527 (w_cons wl767 (w_cons wl719 (w_cons wl58 (w_cons wl57 (w_cons wl56 (w_cons wl202 (w_cons wl55 (w_cons wl54 (w_cons wl53 (w_cons wl51 (w_cons wl49 (w_cons wl723 (w_cons wl722 (w_cons wl721 (w_cons wl720 (w_cons wl718 (w_cons wl741 (w_cons wl740 (w_cons wl739 (w_cons wl85 (w_cons wl738 w_nil)))))))))))))))))))))))
set_option maxRecDepth 20000 in
theorem in_wsX11_spreads_r3 : ∀ w ∈ wsX11_spreads_r3, w ∈ lw_tbl := w_cons wl737 (w_cons wl736 (w_cons wl735 (w_cons wl734 (w_cons wl733 (w_cons wl367 (w_cons wl732 (w_cons wl731 (w_cons wl730 (w_cons wl729 (w_cons wl728 (w_cons wl727 (w_cons wl726 (w_cons wl757 (w_cons wl755 (w_cons wl19 (w_cons wl756 (w_cons wl755 (w_cons wl754 (w_cons wl753 (w_cons wl1 (w_cons wl752 (w_cons wl751 (w_cons wl750 w_nil)))))))))))))))))))))))
set_option maxRecDepth 20000 in
theorem in_wsX11_spreads_r4 : ∀ w ∈ wsX11_spreads_r4, w ∈ lw_tbl := w_cons wl347 (w_cons wl749 (w_cons wl10 (w_cons wl748 (w_cons wl747 (w_cons wl746 (w_cons wl16 (w_cons wl745 (w_cons wl744 (w_cons wl340 (w_cons wl743 (w_cons wl742 (w_cons wl4 (w_cons wl766 (w_cons wl765 (w_cons wl764 (w_cons wl763 (w_cons wl7 (w_cons wl762 (w_cons wl761 (w_cons wl760 (w_cons wl759 (w_cons wl727 (w_cons wl758 w_nil)))))))))))))))))))))))
set_option maxRecDepth 20000 in
theorem in_wsX11_spreads_r5 : ∀ w ∈ wsX11_spreads_r5, w ∈ lw_tbl := w_cons wl373 (w_cons wl372 (w_cons wl371 (w_cons wl370 (w_cons wl369 (w_cons wl368 (w_cons wl367 (w_cons wl366 (w_cons wl365 (w_cons wl364 (w_cons wl363 (w_cons wl362 (w_cons wl361 (w_cons wl360 (w_cons wl359 (w_cons wl358 (w_cons wl385 (w_cons wl384 (w_cons wl383 (w_cons wl382 (w_cons wl381 (w_cons wl380 (w_cons wl210 (w_cons wl209 w_nil)))))))))))))))))))))))
set_option maxRecDepth 20000 in
theorem in_wsX11_spreads_r6 : ∀ w ∈ wsX11_spreads_r6, w ∈ lw_tbl := w_cons wl208 (w_cons wl772 (w_cons wl437 (w_cons wl436 (w_cons wl435 (w_cons wl439 (w_cons wl771 (w_cons wl770 (w_cons wl769 (w_cons wl768 (w_cons wl773 (w_cons wl333 (w_cons wl332 (w_cons wl331 (w_cons wl330 (w_cons wl317 (w_cons wl316 (w_cons wl338 (w_cons wl337 (w_cons wl336 (w_cons wl335 (w_cons wl329 (w_cons wl328 (w_cons wl327 w_nil)))))))))))))))))))))))
set_option maxRecDepth 20000 in
theorem in_wsX11_spreads_r7 : ∀ w ∈ wsX11_spreads_r7, w ∈ lw_tbl := w_cons wl326 (w_cons wl325 (w_cons wl324 (w_cons wl323 (w_cons wl357 (w_cons wl356 (w_cons wl355 (w_cons wl353 (w_cons wl354 (w_cons wl353 (w_cons wl352 (w_cons wl351 (w_cons wl350 (w_cons wl349 (w_cons wl348 (w_cons wl346 (w_cons wl345 (w_cons wl344 (w_cons wl343 (w_cons wl342 (w_cons wl341 (w_cons wl339 (w_cons wl378 (w_cons wl377 w_nil)))))))))))))))))))))))
set_option maxRecDepth 20000 in
theorem in_wsX11_spreads_r8 : ∀ w ∈ wsX11_spreads_r8, w ∈ lw_tbl := w_cons wl376 (w_cons wl375 (w_cons wl357 (w_cons wl374 (w_cons wl778 (w_cons wl777 (w_cons wl776 (w_cons wl775 (w_cons wl774 (w_cons wl13 (w_cons wl800 (w_cons wl799 (w_cons wl798 (w_cons wl797 (w_cons wl796 (w_cons wl795 (w_cons wl794 (w_cons wl793 (w_cons wl792 (w_cons wl791 (w_cons wl776 (w_cons wl790 (w_cons wl789 (w_cons wl788 w_nil)))))))))))))))))))))))
set_option maxRecDepth 20000 in
theorem in_wsX11_spreads_r9 : ∀ w ∈ wsX11_spreads_r9, w ∈ lw_tbl := w_cons wl787 (w_cons wl786 (w_cons wl778 (w_cons wl785 (w_cons wl784 (w_cons wl783 (w_cons wl782 (w_cons wl781 (w_cons wl780 (w_cons wl779 (w_cons wl802 (w_cons wl801 (w_cons wl894 w_nil))))))))))))
set_option maxRecDepth 20000 in
theorem in_wsX11_spreads : ∀ w ∈ wsX11_spreads, w ∈ lw_tbl := w_cons wl893 (w_app (w_app (w_app (w_app (in_wsX11_spreads_r1) (w_app (in_wsX11_spreads_r2) (w_app (in_wsX11_spreads_r3) (w_app (in_wsX11_spreads_r4) (w_app (in_wsX11_spreads_r5) (w_app (in_wsX11_spreads_r6) (w_app (in_wsX11_spreads_r7) (w_app (in_wsX11_spreads_r8) (in_wsX11_spreads_r9))))))))) (in_wsX110)) (in_wsX30)) (in_wsX90))
set_option maxRecDepth 20000 in
theorem in_wsX12_spreads_r1 : ∀ w ∈ wsX12_spreads_r1, w ∈ lw_tbl := w_cons wl885 (w_cons wl884 (w_cons wl194 (w_cons wl883 (w_cons wl819 (w_cons wl191 (w_cons wl190 (w_cons wl189 (w_cons wl184 (w_cons wl183 (w_cons wl182 (w_cons wl181 (w_cons wl133 (w_cons wl180 (w_cons wl882 (w_cons wl881 (w_cons wl880 (w_cons wl879 (w_cons wl134 (w_cons wl136 (w_cons wl902 (w_cons wl901 (w_cons wl900 (w_cons wl899 w_nil)))))))))))))))))))))))
set_option maxRecDepth 20000 in
theorem in_wsX12_spreads_r2 : ∀ w ∈ wsX12_spreads_r2, w ∈ lw_tbl := w_cons wl814 (w_cons wl813 (w_cons wl812 (w_cons wl811 (w_cons wl810 (w_cons wl809 (w_cons wl808 (w_cons wl807 (w_cons wl404 (w_cons wl403 (w_cons wl402 (w_cons wl401 (w_cons wl831 (w_cons wl830 (w_cons wl829 (w_cons wl828 (w_cons wl218 (w_cons wl217 (w_cons wl216 (w_cons wl215 (w_cons wl827 (w_cons wl826 (w_cons wl825 (w_cons wl824 w_nil)))))))))))))))))))))))
set_option maxRecDepth 20000 in
theorem in_wsX12_spreads_r3 : ∀ w ∈ wsX12_spreads_r3, w ∈ lw_tbl := w_cons wl823 (w_cons wl822 (w_cons wl821 (w_cons wl820 (w_cons wl416 (w_cons wl415 (w_cons wl414 (w_cons wl413 (w_cons wl132 (w_cons wl412 (w_cons wl411 (w_cons wl410 (w_cons wl409 (w_cons wl130 (w_cons wl408 (w_cons wl407 (w_cons wl406 (w_cons wl430 (w_cons wl429 (w_cons wl428 (w_cons wl306 (w_cons wl305 (w_cons wl304 (w_cons wl303 w_nil)))))))))))))))))))))))
set_option maxRecDepth 20000 in
theorem in_wsX12_spreads_r4 : ∀ w ∈ wsX12_spreads_r4, w ∈ lw_tbl := w_cons wl835 (w_cons wl834 (w_cons wl833 (w_cons wl832 (w_cons wl400 (w_cons wl399 (w_cons wl398 (w_cons wl397 (w_cons wl427 (w_cons wl426 (w_cons wl425 (w_cons wl424 (w_cons wl423 (w_cons wl422 (w_cons wl421 (w_cons wl420 (w_cons wl419 (w_cons wl418 (w_cons wl417 (w_cons wl839 (w_cons wl838 (w_cons wl837 (w_cons wl836 (w_cons wl889 w_nil)))))))))))))))))))))))
set_option maxRecDepth 20000 in
theorem in_wsX12_spreads_r5 : ∀ w ∈ wsX12_spreads_r5, w ∈ lw_tbl := w_cons wl888 (w_cons wl887 (w_cons wl886 w_nil))
set_option maxRecDepth 20000 in
theorem in_wsX12_spreads : ∀ w ∈ wsX12_spreads, w ∈ lw_tbl := w_cons wl898 (w_app (w_app (in_wsX12_spreads_r1) (w_app (in_wsX12_spreads_r2) (w_app (in_wsX12_spreads_r3) (w_app (in_wsX12_spreads_r4) (in_wsX12_spreads_r5))))) (in_wsX120))
set_option maxRecDepth 20000 in
theorem in_wsX11_when_r1 : ∀ w ∈ wsX11_when_r1, w ∈ lw_tbl := w_cons wl175 (w_cons wl43 (w_cons wl44 (w_cons wl907 (w_cons wl173 (w_cons wl172 (w_cons wl171 (w_cons wl170 (w_cons wl169 (w_cons wl168 (w_cons wl167 (w_cons wl166 (w_cons wl165 (w_cons wl164 (w_cons wl163 (w_cons wl32 (w_cons wl162 (w_cons wl868 (w_cons wl867 (w_cons wl874 (w_cons wl45 (w_cons wl873 (w_cons wl59 (w_cons wl872 w_nil)))))))))))))))))))))))
set_option maxRecDepth 20000 in
theorem in_wsX11_when_r2 : ∀ w ∈ wsX11_when_r2, w ∈ lw_tbl := w_cons wl529 (w_cons wl528 (w_cons wl527 (w_cons wl767 (w_cons wl719 (w_cons wl58 (w_cons wl57 (w_cons wl56 (w_cons wl202 (w_cons wl55 (w_cons wl54 (w_cons wl53 (w_cons wl51 (w_cons wl49 (w_cons wl911 (w_cons wl910 (w_cons wl909 (w_cons wl908 (w_cons wl723 (w_cons wl722 (w_cons wl721 (w_cons wl720 (w_cons wl718 (w_cons wl741 w_nil)))))))))))))))))))))))
set_option maxRecDepth 20000 in
theorem in_wsX11_when_r3 : ∀ w ∈ wsX11_when_r3, w ∈ lw_tbl := w_cons wl740 (w_cons wl739 (w_cons wl85 (w_cons wl738 (w_cons wl737 (w_cons wl736 (w_cons wl735 (w_cons wl734 (w_cons wl733 (w_cons wl367 (w_cons wl732 (w_cons wl731 (w_cons wl730 (w_cons wl729 (w_cons wl728 (w_cons wl727 (w_cons wl726 (w_cons wl757 (w_cons wl755 (w_cons wl19 (w_cons wl756 (w_cons wl755 (w_cons wl754 (w_cons wl753 w_nil)))))))))))))))))))))))
set_option maxRecDepth 20000 in
theorem in_wsX11_when_r4 : ∀ w ∈ wsX11_when_r4, w ∈ lw_tbl := w_cons wl1 (w_cons wl752 (w_cons wl751 (w_cons wl750 (w_cons wl347 (w_cons wl749 (w_cons wl10 (w_cons wl748 (w_cons wl747 (w_cons wl746 (w_cons wl16 (w_cons wl745 (w_cons wl744 (w_cons wl340 (w_cons wl743 (w_cons wl742 (w_cons wl4 (w_cons wl766 (w_cons wl765 (w_cons wl764 (w_cons wl763 (w_cons wl7 (w_cons wl762 (w_cons wl761 w_nil)))))))))))))))))))))))
set_option maxRecDepth 20000 in
theorem in_wsX11_when_r5 : ∀ w ∈ wsX11_when_r5, w ∈ lw_tbl := w_cons wl760 (w_cons wl759 (w_cons wl727 (w_cons wl758 (w_cons wl373 (w_cons wl372 (w_cons wl371 (w_cons wl370 (w_cons wl369 (w_cons wl368 (w_cons wl367 (w_cons wl366 (w_cons wl365 (w_cons wl364 (w_cons wl363 (w_cons wl362 (w_cons wl361 (w_cons wl360 (w_cons wl359 (w_cons wl358 (w_cons wl385 (w_cons wl384 (w_cons wl383 (w_cons wl382 w_nil)))))))))))))))))))))))
set_option maxRecDepth 20000 in
theorem in_wsX11_when_r6 : ∀ w ∈ wsX11_when_r6, w ∈ lw_tbl := w_cons wl381 (w_cons wl380 (w_cons wl210 (w_cons wl209 (w_cons wl208 (w_cons wl772 (w_cons wl437 (w_cons wl436 (w_cons wl435 (w_cons wl439 (w_cons wl771 (w_cons wl770 (w_cons wl769 (w_cons wl768 (w_cons wl773 (w_cons wl333 (w_cons wl332 (w_cons wl331 (w_cons wl330 (w_cons wl317 (w_cons wl316 (w_cons wl338 (w_cons wl337 (w_cons wl336 w_nil)))))))))))))))))))))))
set_option maxRecDepth 20000 in
theorem in_wsX11_when_r7 : ∀ w ∈ wsX11_when_r7, w ∈ lw_tbl := w_cons wl335 (w_cons wl329 (w_cons wl328 (w_cons wl327 (w_cons wl326 (w_cons wl325 (w_cons wl324 (w_cons wl323 (w_cons wl357 (w_cons wl356 (w_cons wl355 (w_cons wl353 (w_cons wl354 (w_cons wl353 (w_cons wl352 (w_cons wl351 (w_cons wl350 (w_cons wl349 (w_cons wl348 (w_cons wl346 (w_cons wl345 (w_cons wl344 (w_cons wl343 (w_cons wl342 w_nil)))))))))))))))))))))))
set_option maxRecDepth 20000 in
theorem in_wsX11_when_r8 : ∀ w ∈ wsX11_when_r8, w ∈ lw_tbl := w_cons wl341 (w_cons wl339 (w_cons wl378 (w_cons wl377 (w_cons wl376 (w_cons wl375 (w_cons wl357 (w_cons wl374 (w_cons wl778 (w_cons wl777 (w_cons wl776 (w_cons wl775 (w_cons wl774 (w_cons wl13 (w_cons wl800 (w_cons wl799 (w_cons wl798 (w_cons wl797 (w_cons wl796 (w_cons wl795 (w_cons wl794 (w_cons wl793 (w_cons wl792 (w_cons wl791 w_nil)))))))))))))))))))))))
set_option maxRecDepth 20000 in
theorem in_wsX11_when_r9 : ∀ w ∈ wsX11_when_r9, w ∈ lw_tbl := w_cons wl776 (w_cons wl790 (w_cons wl789 (w_cons wl788 (w_cons wl787 (w_cons wl786 (w_cons wl778 (w_cons wl785 (w_cons wl784 (w_cons wl783 (w_cons wl782 (w_cons wl781 (w_cons wl780 (w_cons wl779 (w_cons wl802 (w_cons wl801 w_nil)))))))))))))))
set_option maxRecDepth 20000 in
theorem in_wsX11_when : ∀ w ∈ wsX11_when, w ∈ lw_tbl := w_cons wl906 (w_app (w_app (w_app (w_app (in_wsX11_when_r1) (w_app (in_wsX11_when_r2) (w_app (in_wsX11_when_r3) (w_app (in_wsX11_when_r4) (w_app (in_wsX11_when_r5) (w_app (in_wsX11_when_r6) (w_app (in_wsX11_when_r7) (w_app (in_wsX11_when_r8) (in_wsX11_when_r9))))))))) (in_wsX110)) (in_wsX30)) (in_wsX90))
set_option maxRecDepth 20000 in
theorem in_wsX12_when_r1 : ∀ w ∈ wsX12_when_r1, w ∈ lw_tbl := w_cons wl136 (w_cons wl196 (w_cons wl195 (w_cons wl194 (w_cons wl193 (w_cons wl192 (w_cons wl191 (w_cons wl190 (w_cons wl189 (w_cons wl184 (w_cons wl183 (w_cons wl182 (w_cons wl181 (w_cons wl133 (w_cons wl180 (w_cons wl882 (w_cons wl881 (w_cons wl880 (w_cons wl879 (w_cons wl134 (w_cons wl810 (w_cons wl809 (w_cons wl808 (w_cons wl807 w_nil)))))))))))))))))))))))
set_option maxRecDepth 20000 in
theorem in_wsX12_when_r2 : ∀ w ∈ wsX12_when_r2, w ∈ lw_tbl := w_cons wl404 (w_cons wl403 (w_cons wl402 (w_cons wl401 (w_cons wl831 (w_cons wl830 (w_cons wl829 (w_cons wl828 (w_cons wl218 (w_cons wl217 (w_cons wl216 (w_cons wl215 (w_cons wl827 (w_cons wl826 (w_cons wl825 (w_cons wl824 (w_cons wl823 (w_cons wl822 (w_cons wl821 (w_cons wl820 (w_cons wl416 (w_cons wl415 (w_cons wl414 (w_cons wl413 w_nil)))))))))))))))))))))))
set_option maxRecDepth 20000 in
theorem in_wsX12_when_r3 : ∀ w ∈ wsX12_when_r3, w ∈ lw_tbl := w_cons wl132 (w_cons wl412 (w_cons wl411 (w_cons wl410 (w_cons wl409 (w_cons wl130 (w_cons wl408 (w_cons wl407 (w_cons wl406 (w_cons wl430 (w_cons wl429 (w_cons wl428 (w_cons wl306 (w_cons wl305 (w_cons wl304 (w_cons wl303 (w_cons wl835 (w_cons wl834 (w_cons wl833 (w_cons wl832 (w_cons wl400 (w_cons wl399 (w_cons wl398 (w_cons wl397 w_nil)))))))))))))))))))))))
set_option maxRecDepth 20000 in
theorem in_wsX12_when_r4 : ∀ w ∈ wsX12_when_r4, w ∈ lw_tbl := w_cons wl427 (w_cons wl426 (w_cons wl425 (w_cons wl424 (w_cons wl423 (w_cons wl422 (w_cons wl421 (w_cons wl420 (w_cons wl419 (w_cons wl418 (w_cons wl417 (w_cons wl839 (w_cons wl838 (w_cons wl837 (w_cons wl836 (w_cons wl889 (w_cons wl888 (w_cons wl887 (w_cons wl886 w_nil))))))))))))))))))
set_option maxRecDepth 20000 in
theorem in_wsX12_when : ∀ w ∈ wsX12_when, w ∈ lw_tbl := w_cons wl915 (w_app (w_app (in_wsX12_when_r1) (w_app (in_wsX12_when_r2) (w_app (in_wsX12_when_r3) (in_wsX12_when_r4)))) (in_wsX120))
set_option maxRecDepth 20000 in
theorem in_wsX11_lasts_r1 : ∀ w ∈ wsX11_lasts_r1, w ∈ lw_tbl := w_cons wl175 (w_cons wl43 (w_cons wl44 (w_cons wl294 (w_cons wl907 (w_cons wl322 (w_cons wl321 (w_cons wl320 (w_cons wl171 (w_cons wl319 (w_cons wl298 (w_cons wl169 (w_cons wl168 (w_cons wl167 (w_cons wl166 (w_cons wl165 (w_cons wl164 (w_cons wl163 (w_cons wl32 (w_cons wl162 (w_cons wl868 (w_cons wl867 (w_cons wl874 (w_cons wl45 w_nil)))))))))))))))))))))))
set_option maxRecDepth 20000 in
theorem in_wsX11_lasts_r2 : ∀ w ∈ wsX11_lasts_r2, w ∈ lw_tbl := w_cons wl873 (w_cons wl59 (w_cons wl872 (w_cons wl529 (w_cons wl528 (w_cons wl527 (w_cons wl767 (w_cons wl719 (w_cons wl58 (w_cons wl57 (w_cons wl56 (w_cons wl202 (w_cons wl55 (w_cons wl54 (w_cons wl53 (w_cons wl51 (w_cons wl49 (w_cons wl723 (w_cons wl722 (w_cons wl721 (w_cons wl720 (w_cons wl718 (w_cons wl741 (w_cons wl740 w_nil)))))))))))))))))))))))
set_option maxRecDepth 20000 in
theorem in_wsX11_lasts_r3 : ∀ w ∈ wsX11_lasts_r3, w ∈ lw_tbl := w_cons wl739 (w_cons wl85 (w_cons wl738 (w_cons wl737 (w_cons wl736 (w_cons wl735 (w_cons wl734 (w_cons wl733 (w_cons wl367 (w_cons wl732 (w_cons wl731 (w_cons wl730 (w_cons wl729 (w_cons wl728 (w_cons wl727 (w_cons wl726 (w_cons wl757 (w_cons wl755 (w_cons wl19 (w_cons wl756 (w_cons wl755 (w_cons wl754 (w_cons wl753 (w_cons wl1 w_nil)))))))))))))))))))))))
set_option maxRecDepth 20000 in
theorem in_wsX11_lasts_r4 : ∀ w ∈ wsX11_lasts_r4, w ∈ lw_tbl := w_cons wl752 (w_cons wl751 (w_cons wl750 (w_cons wl347 (w_cons wl749 (w_cons wl10 (w_cons wl748 (w_cons wl747 (w_cons wl746 (w_cons wl16 (w_cons wl745 (w_cons wl744 (w_cons wl340 (w_cons wl743 (w_cons wl742 (w_cons wl4 (w_cons wl766 (w_cons wl765 (w_cons wl764 (w_cons wl763 (w_cons wl7 (w_cons wl762 (w_cons wl761 (w_cons wl760 w_nil)))))))))))))))))))))))
set_option maxRecDepth 20000 in
theorem in_wsX11_lasts_r5 : ∀ w ∈ wsX11_lasts_r5, w ∈ lw_tbl := w_cons wl759 (w_cons wl727 (w_cons wl758 (w_cons wl373 (w_cons wl372 (w_cons wl371 (w_cons wl370 (w_cons wl369 (w_cons wl368 (w_cons wl367 (w_cons wl366 (w_cons wl365 (w_cons wl364 (w_cons wl363 (w_cons wl362 (w_cons wl361 (w_cons wl360 (w_cons wl359 (w_cons wl358 (w_cons wl385 (w_cons wl384 (w_cons wl383 (w_cons wl382 (w_cons wl381 w_nil)))))))))))))))))))))))
set_option maxRecDepth 20000 in
theorem in_wsX11_lasts_r6 : ∀ w ∈ wsX11_lasts_r6, w ∈ lw_tbl := w_cons wl380 (w_cons wl210 (w_cons wl209 (w_cons wl208 (w_cons wl772 (w_cons wl437 (w_cons wl436 (w_cons wl435 (w_cons wl439 (w_cons wl771 (w_cons wl770 (w_cons wl769 (w_cons wl768 (w_cons wl773 (w_cons wl333 (w_cons wl332 (w_cons wl331 (w_cons wl330 (w_cons wl317 (w_cons wl316 (w_cons wl338 (w_cons wl337 (w_cons wl336 (w_cons wl335 w_nil)))))))))))))))))))))))
set_option maxRecDepth 20000 in
theorem in_wsX11_lasts_r7 : ∀ w ∈ wsX11_lasts_r7, w ∈ lw_tbl := w_cons wl329 (w_cons wl328 (w_cons wl327 (w_cons wl326 (w_cons wl325 (w_cons wl324 (w_cons wl323 (w_cons wl357 (w_cons wl356 (w_cons wl355 (w_cons wl353 (w_cons wl354 (w_cons wl353 (w_cons wl352 (w_cons wl351 (w_cons wl350 (w_cons wl349 (w_cons wl348 (w_cons wl346 (w_cons wl345 (w_cons wl344 (w_cons wl343 (w_cons wl342 (w_cons wl341 w_nil)))))))))))))))))))))))
set_option maxRecDepth 20000 in
theorem in_wsX11_lasts_r8 : ∀ w ∈ wsX11_lasts_r8, w ∈ lw_tbl := w_cons wl339 (w_cons wl378 (w_cons wl377 (w_cons wl376 (w_cons wl375 (w_cons wl357 (w_cons wl374 (w_cons wl778 (w_cons wl777 (w_cons wl776 (w_cons wl775 (w_cons wl774 (w_cons wl13 (w_cons wl800 (w_cons wl799 (w_cons wl798 (w_cons wl797 (w_cons wl796 (w_cons wl795 (w_cons wl794 (w_cons wl793 (w_cons wl792 (w_cons wl791 (w_cons wl776 w_nil)))))))))))))))))))))))
set_option maxRecDepth 20000 in
theorem in_wsX11_lasts_r9 : ∀ w ∈ wsX11_lasts_r9, w ∈ lw_tbl := w_cons wl790 (w_cons wl789 (w_cons wl788 (w_cons wl787 (w_cons wl786 (w_cons wl778 (w_cons wl785 (w_cons wl784 (w_cons wl783 (w_cons wl782 (w_cons wl781 (w_cons wl780 (w_cons wl779 (w_cons wl802 (w_cons wl801 w_nil))))))))))))))
set_option maxRecDepth 20000 in
theorem in_wsX11_lasts : ∀ w ∈ wsX11_lasts, w ∈ lw_tbl := w_cons wl919 (w_app (w_app (w_app (w_app (in_wsX11_lasts_r1) (w_app (in_wsX11_lasts_r2) (w_app (in_wsX11_lasts_r3) (w_app (in_wsX11_lasts_r4) (w_app (in_wsX11_lasts_r5) (w_app (in_wsX11_lasts_r6) (w_app (in_wsX11_lasts_r7) (w_app (in_wsX11_lasts_r8) (in_wsX11_lasts_r9))))))))) (in_wsX110)) (in_wsX30)) (in_wsX90))
set_option maxRecDepth 20000 in
theorem in_wsX12_lasts_r1 : ∀ w ∈ wsX12_lasts_r1, w ∈ lw_tbl := w_cons wl404 (w_cons wl403 (w_cons wl402 (w_cons wl194 (w_cons wl401 (w_cons wl136 (w_cons wl191 (w_cons wl190 (w_cons wl189 (w_cons wl184 (w_cons wl183 (w_cons wl182 (w_cons wl181 (w_cons wl133 (w_cons wl180 (w_cons wl882 (w_cons wl881 (w_cons wl880 (w_cons wl879 (w_cons wl134 (w_cons wl831 (w_cons wl830 (w_cons wl829 (w_cons wl828 w_nil)))))))))))))))))))))))
set_option maxRecDepth 20000 in
theorem in_wsX12_lasts_r2 : ∀ w ∈ wsX12_lasts_r2, w ∈ lw_tbl := w_cons wl218 (w_cons wl217 (w_cons wl216 (w_cons wl215 (w_cons wl810 (w_cons wl809 (w_cons wl808 (w_cons wl807 (w_cons wl827 (w_cons wl826 (w_cons wl825 (w_cons wl824 (w_cons wl823 (w_cons wl822 (w_cons wl821 (w_cons wl820 (w_cons wl416 (w_cons wl415 (w_cons wl414 (w_cons wl413 (w_cons wl132 (w_cons wl412 (w_cons wl411 (w_cons wl410 w_nil)))))))))))))))))))))))
set_option maxRecDepth 20000 in
theorem in_wsX12_lasts_r3 : ∀ w ∈ wsX12_lasts_r3, w ∈ lw_tbl := w_cons wl409 (w_cons wl130 (w_cons wl408 (w_cons wl407 (w_cons wl406 (w_cons wl430 (w_cons wl429 (w_cons wl428 (w_cons wl306 (w_cons wl305 (w_cons wl304 (w_cons wl303 (w_cons wl835 (w_cons wl834 (w_cons wl833 (w_cons wl832 (w_cons wl400 (w_cons wl399 (w_cons wl398 (w_cons wl397 (w_cons wl427 (w_cons wl426 (w_cons wl425 (w_cons wl424 w_nil)))))))))))))))))))))))
set_option maxRecDepth 20000 in
theorem in_wsX12_lasts_r4 : ∀ w ∈ wsX12_lasts_r4, w ∈ lw_tbl := w_cons wl423 (w_cons wl422 (w_cons wl421 (w_cons wl420 (w_cons wl419 (w_cons wl418 (w_cons wl417 (w_cons wl839 (w_cons wl838 (w_cons wl837 (w_cons wl836 (w_cons wl889 (w_cons wl888 (w_cons wl887 (w_cons wl886 w_nil))))))))))))))
set_option maxRecDepth 20000 in
theorem in_wsX12_lasts : ∀ w ∈ wsX12_lasts, w ∈ lw_tbl := w_cons wl923 (w_app (w_app (in_wsX12_lasts_r1) (w_app (in_wsX12_lasts_r2) (w_app (in_wsX12_lasts_r3) (in_wsX12_lasts_r4)))) (in_wsX120))
set_option maxRecDepth 20000 in
theorem in_wsX11_silverFor_r1 : ∀ w ∈ wsX11_silverFor_r1, w ∈ lw_tbl := w_cons wl175 (w_cons wl43 (w_cons wl44 (w_cons wl294 (w_cons wl907 (w_cons wl322 (w_cons wl321 (w_cons wl320 (w_cons wl171 (w_cons wl319 (w_cons wl298 (w_cons wl169 (w_cons wl168 (w_cons wl167 (w_cons wl871 (w_cons wl870 (w_cons wl869 (w_cons wl166 (w_cons wl165 (w_cons wl164 (w_cons wl163 (w_cons wl32 (w_cons wl162 (w_cons wl868 w_nil)))))))))))))))))))))))
set_option maxRecDepth 20000 in
theorem in_wsX11_silverFor_r2 : ∀ w ∈ wsX11_silverFor_r2, w ∈ lw_tbl := w_cons wl867 (w_cons wl874 (w_cons wl45 (w_cons wl873 (w_cons wl59 (w_cons wl872 (w_cons wl529 (w_cons wl528 (w_cons wl527 (w_cons wl767 (w_cons wl719 (w_cons wl58 (w_cons wl57 (w_cons wl56 (w_cons wl202 (w_cons wl55 (w_cons wl54 (w_cons wl53 (w_cons wl51 (w_cons wl49 (w_cons wl723 (w_cons wl722 (w_cons wl721 (w_cons wl720 w_nil)))))))))))))))))))))))
set_option maxRecDepth 20000 in
theorem in_wsX11_silverFor_r3 : ∀ w ∈ wsX11_silverFor_r3, w ∈ lw_tbl := w_cons wl718 (w_cons wl741 (w_cons wl740 (w_cons wl739 (w_cons wl85 (w_cons wl738 (w_cons wl737 (w_cons wl736 (w_cons wl735 (w_cons wl734 (w_cons wl733 (w_cons wl367 (w_cons wl732 (w_cons wl731 (w_cons wl730 (w_cons wl729 (w_cons wl728 (w_cons wl727 (w_cons wl726 (w_cons wl757 (w_cons wl755 (w_cons wl19 (w_cons wl756 (w_cons wl755 w_nil)))))))))))))))))))))))
set_option maxRecDepth 20000 in
theorem in_wsX11_silverFor_r4 : ∀ w ∈ wsX11_silverFor_r4, w ∈ lw_tbl := w_cons wl754 (w_cons wl753 (w_cons wl1 (w_cons wl752 (w_cons wl751 (w_cons wl750 (w_cons wl347 (w_cons wl749 (w_cons wl10 (w_cons wl748 (w_cons wl747 (w_cons wl746 (w_cons wl16 (w_cons wl745 (w_cons wl744 (w_cons wl340 (w_cons wl743 (w_cons wl742 (w_cons wl4 (w_cons wl766 (w_cons wl765 (w_cons wl764 (w_cons wl763 (w_cons wl7 w_nil)))))))))))))))))))))))
set_option maxRecDepth 20000 in
theorem in_wsX11_silverFor_r5 : ∀ w ∈ wsX11_silverFor_r5, w ∈ lw_tbl := w_cons wl762 (w_cons wl761 (w_cons wl760 (w_cons wl759 (w_cons wl727 (w_cons wl758 (w_cons wl373 (w_cons wl372 (w_cons wl371 (w_cons wl370 (w_cons wl369 (w_cons wl368 (w_cons wl367 (w_cons wl366 (w_cons wl365 (w_cons wl364 (w_cons wl363 (w_cons wl362 (w_cons wl361 (w_cons wl360 (w_cons wl359 (w_cons wl358 (w_cons wl385 (w_cons wl384 w_nil)))))))))))))))))))))))
set_option maxRecDepth 20000 in
theorem in_wsX11_silverFor_r6 : ∀ w ∈ wsX11_silverFor_r6, w ∈ lw_tbl := w_cons wl383 (w_cons wl382 (w_cons wl381 (w_cons wl380 (w_cons wl210 (w_cons wl209 (w_cons wl208 (w_cons wl772 (w_cons wl437 (w_cons wl436 (w_cons wl435 (w_cons wl439 (w_cons wl771 (w_cons wl770 (w_cons wl769 (w_cons wl768 (w_cons wl773 (w_cons wl333 (w_cons wl332 (w_cons wl331 (w_cons wl330 (w_cons wl317 (w_cons wl316 (w_cons wl338 w_nil)))))))))))))))))))))))
set_option maxRecDepth 20000 in
theorem in_wsX11_silverFor_r7 : ∀ w ∈ wsX11_silverFor_r7, w ∈ lw_tbl := w_cons wl337 (w_cons wl336 (w_cons wl335 (w_cons wl329 (w_cons wl328 (w_cons wl327 (w_cons wl326 (w_cons wl325 (w_cons wl324 (w_cons wl323 (w_cons wl357 (w_cons wl356 (w_cons wl355 (w_cons wl353 (w_cons wl354 (w_cons wl353 (w_cons wl352 (w_cons wl351 (w_cons wl350 (w_cons wl349 (w_cons wl348 (w_cons wl346 (w_cons wl345 (w_cons wl344 w_nil)))))))))))))))))))))))
set_option maxRecDepth 20000 in
theorem in_wsX11_silverFor_r8 : ∀ w ∈ wsX11_silverFor_r8, w ∈ lw_tbl := w_cons wl343 (w_cons wl342 (w_cons wl341 (w_cons wl339 (w_cons wl378 (w_cons wl377 (w_cons wl376 (w_cons wl375 (w_cons wl357 (w_cons wl374 (w_cons wl778 (w_cons wl777 (w_cons wl776 (w_cons wl775 (w_cons wl774 (w_cons wl13 (w_cons wl800 (w_cons wl799 (w_cons wl798 (w_cons wl797 (w_cons wl796 (w_cons wl795 (w_cons wl794 (w_cons wl793 w_nil)))))))))))))))))))))))
set_option maxRecDepth 20000 in
theorem in_wsX11_silverFor_r9 : ∀ w ∈ wsX11_silverFor_r9, w ∈ lw_tbl := w_cons wl792 (w_cons wl791 (w_cons wl776 (w_cons wl790 (w_cons wl789 (w_cons wl788 (w_cons wl787 (w_cons wl786 (w_cons wl778 (w_cons wl785 (w_cons wl784 (w_cons wl783 (w_cons wl782 (w_cons wl781 (w_cons wl780 (w_cons wl779 (w_cons wl802 (w_cons wl801 w_nil)))))))))))))))))
set_option maxRecDepth 20000 in
theorem in_wsX11_silverFor : ∀ w ∈ wsX11_silverFor, w ∈ lw_tbl := w_cons wl927 (w_app (w_app (w_app (w_app (in_wsX11_silverFor_r1) (w_app (in_wsX11_silverFor_r2) (w_app (in_wsX11_silverFor_r3) (w_app (in_wsX11_silverFor_r4) (w_app (in_wsX11_silverFor_r5) (w_app (in_wsX11_silverFor_r6) (w_app (in_wsX11_silverFor_r7) (w_app (in_wsX11_silverFor_r8) (in_wsX11_silverFor_r9))))))))) (in_wsX110)) (in_wsX30)) (in_wsX90))
set_option maxRecDepth 20000 in
theorem in_wsX12_silverFor_r1 : ∀ w ∈ wsX12_silverFor_r1, w ∈ lw_tbl := w_cons wl404 (w_cons wl403 (w_cons wl402 (w_cons wl194 (w_cons wl401 (w_cons wl136 (w_cons wl191 (w_cons wl190 (w_cons wl189 (w_cons wl885 (w_cons wl884 (w_cons wl883 (w_cons wl819 (w_cons wl184 (w_cons wl183 (w_cons wl182 (w_cons wl181 (w_cons wl133 (w_cons wl180 (w_cons wl882 (w_cons wl881 (w_cons wl880 (w_cons wl879 (w_cons wl134 w_nil)))))))))))))))))))))))
set_option maxRecDepth 20000 in
theorem in_wsX12_silverFor_r2 : ∀ w ∈ wsX12_silverFor_r2, w ∈ lw_tbl := w_cons wl306 (w_cons wl305 (w_cons wl304 (w_cons wl303 (w_cons wl814 (w_cons wl813 (w_cons wl812 (w_cons wl811 (w_cons wl810 (w_cons wl809 (w_cons wl808 (w_cons wl807 (w_cons wl831 (w_cons wl830 (w_cons wl829 (w_cons wl828 (w_cons wl218 (w_cons wl217 (w_cons wl216 (w_cons wl215 (w_cons wl827 (w_cons wl826 (w_cons wl825 (w_cons wl824 w_nil)))))))))))))))))))))))
set_option maxRecDepth 20000 in
theorem in_wsX12_silverFor_r3 : ∀ w ∈ wsX12_silverFor_r3, w ∈ lw_tbl := w_cons wl823 (w_cons wl822 (w_cons wl821 (w_cons wl820 (w_cons wl416 (w_cons wl415 (w_cons wl414 (w_cons wl413 (w_cons wl132 (w_cons wl412 (w_cons wl411 (w_cons wl410 (w_cons wl409 (w_cons wl130 (w_cons wl408 (w_cons wl407 (w_cons wl406 (w_cons wl430 (w_cons wl429 (w_cons wl428 (w_cons wl835 (w_cons wl834 (w_cons wl833 (w_cons wl832 w_nil)))))))))))))))))))))))
set_option maxRecDepth 20000 in
theorem in_wsX12_silverFor_r4 : ∀ w ∈ wsX12_silverFor_r4, w ∈ lw_tbl := w_cons wl400 (w_cons wl399 (w_cons wl398 (w_cons wl397 (w_cons wl427 (w_cons wl426 (w_cons wl425 (w_cons wl424 (w_cons wl423 (w_cons wl422 (w_cons wl421 (w_cons wl420 (w_cons wl419 (w_cons wl418 (w_cons wl417 (w_cons wl839 (w_cons wl838 (w_cons wl837 (w_cons wl836 (w_cons wl889 (w_cons wl888 (w_cons wl887 (w_cons wl886 w_nil))))))))))))))))))))))
set_option maxRecDepth 20000 in
theorem in_wsX12_silverFor : ∀ w ∈ wsX12_silverFor, w ∈ lw_tbl := w_cons wl931 (w_app (w_app (in_wsX12_silverFor_r1) (w_app (in_wsX12_silverFor_r2) (w_app (in_wsX12_silverFor_r3) (in_wsX12_silverFor_r4)))) (in_wsX120))
set_option maxRecDepth 20000 in
theorem in_wsX11_washFor_r1 : ∀ w ∈ wsX11_washFor_r1, w ∈ lw_tbl := w_cons wl175 (w_cons wl43 (w_cons wl44 (w_cons wl275 (w_cons wl207 (w_cons wl169 (w_cons wl168 (w_cons wl171 (w_cons wl167 (w_cons wl871 (w_cons wl870 (w_cons wl869 (w_cons wl166 (w_cons wl165 (w_cons wl164 (w_cons wl163 (w_cons wl32 (w_cons wl162 (w_cons wl868 (w_cons wl867 (w_cons wl874 (w_cons wl45 (w_cons wl873 (w_cons wl59 w_nil)))))))))))))))))))))))
set_option maxRecDepth 20000 in
theorem in_wsX11_washFor_r2 : ∀ w ∈ wsX11_washFor_r2, w ∈ lw_tbl := w_cons wl872 (w_cons wl529 (w_cons wl528 (w_cons wl527 (w_cons wl767 (w_cons wl719 (w_cons wl58 (w_cons wl57 (w_cons wl56 (w_cons wl202 (w_cons wl55 (w_cons wl54 (w_cons wl53 (w_cons wl51 (w_cons wl49 (w_cons wl723 (w_cons wl722 (w_cons wl721 (w_cons wl720 (w_cons wl718 (w_cons wl741 (w_cons wl740 (w_cons wl739 (w_cons wl85 w_nil)))))))))))))))))))))))
set_option maxRecDepth 20000 in
theorem in_wsX11_washFor_r3 : ∀ w ∈ wsX11_washFor_r3, w ∈ lw_tbl := w_cons wl738 (w_cons wl737 (w_cons wl736 (w_cons wl735 (w_cons wl734 (w_cons wl733 (w_cons wl367 (w_cons wl732 (w_cons wl731 (w_cons wl730 (w_cons wl729 (w_cons wl728 (w_cons wl727 (w_cons wl726 (w_cons wl757 (w_cons wl755 (w_cons wl19 (w_cons wl756 (w_cons wl755 (w_cons wl754 (w_cons wl753 (w_cons wl1 (w_cons wl752 (w_cons wl751 w_nil)))))))))))))))))))))))
set_option maxRecDepth 20000 in
theorem in_wsX11_washFor_r4 : ∀ w ∈ wsX11_washFor_r4, w ∈ lw_tbl := w_cons wl750 (w_cons wl347 (w_cons wl749 (w_cons wl10 (w_cons wl748 (w_cons wl747 (w_cons wl746 (w_cons wl16 (w_cons wl745 (w_cons wl744 (w_cons wl340 (w_cons wl743 (w_cons wl742 (w_cons wl4 (w_cons wl766 (w_cons wl765 (w_cons wl764 (w_cons wl763 (w_cons wl7 (w_cons wl762 (w_cons wl761 (w_cons wl760 (w_cons wl759 (w_cons wl727 w_nil)))))))))))))))))))))))
set_option maxRecDepth 20000 in
theorem in_wsX11_washFor_r5 : ∀ w ∈ wsX11_washFor_r5, w ∈ lw_tbl := w_cons wl758 (w_cons wl373 (w_cons wl372 (w_cons wl371 (w_cons wl370 (w_cons wl369 (w_cons wl368 (w_cons wl367 (w_cons wl366 (w_cons wl365 (w_cons wl364 (w_cons wl363 (w_cons wl362 (w_cons wl361 (w_cons wl360 (w_cons wl359 (w_cons wl358 (w_cons wl385 (w_cons wl384 (w_cons wl383 (w_cons wl382 (w_cons wl381 (w_cons wl380 (w_cons wl210 w_nil)))))))))))))))))))))))
set_option maxRecDepth 20000 in
theorem in_wsX11_washFor_r6 : ∀ w ∈ wsX11_washFor_r6, w ∈ lw_tbl := w_cons wl209 (w_cons wl208 (w_cons wl772 (w_cons wl437 (w_cons wl436 (w_cons wl435 (w_cons wl439 (w_cons wl771 (w_cons wl770 (w_cons wl769 (w_cons wl768 (w_cons wl773 (w_cons wl333 (w_cons wl332 (w_cons wl331 (w_cons wl330 (w_cons wl317 (w_cons wl316 (w_cons wl338 (w_cons wl337 (w_cons wl336 (w_cons wl335 (w_cons wl329 (w_cons wl328 w_nil)))))))))))))))))))))))
set_option maxRecDepth 20000 in
theorem in_wsX11_washFor_r7 : ∀ w ∈ wsX11_washFor_r7, w ∈ lw_tbl := w_cons wl327 (w_cons wl326 (w_cons wl325 (w_cons wl324 (w_cons wl323 (w_cons wl357 (w_cons wl356 (w_cons wl355 (w_cons wl353 (w_cons wl354 (w_cons wl353 (w_cons wl352 (w_cons wl351 (w_cons wl350 (w_cons wl349 (w_cons wl348 (w_cons wl346 (w_cons wl345 (w_cons wl344 (w_cons wl343 (w_cons wl342 (w_cons wl341 (w_cons wl339 (w_cons wl378 w_nil)))))))))))))))))))))))
set_option maxRecDepth 20000 in
theorem in_wsX11_washFor_r8 : ∀ w ∈ wsX11_washFor_r8, w ∈ lw_tbl := w_cons wl377 (w_cons wl376 (w_cons wl375 (w_cons wl357 (w_cons wl374 (w_cons wl778 (w_cons wl777 (w_cons wl776 (w_cons wl775 (w_cons wl774 (w_cons wl13 (w_cons wl800 (w_cons wl799 (w_cons wl798 (w_cons wl797 (w_cons wl796 (w_cons wl795 (w_cons wl794 (w_cons wl793 (w_cons wl792 (w_cons wl791 (w_cons wl776 (w_cons wl790 (w_cons wl789 w_nil)))))))))))))))))))))))
set_option maxRecDepth 20000 in
theorem in_wsX11_washFor_r9 : ∀ w ∈ wsX11_washFor_r9, w ∈ lw_tbl := w_cons wl788 (w_cons wl787 (w_cons wl786 (w_cons wl778 (w_cons wl785 (w_cons wl784 (w_cons wl783 (w_cons wl782 (w_cons wl781 (w_cons wl780 (w_cons wl779 (w_cons wl802 (w_cons wl801 (w_cons wl894 w_nil)))))))))))))
set_option maxRecDepth 20000 in
theorem in_wsX11_washFor : ∀ w ∈ wsX11_washFor, w ∈ lw_tbl := w_cons wl935 (w_app (w_app (w_app (w_app (in_wsX11_washFor_r1) (w_app (in_wsX11_washFor_r2) (w_app (in_wsX11_washFor_r3) (w_app (in_wsX11_washFor_r4) (w_app (in_wsX11_washFor_r5) (w_app (in_wsX11_washFor_r6) (w_app (in_wsX11_washFor_r7) (w_app (in_wsX11_washFor_r8) (in_wsX11_washFor_r9))))))))) (in_wsX110)) (in_wsX30)) (in_wsX90))
set_option maxRecDepth 20000 in
theorem in_wsX12_washFor_r1 : ∀ w ∈ wsX12_washFor_r1, w ∈ lw_tbl := w_cons wl280 (w_cons wl191 (w_cons wl190 (w_cons wl194 (w_cons wl189 (w_cons wl885 (w_cons wl884 (w_cons wl883 (w_cons wl819 (w_cons wl943 (w_cons wl942 (w_cons wl941 (w_cons wl940 (w_cons wl136 (w_cons wl882 (w_cons wl881 (w_cons wl880 (w_cons wl879 (w_cons wl134 (w_cons wl902 (w_cons wl901 (w_cons wl900 (w_cons wl899 (w_cons wl814 w_nil)))))))))))))))))))))))
set_option maxRecDepth 20000 in
theorem in_wsX12_washFor_r2 : ∀ w ∈ wsX12_washFor_r2, w ∈ lw_tbl := w_cons wl813 (w_cons wl812 (w_cons wl811 (w_cons wl810 (w_cons wl809 (w_cons wl808 (w_cons wl807 (w_cons wl404 (w_cons wl403 (w_cons wl402 (w_cons wl401 (w_cons wl831 (w_cons wl830 (w_cons wl829 (w_cons wl828 (w_cons wl218 (w_cons wl217 (w_cons wl216 (w_cons wl215 (w_cons wl827 (w_cons wl826 (w_cons wl825 (w_cons wl824 (w_cons wl823 w_nil)))))))))))))))))))))))
set_option maxRecDepth 20000 in
theorem in_wsX12_washFor_r3 : ∀ w ∈ wsX12_washFor_r3, w ∈ lw_tbl := w_cons wl822 (w_cons wl821 (w_cons wl820 (w_cons wl416 (w_cons wl415 (w_cons wl414 (w_cons wl413 (w_cons wl132 (w_cons wl412 (w_cons wl411 (w_cons wl410 (w_cons wl409 (w_cons wl130 (w_cons wl408 (w_cons wl407 (w_cons wl406 (w_cons wl430 (w_cons wl429 (w_cons wl428 (w_cons wl306 (w_cons wl305 (w_cons wl304 (w_cons wl303 (w_cons wl835 w_nil)))))))))))))))))))))))
set_option maxRecDepth 20000 in
theorem in_wsX12_washFor_r4 : ∀ w ∈ wsX12_washFor_r4, w ∈ lw_tbl := w_cons wl834 (w_cons wl833 (w_cons wl832 (w_cons wl400 (w_cons wl399 (w_cons wl398 (w_cons wl397 (w_cons wl427 (w_cons wl426 (w_cons wl425 (w_cons wl424 (w_cons wl423 (w_cons wl422 (w_cons wl421 (w_cons wl420 (w_cons wl419 (w_cons wl418 (w_cons wl417 (w_cons wl839 (w_cons wl838 (w_cons wl837 (w_cons wl836 (w_cons wl889 (w_cons wl888 w_nil)))))))))))))))))))))))
set_option maxRecDepth 20000 in
theorem in_wsX12_washFor_r5 : ∀ w ∈ wsX12_washFor_r5, w ∈ lw_tbl := w_cons wl887 (w_cons wl886 (w_cons wl184 (w_cons wl183 (w_cons wl182 (w_cons wl181 (w_cons wl133 (w_cons wl180 w_nil)))))))
set_option maxRecDepth 20000 in
theorem in_wsX12_washFor : ∀ w ∈ wsX12_washFor, w ∈ lw_tbl := w_cons wl939 (w_app (w_app (in_wsX12_washFor_r1) (w_app (in_wsX12_washFor_r2) (w_app (in_wsX12_washFor_r3) (w_app (in_wsX12_washFor_r4) (in_wsX12_washFor_r5))))) (in_wsX120))
set_option maxRecDepth 20000 in
theorem in_wsX11_kindFor_r1 : ∀ w ∈ wsX11_kindFor_r1, w ∈ lw_tbl := w_cons wl175 (w_cons wl43 (w_cons wl44 (w_cons wl296 (w_cons wl207 (w_cons wl322 (w_cons wl321 (w_cons wl320 (w_cons wl171 (w_cons wl319 (w_cons wl298 (w_cons wl169 (w_cons wl168 (w_cons wl167 (w_cons wl871 (w_cons wl870 (w_cons wl869 (w_cons wl166 (w_cons wl165 (w_cons wl164 (w_cons wl163 (w_cons wl32 (w_cons wl162 (w_cons wl868 w_nil)))))))))))))))))))))))
set_option maxRecDepth 20000 in
theorem in_wsX11_kindFor_r2 : ∀ w ∈ wsX11_kindFor_r2, w ∈ lw_tbl := w_cons wl867 (w_cons wl874 (w_cons wl45 (w_cons wl873 (w_cons wl59 (w_cons wl872 (w_cons wl529 (w_cons wl528 (w_cons wl527 (w_cons wl767 (w_cons wl719 (w_cons wl58 (w_cons wl57 (w_cons wl56 (w_cons wl202 (w_cons wl55 (w_cons wl54 (w_cons wl53 (w_cons wl51 (w_cons wl49 (w_cons wl723 (w_cons wl722 (w_cons wl721 (w_cons wl720 w_nil)))))))))))))))))))))))
set_option maxRecDepth 20000 in
theorem in_wsX11_kindFor_r3 : ∀ w ∈ wsX11_kindFor_r3, w ∈ lw_tbl := w_cons wl718 (w_cons wl741 (w_cons wl740 (w_cons wl739 (w_cons wl85 (w_cons wl738 (w_cons wl737 (w_cons wl736 (w_cons wl735 (w_cons wl734 (w_cons wl733 (w_cons wl367 (w_cons wl732 (w_cons wl731 (w_cons wl730 (w_cons wl729 (w_cons wl728 (w_cons wl727 (w_cons wl726 (w_cons wl757 (w_cons wl755 (w_cons wl19 (w_cons wl756 (w_cons wl755 w_nil)))))))))))))))))))))))
set_option maxRecDepth 20000 in
theorem in_wsX11_kindFor_r4 : ∀ w ∈ wsX11_kindFor_r4, w ∈ lw_tbl := w_cons wl754 (w_cons wl753 (w_cons wl1 (w_cons wl752 (w_cons wl751 (w_cons wl750 (w_cons wl347 (w_cons wl749 (w_cons wl10 (w_cons wl748 (w_cons wl747 (w_cons wl746 (w_cons wl16 (w_cons wl745 (w_cons wl744 (w_cons wl340 (w_cons wl743 (w_cons wl742 (w_cons wl4 (w_cons wl766 (w_cons wl765 (w_cons wl764 (w_cons wl763 (w_cons wl7 w_nil)))))))))))))))))))))))
set_option maxRecDepth 20000 in
theorem in_wsX11_kindFor_r5 : ∀ w ∈ wsX11_kindFor_r5, w ∈ lw_tbl := w_cons wl762 (w_cons wl761 (w_cons wl760 (w_cons wl759 (w_cons wl727 (w_cons wl758 (w_cons wl373 (w_cons wl372 (w_cons wl371 (w_cons wl370 (w_cons wl369 (w_cons wl368 (w_cons wl367 (w_cons wl366 (w_cons wl365 (w_cons wl364 (w_cons wl363 (w_cons wl362 (w_cons wl361 (w_cons wl360 (w_cons wl359 (w_cons wl358 (w_cons wl385 (w_cons wl384 w_nil)))))))))))))))))))))))
set_option maxRecDepth 20000 in
theorem in_wsX11_kindFor_r6 : ∀ w ∈ wsX11_kindFor_r6, w ∈ lw_tbl := w_cons wl383 (w_cons wl382 (w_cons wl381 (w_cons wl380 (w_cons wl210 (w_cons wl209 (w_cons wl208 (w_cons wl772 (w_cons wl437 (w_cons wl436 (w_cons wl435 (w_cons wl439 (w_cons wl771 (w_cons wl770 (w_cons wl769 (w_cons wl768 (w_cons wl773 (w_cons wl333 (w_cons wl332 (w_cons wl331 (w_cons wl330 (w_cons wl317 (w_cons wl316 (w_cons wl338 w_nil)))))))))))))))))))))))
set_option maxRecDepth 20000 in
theorem in_wsX11_kindFor_r7 : ∀ w ∈ wsX11_kindFor_r7, w ∈ lw_tbl := w_cons wl337 (w_cons wl336 (w_cons wl335 (w_cons wl329 (w_cons wl328 (w_cons wl327 (w_cons wl326 (w_cons wl325 (w_cons wl324 (w_cons wl323 (w_cons wl357 (w_cons wl356 (w_cons wl355 (w_cons wl353 (w_cons wl354 (w_cons wl353 (w_cons wl352 (w_cons wl351 (w_cons wl350 (w_cons wl349 (w_cons wl348 (w_cons wl346 (w_cons wl345 (w_cons wl344 w_nil)))))))))))))))))))))))
set_option maxRecDepth 20000 in
theorem in_wsX11_kindFor_r8 : ∀ w ∈ wsX11_kindFor_r8, w ∈ lw_tbl := w_cons wl343 (w_cons wl342 (w_cons wl341 (w_cons wl339 (w_cons wl378 (w_cons wl377 (w_cons wl376 (w_cons wl375 (w_cons wl357 (w_cons wl374 (w_cons wl778 (w_cons wl777 (w_cons wl776 (w_cons wl775 (w_cons wl774 (w_cons wl13 (w_cons wl800 (w_cons wl799 (w_cons wl798 (w_cons wl797 (w_cons wl796 (w_cons wl795 (w_cons wl794 (w_cons wl793 w_nil)))))))))))))))))))))))
set_option maxRecDepth 20000 in
theorem in_wsX11_kindFor_r9 : ∀ w ∈ wsX11_kindFor_r9, w ∈ lw_tbl := w_cons wl792 (w_cons wl791 (w_cons wl776 (w_cons wl790 (w_cons wl789 (w_cons wl788 (w_cons wl787 (w_cons wl786 (w_cons wl778 (w_cons wl785 (w_cons wl784 (w_cons wl783 (w_cons wl782 (w_cons wl781 (w_cons wl780 (w_cons wl779 (w_cons wl802 (w_cons wl801 (w_cons wl894 w_nil))))))))))))))))))
set_option maxRecDepth 20000 in
theorem in_wsX11_kindFor : ∀ w ∈ wsX11_kindFor, w ∈ lw_tbl := w_cons wl947 (w_app (w_app (w_app (w_app (in_wsX11_kindFor_r1) (w_app (in_wsX11_kindFor_r2) (w_app (in_wsX11_kindFor_r3) (w_app (in_wsX11_kindFor_r4) (w_app (in_wsX11_kindFor_r5) (w_app (in_wsX11_kindFor_r6) (w_app (in_wsX11_kindFor_r7) (w_app (in_wsX11_kindFor_r8) (in_wsX11_kindFor_r9))))))))) (in_wsX110)) (in_wsX30)) (in_wsX90))
set_option maxRecDepth 20000 in
theorem in_wsX12_kindFor_r1 : ∀ w ∈ wsX12_kindFor_r1, w ∈ lw_tbl := w_cons wl404 (w_cons wl403 (w_cons wl402 (w_cons wl194 (w_cons wl401 (w_cons wl136 (w_cons wl191 (w_cons wl190 (w_cons wl189 (w_cons wl885 (w_cons wl884 (w_cons wl883 (w_cons wl819 (w_cons wl943 (w_cons wl942 (w_cons wl941 (w_cons wl940 (w_cons wl882 (w_cons wl881 (w_cons wl880 (w_cons wl879 (w_cons wl134 (w_cons wl902 (w_cons wl901 w_nil)))))))))))))))))))))))
set_option maxRecDepth 20000 in
theorem in_wsX12_kindFor_r2 : ∀ w ∈ wsX12_kindFor_r2, w ∈ lw_tbl := w_cons wl900 (w_cons wl899 (w_cons wl814 (w_cons wl813 (w_cons wl812 (w_cons wl811 (w_cons wl810 (w_cons wl809 (w_cons wl808 (w_cons wl807 (w_cons wl831 (w_cons wl830 (w_cons wl829 (w_cons wl828 (w_cons wl218 (w_cons wl217 (w_cons wl216 (w_cons wl215 (w_cons wl827 (w_cons wl826 (w_cons wl825 (w_cons wl824 (w_cons wl823 (w_cons wl822 w_nil)))))))))))))))))))))))
set_option maxRecDepth 20000 in
theorem in_wsX12_kindFor_r3 : ∀ w ∈ wsX12_kindFor_r3, w ∈ lw_tbl := w_cons wl821 (w_cons wl820 (w_cons wl416 (w_cons wl415 (w_cons wl414 (w_cons wl413 (w_cons wl132 (w_cons wl412 (w_cons wl411 (w_cons wl410 (w_cons wl409 (w_cons wl130 (w_cons wl408 (w_cons wl407 (w_cons wl406 (w_cons wl430 (w_cons wl429 (w_cons wl428 (w_cons wl306 (w_cons wl305 (w_cons wl304 (w_cons wl303 (w_cons wl835 (w_cons wl834 w_nil)))))))))))))))))))))))
set_option maxRecDepth 20000 in
theorem in_wsX12_kindFor_r4 : ∀ w ∈ wsX12_kindFor_r4, w ∈ lw_tbl := w_cons wl833 (w_cons wl832 (w_cons wl400 (w_cons wl399 (w_cons wl398 (w_cons wl397 (w_cons wl427 (w_cons wl426 (w_cons wl425 (w_cons wl424 (w_cons wl423 (w_cons wl422 (w_cons wl421 (w_cons wl420 (w_cons wl419 (w_cons wl418 (w_cons wl417 (w_cons wl839 (w_cons wl838 (w_cons wl837 (w_cons wl836 (w_cons wl889 (w_cons wl888 (w_cons wl887 w_nil)))))))))))))))))))))))
set_option maxRecDepth 20000 in
theorem in_wsX12_kindFor_r5 : ∀ w ∈ wsX12_kindFor_r5, w ∈ lw_tbl := w_cons wl886 (w_cons wl184 (w_cons wl183 (w_cons wl182 (w_cons wl181 (w_cons wl133 (w_cons wl180 w_nil))))))
set_option maxRecDepth 20000 in
theorem in_wsX12_kindFor : ∀ w ∈ wsX12_kindFor, w ∈ lw_tbl := w_cons wl951 (w_app (w_app (in_wsX12_kindFor_r1) (w_app (in_wsX12_kindFor_r2) (w_app (in_wsX12_kindFor_r3) (w_app (in_wsX12_kindFor_r4) (in_wsX12_kindFor_r5))))) (in_wsX120))
set_option maxRecDepth 20000 in
theorem in_wsX11_rubbed_r1 : ∀ w ∈ wsX11_rubbed_r1, w ∈ lw_tbl := w_cons wl175 (w_cons wl36 (w_cons wl961 (w_cons wl907 (w_cons wl43 (w_cons wl44 (w_cons wl294 (w_cons wl960 (w_cons wl959 (w_cons wl958 (w_cons wl957 (w_cons wl171 (w_cons wl956 (w_cons wl169 (w_cons wl168 (w_cons wl167 (w_cons wl322 (w_cons wl321 (w_cons wl320 (w_cons wl319 (w_cons wl298 (w_cons wl166 (w_cons wl165 (w_cons wl164 w_nil)))))))))))))))))))))))
set_option maxRecDepth 20000 in
theorem in_wsX11_rubbed_r2 : ∀ w ∈ wsX11_rubbed_r2, w ∈ lw_tbl := w_cons wl163 (w_cons wl32 (w_cons wl162 (w_cons wl868 (w_cons wl867 (w_cons wl874 (w_cons wl45 (w_cons wl873 (w_cons wl59 (w_cons wl872 (w_cons wl529 (w_cons wl528 (w_cons wl527 (w_cons wl767 (w_cons wl719 (w_cons wl58 (w_cons wl57 (w_cons wl56 (w_cons wl202 (w_cons wl55 (w_cons wl54 (w_cons wl53 (w_cons wl51 (w_cons wl49 w_nil)))))))))))))))))))))))
set_option maxRecDepth 20000 in
theorem in_wsX11_rubbed_r3 : ∀ w ∈ wsX11_rubbed_r3, w ∈ lw_tbl := w_cons wl966 (w_cons wl965 (w_cons wl964 (w_cons wl963 (w_cons wl962 (w_cons wl722 (w_cons wl721 (w_cons wl720 (w_cons wl718 (w_cons wl741 (w_cons wl740 (w_cons wl739 (w_cons wl85 (w_cons wl738 (w_cons wl737 (w_cons wl736 (w_cons wl735 (w_cons wl734 (w_cons wl733 (w_cons wl367 (w_cons wl732 (w_cons wl731 (w_cons wl730 (w_cons wl729 w_nil)))))))))))))))))))))))
set_option maxRecDepth 20000 in
theorem in_wsX11_rubbed_r4 : ∀ w ∈ wsX11_rubbed_r4, w ∈ lw_tbl := w_cons wl728 (w_cons wl727 (w_cons wl726 (w_cons wl757 (w_cons wl755 (w_cons wl19 (w_cons wl756 (w_cons wl755 (w_cons wl754 (w_cons wl753 (w_cons wl1 (w_cons wl752 (w_cons wl751 (w_cons wl750 (w_cons wl347 (w_cons wl749 (w_cons wl10 (w_cons wl748 (w_cons wl747 (w_cons wl746 (w_cons wl16 (w_cons wl745 (w_cons wl744 (w_cons wl340 w_nil)))))))))))))))))))))))
set_option maxRecDepth 20000 in
theorem in_wsX11_rubbed_r5 : ∀ w ∈ wsX11_rubbed_r5, w ∈ lw_tbl := w_cons wl743 (w_cons wl742 (w_cons wl4 (w_cons wl766 (w_cons wl765 (w_cons wl764 (w_cons wl763 (w_cons wl7 (w_cons wl762 (w_cons wl761 (w_cons wl760 (w_cons wl759 (w_cons wl727 (w_cons wl758 (w_cons wl373 (w_cons wl372 (w_cons wl371 (w_cons wl370 (w_cons wl369 (w_cons wl368 (w_cons wl367 (w_cons wl366 (w_cons wl365 (w_cons wl364 w_nil)))))))))))))))))))))))
set_option maxRecDepth 20000 in
theorem in_wsX11_rubbed_r6 : ∀ w ∈ wsX11_rubbed_r6, w ∈ lw_tbl := w_cons wl363 (w_cons wl362 (w_cons wl361 (w_cons wl360 (w_cons wl359 (w_cons wl358 (w_cons wl385 (w_cons wl384 (w_cons wl383 (w_cons wl382 (w_cons wl381 (w_cons wl380 (w_cons wl210 (w_cons wl209 (w_cons wl208 (w_cons wl772 (w_cons wl437 (w_cons wl436 (w_cons wl435 (w_cons wl439 (w_cons wl771 (w_cons wl770 (w_cons wl769 (w_cons wl768 w_nil)))))))))))))))))))))))
set_option maxRecDepth 20000 in
theorem in_wsX11_rubbed_r7 : ∀ w ∈ wsX11_rubbed_r7, w ∈ lw_tbl := w_cons wl773 (w_cons wl333 (w_cons wl332 (w_cons wl331 (w_cons wl330 (w_cons wl317 (w_cons wl316 (w_cons wl338 (w_cons wl337 (w_cons wl336 (w_cons wl335 (w_cons wl329 (w_cons wl328 (w_cons wl327 (w_cons wl326 (w_cons wl325 (w_cons wl324 (w_cons wl323 (w_cons wl357 (w_cons wl356 (w_cons wl355 (w_cons wl353 (w_cons wl354 (w_cons wl353 w_nil)))))))))))))))))))))))
set_option maxRecDepth 20000 in
theorem in_wsX11_rubbed_r8 : ∀ w ∈ wsX11_rubbed_r8, w ∈ lw_tbl := w_cons wl352 (w_cons wl351 (w_cons wl350 (w_cons wl349 (w_cons wl348 (w_cons wl346 (w_cons wl345 (w_cons wl344 (w_cons wl343 (w_cons wl342 (w_cons wl341 (w_cons wl339 (w_cons wl378 (w_cons wl377 (w_cons wl376 (w_cons wl375 (w_cons wl357 (w_cons wl374 (w_cons wl778 (w_cons wl777 (w_cons wl776 (w_cons wl775 (w_cons wl774 (w_cons wl13 w_nil)))))))))))))))))))))))
set_option maxRecDepth 20000 in
theorem in_wsX11_rubbed_r9 : ∀ w ∈ wsX11_rubbed_r9, w ∈ lw_tbl := w_cons wl800 (w_cons wl799 (w_cons wl798 (w_cons wl797 (w_cons wl796 (w_cons wl795 (w_cons wl794 (w_cons wl793 (w_cons wl792 (w_cons wl791 (w_cons wl776 (w_cons wl790 (w_cons wl789 (w_cons wl788 (w_cons wl787 (w_cons wl786 (w_cons wl778 (w_cons wl785 (w_cons wl784 (w_cons wl783 (w_cons wl782 (w_cons wl781 (w_cons wl780 (w_cons wl779 w_nil)))))))))))))))))))))))
set_option maxRecDepth 20000 in
theorem in_wsX11_rubbed_r10 : ∀ w ∈ wsX11_rubbed_r10, w ∈ lw_tbl := w_cons wl802 (w_cons wl801 w_nil)
set_option maxRecDepth 20000 in
theorem in_wsX11_rubbed : ∀ w ∈ wsX11_rubbed, w ∈ lw_tbl := w_cons wl955 (w_app (w_app (w_app (w_app (w_app (in_wsX11_rubbed_r1) (w_app (in_wsX11_rubbed_r2) (w_app (in_wsX11_rubbed_r3) (w_app (in_wsX11_rubbed_r4) (w_app (in_wsX11_rubbed_r5) (w_app (in_wsX11_rubbed_r6) (w_app (in_wsX11_rubbed_r7) (w_app (in_wsX11_rubbed_r8) (w_app (in_wsX11_rubbed_r9) (in_wsX11_rubbed_r10)))))))))) (in_wsX110)) (in_wsX70)) (in_wsX30)) (in_wsX90))
set_option maxRecDepth 20000 in
theorem in_wsX12_rubbed_r1 : ∀ w ∈ wsX12_rubbed_r1, w ∈ lw_tbl := w_cons wl127 (w_cons wl973 (w_cons wl972 (w_cons wl194 (w_cons wl971 (w_cons wl280 (w_cons wl191 (w_cons wl190 (w_cons wl189 (w_cons wl404 (w_cons wl403 (w_cons wl402 (w_cons wl401 (w_cons wl136 (w_cons wl184 (w_cons wl183 (w_cons wl182 (w_cons wl181 (w_cons wl133 (w_cons wl180 (w_cons wl882 (w_cons wl881 (w_cons wl880 (w_cons wl879 w_nil)))))))))))))))))))))))
set_option maxRecDepth 20000 in
theorem in_wsX12_rubbed_r2 : ∀ w ∈ wsX12_rubbed_r2, w ∈ lw_tbl := w_cons wl134 (w_cons wl306 (w_cons wl305 (w_cons wl304 (w_cons wl303 (w_cons wl977 (w_cons wl976 (w_cons wl975 (w_cons wl974 (w_cons wl126 (w_cons wl125 (w_cons wl810 (w_cons wl809 (w_cons wl808 (w_cons wl807 (w_cons wl831 (w_cons wl830 (w_cons wl829 (w_cons wl828 (w_cons wl218 (w_cons wl217 (w_cons wl216 (w_cons wl215 (w_cons wl827 w_nil)))))))))))))))))))))))
set_option maxRecDepth 20000 in
theorem in_wsX12_rubbed_r3 : ∀ w ∈ wsX12_rubbed_r3, w ∈ lw_tbl := w_cons wl826 (w_cons wl825 (w_cons wl824 (w_cons wl823 (w_cons wl822 (w_cons wl821 (w_cons wl820 (w_cons wl416 (w_cons wl415 (w_cons wl414 (w_cons wl413 (w_cons wl132 (w_cons wl412 (w_cons wl411 (w_cons wl410 (w_cons wl409 (w_cons wl130 (w_cons wl408 (w_cons wl407 (w_cons wl406 (w_cons wl430 (w_cons wl429 (w_cons wl428 (w_cons wl835 w_nil)))))))))))))))))))))))
set_option maxRecDepth 20000 in
theorem in_wsX12_rubbed_r4 : ∀ w ∈ wsX12_rubbed_r4, w ∈ lw_tbl := w_cons wl834 (w_cons wl833 (w_cons wl832 (w_cons wl400 (w_cons wl399 (w_cons wl398 (w_cons wl397 (w_cons wl427 (w_cons wl426 (w_cons wl425 (w_cons wl424 (w_cons wl423 (w_cons wl422 (w_cons wl421 (w_cons wl420 (w_cons wl419 (w_cons wl418 (w_cons wl417 (w_cons wl839 (w_cons wl838 (w_cons wl837 (w_cons wl836 (w_cons wl889 (w_cons wl888 w_nil)))))))))))))))))))))))
set_option maxRecDepth 20000 in
theorem in_wsX12_rubbed_r5 : ∀ w ∈ wsX12_rubbed_r5, w ∈ lw_tbl := w_cons wl887 (w_cons wl886 w_nil)
set_option maxRecDepth 20000 in
theorem in_wsX12_rubbed : ∀ w ∈ wsX12_rubbed, w ∈ lw_tbl := w_cons wl970 (w_app (w_app (in_wsX12_rubbed_r1) (w_app (in_wsX12_rubbed_r2) (w_app (in_wsX12_rubbed_r3) (w_app (in_wsX12_rubbed_r4) (in_wsX12_rubbed_r5))))) (in_wsX120))
set_option maxRecDepth 20000 in
theorem in_wsX11_which_r1 : ∀ w ∈ wsX11_which_r1, w ∈ lw_tbl := w_cons wl175 (w_cons wl36 (w_cons wl961 (w_cons wl907 (w_cons wl43 (w_cons wl44 (w_cons wl296 (w_cons wl960 (w_cons wl959 (w_cons wl958 (w_cons wl957 (w_cons wl171 (w_cons wl956 (w_cons wl169 (w_cons wl168 (w_cons wl167 (w_cons wl322 (w_cons wl321 (w_cons wl320 (w_cons wl319 (w_cons wl298 (w_cons wl166 (w_cons wl165 (w_cons wl164 w_nil)))))))))))))))))))))))
set_option maxRecDepth 20000 in
theorem in_wsX11_which_r2 : ∀ w ∈ wsX11_which_r2, w ∈ lw_tbl := w_cons wl163 (w_cons wl32 (w_cons wl162 (w_cons wl868 (w_cons wl867 (w_cons wl874 (w_cons wl45 (w_cons wl873 (w_cons wl59 (w_cons wl872 (w_cons wl529 (w_cons wl528 (w_cons wl527 (w_cons wl767 (w_cons wl719 (w_cons wl58 (w_cons wl57 (w_cons wl56 (w_cons wl202 (w_cons wl55 (w_cons wl54 (w_cons wl53 (w_cons wl51 (w_cons wl49 w_nil)))))))))))))))))))))))
set_option maxRecDepth 20000 in
theorem in_wsX11_which_r3 : ∀ w ∈ wsX11_which_r3, w ∈ lw_tbl := w_cons wl966 (w_cons wl965 (w_cons wl964 (w_cons wl963 (w_cons wl962 (w_cons wl722 (w_cons wl721 (w_cons wl720 (w_cons wl718 (w_cons wl741 (w_cons wl740 (w_cons wl739 (w_cons wl85 (w_cons wl738 (w_cons wl737 (w_cons wl736 (w_cons wl735 (w_cons wl734 (w_cons wl733 (w_cons wl367 (w_cons wl732 (w_cons wl731 (w_cons wl730 (w_cons wl729 w_nil)))))))))))))))))))))))
set_option maxRecDepth 20000 in
theorem in_wsX11_which_r4 : ∀ w ∈ wsX11_which_r4, w ∈ lw_tbl := w_cons wl728 (w_cons wl727 (w_cons wl726 (w_cons wl757 (w_cons wl755 (w_cons wl19 (w_cons wl756 (w_cons wl755 (w_cons wl754 (w_cons wl753 (w_cons wl1 (w_cons wl752 (w_cons wl751 (w_cons wl750 (w_cons wl347 (w_cons wl749 (w_cons wl10 (w_cons wl748 (w_cons wl747 (w_cons wl746 (w_cons wl16 (w_cons wl745 (w_cons wl744 (w_cons wl340 w_nil)))))))))))))))))))))))
set_option maxRecDepth 20000 in
theorem in_wsX11_which_r5 : ∀ w ∈ wsX11_which_r5, w ∈ lw_tbl := w_cons wl743 (w_cons wl742 (w_cons wl4 (w_cons wl766 (w_cons wl765 (w_cons wl764 (w_cons wl763 (w_cons wl7 (w_cons wl762 (w_cons wl761 (w_cons wl760 (w_cons wl759 (w_cons wl727 (w_cons wl758 (w_cons wl373 (w_cons wl372 (w_cons wl371 (w_cons wl370 (w_cons wl369 (w_cons wl368 (w_cons wl367 (w_cons wl366 (w_cons wl365 (w_cons wl364 w_nil)))))))))))))))))))))))
set_option maxRecDepth 20000 in
theorem in_wsX11_which_r6 : ∀ w ∈ wsX11_which_r6, w ∈ lw_tbl := w_cons wl363 (w_cons wl362 (w_cons wl361 (w_cons wl360 (w_cons wl359 (w_cons wl358 (w_cons wl385 (w_cons wl384 (w_cons wl383 (w_cons wl382 (w_cons wl381 (w_cons wl380 (w_cons wl210 (w_cons wl209 (w_cons wl208 (w_cons wl772 (w_cons wl437 (w_cons wl436 (w_cons wl435 (w_cons wl439 (w_cons wl771 (w_cons wl770 (w_cons wl769 (w_cons wl768 w_nil)))))))))))))))))))))))
set_option maxRecDepth 20000 in
theorem in_wsX11_which_r7 : ∀ w ∈ wsX11_which_r7, w ∈ lw_tbl := w_cons wl773 (w_cons wl333 (w_cons wl332 (w_cons wl331 (w_cons wl330 (w_cons wl317 (w_cons wl316 (w_cons wl338 (w_cons wl337 (w_cons wl336 (w_cons wl335 (w_cons wl329 (w_cons wl328 (w_cons wl327 (w_cons wl326 (w_cons wl325 (w_cons wl324 (w_cons wl323 (w_cons wl357 (w_cons wl356 (w_cons wl355 (w_cons wl353 (w_cons wl354 (w_cons wl353 w_nil)))))))))))))))))))))))
set_option maxRecDepth 20000 in
theorem in_wsX11_which_r8 : ∀ w ∈ wsX11_which_r8, w ∈ lw_tbl := w_cons wl352 (w_cons wl351 (w_cons wl350 (w_cons wl349 (w_cons wl348 (w_cons wl346 (w_cons wl345 (w_cons wl344 (w_cons wl343 (w_cons wl342 (w_cons wl341 (w_cons wl339 (w_cons wl378 (w_cons wl377 (w_cons wl376 (w_cons wl375 (w_cons wl357 (w_cons wl374 (w_cons wl778 (w_cons wl777 (w_cons wl776 (w_cons wl775 (w_cons wl774 (w_cons wl13 w_nil)))))))))))))))))))))))
set_option maxRecDepth 20000 in
theorem in_wsX11_which_r9 : ∀ w ∈ wsX11_which_r9, w ∈ lw_tbl := w_cons wl800 (w_cons wl799 (w_cons wl798 (w_cons wl797 (w_cons wl796 (w_cons wl795 (w_cons wl794 (w_cons wl793 (w_cons wl792 (w_cons wl791 (w_cons wl776 (w_cons wl790 (w_cons wl789 (w_cons wl788 (w_cons wl787 (w_cons wl786 (w_cons wl778 (w_cons wl785 (w_cons wl784 (w_cons wl783 (w_cons wl782 (w_cons wl781 (w_cons wl780 (w_cons wl779 w_nil)))))))))))))))))))))))
set_option maxRecDepth 20000 in
theorem in_wsX11_which_r10 : ∀ w ∈ wsX11_which_r10, w ∈ lw_tbl := w_cons wl802 (w_cons wl801 w_nil)
set_option maxRecDepth 20000 in
theorem in_wsX11_which : ∀ w ∈ wsX11_which, w ∈ lw_tbl := w_cons wl981 (w_app (w_app (w_app (w_app (w_app (in_wsX11_which_r1) (w_app (in_wsX11_which_r2) (w_app (in_wsX11_which_r3) (w_app (in_wsX11_which_r4) (w_app (in_wsX11_which_r5) (w_app (in_wsX11_which_r6) (w_app (in_wsX11_which_r7) (w_app (in_wsX11_which_r8) (w_app (in_wsX11_which_r9) (in_wsX11_which_r10)))))))))) (in_wsX110)) (in_wsX70)) (in_wsX30)) (in_wsX90))
set_option maxRecDepth 20000 in
theorem in_wsX12_which_r1 : ∀ w ∈ wsX12_which_r1, w ∈ lw_tbl := w_cons wl127 (w_cons wl973 (w_cons wl972 (w_cons wl194 (w_cons wl971 (w_cons wl280 (w_cons wl191 (w_cons wl190 (w_cons wl189 (w_cons wl404 (w_cons wl403 (w_cons wl402 (w_cons wl401 (w_cons wl136 (w_cons wl184 (w_cons wl183 (w_cons wl182 (w_cons wl181 (w_cons wl133 (w_cons wl180 (w_cons wl882 (w_cons wl881 (w_cons wl880 (w_cons wl879 w_nil)))))))))))))))))))))))
set_option maxRecDepth 20000 in
theorem in_wsX12_which_r2 : ∀ w ∈ wsX12_which_r2, w ∈ lw_tbl := w_cons wl134 (w_cons wl306 (w_cons wl305 (w_cons wl304 (w_cons wl303 (w_cons wl977 (w_cons wl976 (w_cons wl975 (w_cons wl974 (w_cons wl126 (w_cons wl125 (w_cons wl810 (w_cons wl809 (w_cons wl808 (w_cons wl807 (w_cons wl831 (w_cons wl830 (w_cons wl829 (w_cons wl828 (w_cons wl218 (w_cons wl217 (w_cons wl216 (w_cons wl215 (w_cons wl827 w_nil)))))))))))))))))))))))
set_option maxRecDepth 20000 in
theorem in_wsX12_which_r3 : ∀ w ∈ wsX12_which_r3, w ∈ lw_tbl := w_cons wl826 (w_cons wl825 (w_cons wl824 (w_cons wl823 (w_cons wl822 (w_cons wl821 (w_cons wl820 (w_cons wl416 (w_cons wl415 (w_cons wl414 (w_cons wl413 (w_cons wl132 (w_cons wl412 (w_cons wl411 (w_cons wl410 (w_cons wl409 (w_cons wl130 (w_cons wl408 (w_cons wl407 (w_cons wl406 (w_cons wl430 (w_cons wl429 (w_cons wl428 (w_cons wl835 w_nil)))))))))))))))))))))))
set_option maxRecDepth 20000 in
theorem in_wsX12_which_r4 : ∀ w ∈ wsX12_which_r4, w ∈ lw_tbl := w_cons wl834 (w_cons wl833 (w_cons wl832 (w_cons wl400 (w_cons wl399 (w_cons wl398 (w_cons wl397 (w_cons wl427 (w_cons wl426 (w_cons wl425 (w_cons wl424 (w_cons wl423 (w_cons wl422 (w_cons wl421 (w_cons wl420 (w_cons wl419 (w_cons wl418 (w_cons wl417 (w_cons wl839 (w_cons wl838 (w_cons wl837 (w_cons wl836 (w_cons wl889 (w_cons wl888 w_nil)))))))))))))))))))))))
set_option maxRecDepth 20000 in
theorem in_wsX12_which_r5 : ∀ w ∈ wsX12_which_r5, w ∈ lw_tbl := w_cons wl887 (w_cons wl886 w_nil)
set_option maxRecDepth 20000 in
theorem in_wsX12_which : ∀ w ∈ wsX12_which, w ∈ lw_tbl := w_cons wl985 (w_app (w_app (in_wsX12_which_r1) (w_app (in_wsX12_which_r2) (w_app (in_wsX12_which_r3) (w_app (in_wsX12_which_r4) (in_wsX12_which_r5))))) (in_wsX120))
set_option maxRecDepth 20000 in
theorem in_wsX11_washers_r1 : ∀ w ∈ wsX11_washers_r1, w ∈ lw_tbl := w_cons wl44 (w_cons wl298 (w_cons wl31 (w_cons wl998 (w_cons wl997 (w_cons wl996 (w_cons wl171 (w_cons wl995 (w_cons wl994 (w_cons wl368 (w_cons wl367 (w_cons wl366 (w_cons wl993 (w_cons wl992 (w_cons wl991 (w_cons wl45 (w_cons wl990 (w_cons wl202 (w_cons wl330 (w_cons wl317 (w_cons wl316 (w_cons wl338 (w_cons wl51 (w_cons wl337 w_nil)))))))))))))))))))))))
set_option maxRecDepth 20000 in
theorem in_wsX11_washers_r2 : ∀ w ∈ wsX11_washers_r2, w ∈ lw_tbl := w_cons wl336 (w_cons wl335 (w_cons wl210 (w_cons wl209 (w_cons wl208 w_nil))))
set_option maxRecDepth 20000 in
theorem in_wsX11_washers : ∀ w ∈ wsX11_washers, w ∈ lw_tbl := w_cons wl989 (w_app (w_app (w_app (in_wsX11_washers_r1) (in_wsX11_washers_r2)) (in_wsX110)) (in_wsX30))
set_option maxRecDepth 20000 in
theorem in_wsX12_washers : ∀ w ∈ wsX12_washers, w ∈ lw_tbl := w_cons wl1002 (w_app (w_cons wl136 (w_cons wl129 (w_cons wl1006 (w_cons wl1005 (w_cons wl1004 (w_cons wl194 (w_cons wl1003 (w_cons wl400 (w_cons wl399 (w_cons wl398 (w_cons wl397 (w_cons wl218 (w_cons wl217 (w_cons wl216 (w_cons wl215 w_nil))))))))))))))) (in_wsX120))
set_option maxRecDepth 20000 in
theorem in_wsX11_telling_r1 : ∀ w ∈ wsX11_telling_r1, w ∈ lw_tbl := w_cons wl175 (w_cons wl44 (w_cons wl298 (w_cons wl907 (w_cons wl230 (w_cons wl229 (w_cons wl171 (w_cons wl228 (w_cons wl169 (w_cons wl168 (w_cons wl167 (w_cons wl166 (w_cons wl165 (w_cons wl164 (w_cons wl163 (w_cons wl32 (w_cons wl162 (w_cons wl894 (w_cons wl328 (w_cons wl327 (w_cons wl326 (w_cons wl325 (w_cons wl324 (w_cons wl323 w_nil)))))))))))))))))))))))
set_option maxRecDepth 20000 in
theorem in_wsX11_telling_r2 : ∀ w ∈ wsX11_telling_r2, w ∈ lw_tbl := w_cons wl1014 (w_cons wl1013 (w_cons wl1012 (w_cons wl45 (w_cons wl1011 (w_cons wl202 (w_cons wl330 (w_cons wl317 (w_cons wl316 (w_cons wl338 (w_cons wl51 (w_cons wl337 (w_cons wl336 (w_cons wl335 (w_cons wl210 (w_cons wl209 (w_cons wl208 w_nil))))))))))))))))
set_option maxRecDepth 20000 in
theorem in_wsX11_telling : ∀ w ∈ wsX11_telling, w ∈ lw_tbl := w_cons wl1010 (w_app (w_app (w_app (in_wsX11_telling_r1) (in_wsX11_telling_r2)) (in_wsX110)) (in_wsX30))
set_option maxRecDepth 20000 in
theorem in_wsX12_telling_r1 : ∀ w ∈ wsX12_telling_r1, w ∈ lw_tbl := w_cons wl136 (w_cons wl238 (w_cons wl237 (w_cons wl194 (w_cons wl236 (w_cons wl235 (w_cons wl191 (w_cons wl190 (w_cons wl189 (w_cons wl184 (w_cons wl183 (w_cons wl182 (w_cons wl181 (w_cons wl133 (w_cons wl180 (w_cons wl400 (w_cons wl399 (w_cons wl398 (w_cons wl397 (w_cons wl218 (w_cons wl217 (w_cons wl216 (w_cons wl215 (w_cons wl419 w_nil)))))))))))))))))))))))
set_option maxRecDepth 20000 in
theorem in_wsX12_telling_r2 : ∀ w ∈ wsX12_telling_r2, w ∈ lw_tbl := w_cons wl418 (w_cons wl417 w_nil)
set_option maxRecDepth 20000 in
theorem in_wsX12_telling : ∀ w ∈ wsX12_telling, w ∈ lw_tbl := w_cons wl1018 (w_app (w_app (in_wsX12_telling_r1) (in_wsX12_telling_r2)) (in_wsX120))
set_option maxRecDepth 20000 in
theorem in_wsX11_gossip_r1 : ∀ w ∈ wsX11_gossip_r1, w ∈ lw_tbl := w_cons wl175 (w_cons wl43 (w_cons wl44 (w_cons wl207 (w_cons wl871 (w_cons wl870 (w_cons wl171 (w_cons wl869 (w_cons wl169 (w_cons wl168 (w_cons wl167 (w_cons wl166 (w_cons wl165 (w_cons wl164 (w_cons wl163 (w_cons wl32 (w_cons wl162 (w_cons wl868 (w_cons wl867 (w_cons wl874 (w_cons wl45 (w_cons wl873 (w_cons wl59 (w_cons wl872 w_nil)))))))))))))))))))))))
set_option maxRecDepth 20000 in
theorem in_wsX11_gossip_r2 : ∀ w ∈ wsX11_gossip_r2, w ∈ lw_tbl := w_cons wl529 (w_cons wl528 (w_cons wl527 (w_cons wl767 (w_cons wl719 (w_cons wl58 (w_cons wl57 (w_cons wl56 (w_cons wl202 (w_cons wl55 (w_cons wl54 (w_cons wl53 (w_cons wl51 (w_cons wl49 (w_cons wl723 (w_cons wl722 (w_cons wl721 (w_cons wl720 (w_cons wl718 (w_cons wl741 (w_cons wl740 (w_cons wl739 (w_cons wl85 (w_cons wl738 w_nil)))))))))))))))))))))))
set_option maxRecDepth 20000 in
theorem in_wsX11_gossip_r3 : ∀ w ∈ wsX11_gossip_r3, w ∈ lw_tbl := w_cons wl737 (w_cons wl736 (w_cons wl735 (w_cons wl734 (w_cons wl733 (w_cons wl367 (w_cons wl732 (w_cons wl731 (w_cons wl730 (w_cons wl729 (w_cons wl728 (w_cons wl727 (w_cons wl726 (w_cons wl757 (w_cons wl755 (w_cons wl19 (w_cons wl756 (w_cons wl755 (w_cons wl754 (w_cons wl753 (w_cons wl1 (w_cons wl752 (w_cons wl751 (w_cons wl750 w_nil)))))))))))))))))))))))
set_option maxRecDepth 20000 in
theorem in_wsX11_gossip_r4 : ∀ w ∈ wsX11_gossip_r4, w ∈ lw_tbl := w_cons wl347 (w_cons wl749 (w_cons wl10 (w_cons wl748 (w_cons wl747 (w_cons wl746 (w_cons wl16 (w_cons wl745 (w_cons wl744 (w_cons wl340 (w_cons wl743 (w_cons wl742 (w_cons wl4 (w_cons wl766 (w_cons wl765 (w_cons wl764 (w_cons wl763 (w_cons wl7 (w_cons wl762 (w_cons wl761 (w_cons wl760 (w_cons wl759 (w_cons wl727 (w_cons wl758 w_nil)))))))))))))))))))))))
set_option maxRecDepth 20000 in
theorem in_wsX11_gossip_r5 : ∀ w ∈ wsX11_gossip_r5, w ∈ lw_tbl := w_cons wl373 (w_cons wl372 (w_cons wl371 (w_cons wl370 (w_cons wl369 (w_cons wl368 (w_cons wl367 (w_cons wl366 (w_cons wl365 (w_cons wl364 (w_cons wl363 (w_cons wl362 (w_cons wl361 (w_cons wl360 (w_cons wl359 (w_cons wl358 (w_cons wl385 (w_cons wl384 (w_cons wl383 (w_cons wl382 (w_cons wl381 (w_cons wl380 (w_cons wl210 (w_cons wl209 w_nil)))))))))))))))))))))))
set_option maxRecDepth 20000 in
theorem in_wsX11_gossip_r6 : ∀ w ∈ wsX11_gossip_r6, w ∈ lw_tbl := w_cons wl208 (w_cons wl772 (w_cons wl437 (w_cons wl436 (w_cons wl435 (w_cons wl439 (w_cons wl771 (w_cons wl770 (w_cons wl769 (w_cons wl768 (w_cons wl773 (w_cons wl333 (w_cons wl332 (w_cons wl331 (w_cons wl330 (w_cons wl317 (w_cons wl316 (w_cons wl338 (w_cons wl337 (w_cons wl336 (w_cons wl335 (w_cons wl329 (w_cons wl328 (w_cons wl327 w_nil)))))))))))))))))))))))
set_option maxRecDepth 20000 in
theorem in_wsX11_gossip_r7 : ∀ w ∈ wsX11_gossip_r7, w ∈ lw_tbl := w_cons wl326 (w_cons wl325 (w_cons wl324 (w_cons wl323 (w_cons wl357 (w_cons wl356 (w_cons wl355 (w_cons wl353 (w_cons wl354 (w_cons wl353 (w_cons wl352 (w_cons wl351 (w_cons wl350 (w_cons wl349 (w_cons wl348 (w_cons wl346 (w_cons wl345 (w_cons wl344 (w_cons wl343 (w_cons wl342 (w_cons wl341 (w_cons wl339 (w_cons wl378 (w_cons wl377 w_nil)))))))))))))))))))))))
set_option maxRecDepth 20000 in
theorem in_wsX11_gossip_r8 : ∀ w ∈ wsX11_gossip_r8, w ∈ lw_tbl := w_cons wl376 (w_cons wl375 (w_cons wl357 (w_cons wl374 (w_cons wl778 (w_cons wl777 (w_cons wl776 (w_cons wl775 (w_cons wl774 (w_cons wl13 (w_cons wl800 (w_cons wl799 (w_cons wl798 (w_cons wl797 (w_cons wl796 (w_cons wl795 (w_cons wl794 (w_cons wl793 (w_cons wl792 (w_cons wl791 (w_cons wl776 (w_cons wl790 (w_cons wl789 (w_cons wl788 w_nil)))))))))))))))))))))))
set_option maxRecDepth 20000 in
theorem in_wsX11_gossip_r9 : ∀ w ∈ wsX11_gossip_r9, w ∈ lw_tbl := w_cons wl787 (w_cons wl786 (w_cons wl778 (w_cons wl785 (w_cons wl784 (w_cons wl783 (w_cons wl782 (w_cons wl781 (w_cons wl780 (w_cons wl779 (w_cons wl802 (w_cons wl801 (w_cons wl1026 (w_cons wl1025 (w_cons wl1024 (w_cons wl1023 w_nil)))))))))))))))
set_option maxRecDepth 20000 in
theorem in_wsX11_gossip : ∀ w ∈ wsX11_gossip, w ∈ lw_tbl := w_cons wl1022 (w_app (w_app (w_app (w_app (in_wsX11_gossip_r1) (w_app (in_wsX11_gossip_r2) (w_app (in_wsX11_gossip_r3) (w_app (in_wsX11_gossip_r4) (w_app (in_wsX11_gossip_r5) (w_app (in_wsX11_gossip_r6) (w_app (in_wsX11_gossip_r7) (w_app (in_wsX11_gossip_r8) (in_wsX11_gossip_r9))))))))) (in_wsX110)) (in_wsX30)) (in_wsX90))
set_option maxRecDepth 20000 in
theorem in_wsX12_gossip_r1 : ∀ w ∈ wsX12_gossip_r1, w ∈ lw_tbl := w_cons wl136 (w_cons wl885 (w_cons wl884 (w_cons wl194 (w_cons wl883 (w_cons wl819 (w_cons wl191 (w_cons wl190 (w_cons wl189 (w_cons wl184 (w_cons wl183 (w_cons wl182 (w_cons wl181 (w_cons wl133 (w_cons wl180 (w_cons wl882 (w_cons wl881 (w_cons wl880 (w_cons wl879 (w_cons wl134 (w_cons wl814 (w_cons wl813 (w_cons wl812 (w_cons wl811 w_nil)))))))))))))))))))))))
set_option maxRecDepth 20000 in
theorem in_wsX12_gossip_r2 : ∀ w ∈ wsX12_gossip_r2, w ∈ lw_tbl := w_cons wl810 (w_cons wl809 (w_cons wl808 (w_cons wl807 (w_cons wl404 (w_cons wl403 (w_cons wl402 (w_cons wl401 (w_cons wl831 (w_cons wl830 (w_cons wl829 (w_cons wl828 (w_cons wl218 (w_cons wl217 (w_cons wl216 (w_cons wl215 (w_cons wl827 (w_cons wl826 (w_cons wl825 (w_cons wl824 (w_cons wl823 (w_cons wl822 (w_cons wl821 (w_cons wl820 w_nil)))))))))))))))))))))))
set_option maxRecDepth 20000 in
theorem in_wsX12_gossip_r3 : ∀ w ∈ wsX12_gossip_r3, w ∈ lw_tbl := w_cons wl416 (w_cons wl415 (w_cons wl414 (w_cons wl413 (w_cons wl132 (w_cons wl412 (w_cons wl411 (w_cons wl410 (w_cons wl409 (w_cons wl130 (w_cons wl408 (w_cons wl407 (w_cons wl406 (w_cons wl430 (w_cons wl429 (w_cons wl428 (w_cons wl306 (w_cons wl305 (w_cons wl304 (w_cons wl303 (w_cons wl835 (w_cons wl834 (w_cons wl833 (w_cons wl832 w_nil)))))))))))))))))))))))
set_option maxRecDepth 20000 in
theorem in_wsX12_gossip_r4 : ∀ w ∈ wsX12_gossip_r4, w ∈ lw_tbl := w_cons wl400 (w_cons wl399 (w_cons wl398 (w_cons wl397 (w_cons wl427 (w_cons wl426 (w_cons wl425 (w_cons wl424 (w_cons wl423 (w_cons wl422 (w_cons wl421 (w_cons wl420 (w_cons wl419 (w_cons wl418 (w_cons wl417 (w_cons wl839 (w_cons wl838 (w_cons wl837 (w_cons wl836 (w_cons wl889 (w_cons wl888 (w_cons wl887 (w_cons wl886 w_nil))))))))))))))))))))))
set_option maxRecDepth 20000 in
theorem in_wsX12_gossip : ∀ w ∈ wsX12_gossip, w ∈ lw_tbl := w_cons wl1030 (w_app (w_app (in_wsX12_gossip_r1) (w_app (in_wsX12_gossip_r2) (w_app (in_wsX12_gossip_r3) (in_wsX12_gossip_r4)))) (in_wsX120))
set_option maxRecDepth 20000 in
theorem in_wsX11_much_r1 : ∀ w ∈ wsX11_much_r1, w ∈ lw_tbl := w_cons wl175 (w_cons wl44 (w_cons wl293 (w_cons wl1035 (w_cons wl364 (w_cons wl367 (w_cons wl363 (w_cons wl322 (w_cons wl321 (w_cons wl320 (w_cons wl171 (w_cons wl319 (w_cons wl298 (w_cons wl169 (w_cons wl168 (w_cons wl167 (w_cons wl166 (w_cons wl165 (w_cons wl164 (w_cons wl163 (w_cons wl32 (w_cons wl162 (w_cons wl379 (w_cons wl209 w_nil)))))))))))))))))))))))
set_option maxRecDepth 20000 in
theorem in_wsX11_much_r2 : ∀ w ∈ wsX11_much_r2, w ∈ lw_tbl := w_cons wl45 (w_cons wl208 w_nil)
set_option maxRecDepth 20000 in
theorem in_wsX11_much : ∀ w ∈ wsX11_much, w ∈ lw_tbl := w_cons wl1034 (w_app (w_app (w_app (in_wsX11_much_r1) (in_wsX11_much_r2)) (in_wsX110)) (in_wsX30))
set_option maxRecDepth 20000 in
theorem in_wsX12_much : ∀ w ∈ wsX12_much, w ∈ lw_tbl := w_cons wl1039 (w_app (w_cons wl404 (w_cons wl403 (w_cons wl402 (w_cons wl194 (w_cons wl401 (w_cons wl136 (w_cons wl191 (w_cons wl190 (w_cons wl189 (w_cons wl184 (w_cons wl183 (w_cons wl182 (w_cons wl181 (w_cons wl133 (w_cons wl180 (w_cons wl218 (w_cons wl217 (w_cons wl216 (w_cons wl215 w_nil))))))))))))))))))) (in_wsX120))
set_option maxRecDepth 20000 in
theorem in_wsX11_odds_r1 : ∀ w ∈ wsX11_odds_r1, w ∈ lw_tbl := w_cons wl175 (w_cons wl43 (w_cons wl44 (w_cons wl249 (w_cons wl169 (w_cons wl168 (w_cons wl171 (w_cons wl167 (w_cons wl173 (w_cons wl172 (w_cons wl170 (w_cons wl166 (w_cons wl165 (w_cons wl164 (w_cons wl163 (w_cons wl32 (w_cons wl162 (w_cons wl868 (w_cons wl867 (w_cons wl874 (w_cons wl45 (w_cons wl873 (w_cons wl59 (w_cons wl872 w_nil)))))))))))))))))))))))
set_option maxRecDepth 20000 in
theorem in_wsX11_odds_r2 : ∀ w ∈ wsX11_odds_r2, w ∈ lw_tbl := w_cons wl529 (w_cons wl528 (w_cons wl527 (w_cons wl767 (w_cons wl719 (w_cons wl58 (w_cons wl57 (w_cons wl56 (w_cons wl202 (w_cons wl55 (w_cons wl54 (w_cons wl53 (w_cons wl51 (w_cons wl49 (w_cons wl1044 (w_cons wl737 (w_cons wl736 (w_cons wl735 (w_cons wl734 (w_cons wl733 (w_cons wl367 (w_cons wl732 (w_cons wl723 (w_cons wl722 w_nil)))))))))))))))))))))))
set_option maxRecDepth 20000 in
theorem in_wsX11_odds_r3 : ∀ w ∈ wsX11_odds_r3, w ∈ lw_tbl := w_cons wl721 (w_cons wl720 (w_cons wl718 (w_cons wl741 (w_cons wl740 (w_cons wl739 (w_cons wl85 (w_cons wl738 (w_cons wl731 (w_cons wl730 (w_cons wl729 (w_cons wl728 (w_cons wl727 (w_cons wl726 (w_cons wl757 (w_cons wl755 (w_cons wl19 (w_cons wl756 (w_cons wl755 (w_cons wl754 (w_cons wl753 (w_cons wl1 (w_cons wl752 (w_cons wl751 w_nil)))))))))))))))))))))))
set_option maxRecDepth 20000 in
theorem in_wsX11_odds_r4 : ∀ w ∈ wsX11_odds_r4, w ∈ lw_tbl := w_cons wl750 (w_cons wl347 (w_cons wl749 (w_cons wl10 (w_cons wl748 (w_cons wl747 (w_cons wl746 (w_cons wl16 (w_cons wl745 (w_cons wl744 (w_cons wl340 (w_cons wl743 (w_cons wl742 (w_cons wl4 (w_cons wl766 (w_cons wl765 (w_cons wl764 (w_cons wl763 (w_cons wl7 (w_cons wl762 (w_cons wl761 (w_cons wl760 (w_cons wl759 (w_cons wl727 w_nil)))))))))))))))))))))))
set_option maxRecDepth 20000 in
theorem in_wsX11_odds_r5 : ∀ w ∈ wsX11_odds_r5, w ∈ lw_tbl := w_cons wl758 (w_cons wl373 (w_cons wl372 (w_cons wl371 (w_cons wl370 (w_cons wl369 (w_cons wl368 (w_cons wl367 (w_cons wl366 (w_cons wl365 (w_cons wl364 (w_cons wl363 (w_cons wl362 (w_cons wl361 (w_cons wl360 (w_cons wl359 (w_cons wl358 (w_cons wl385 (w_cons wl384 (w_cons wl383 (w_cons wl382 (w_cons wl381 (w_cons wl380 (w_cons wl210 w_nil)))))))))))))))))))))))
set_option maxRecDepth 20000 in
theorem in_wsX11_odds_r6 : ∀ w ∈ wsX11_odds_r6, w ∈ lw_tbl := w_cons wl209 (w_cons wl208 (w_cons wl772 (w_cons wl437 (w_cons wl436 (w_cons wl435 (w_cons wl439 (w_cons wl771 (w_cons wl770 (w_cons wl769 (w_cons wl768 (w_cons wl773 (w_cons wl333 (w_cons wl332 (w_cons wl331 (w_cons wl330 (w_cons wl317 (w_cons wl316 (w_cons wl338 (w_cons wl337 (w_cons wl336 (w_cons wl335 (w_cons wl329 (w_cons wl328 w_nil)))))))))))))))))))))))
set_option maxRecDepth 20000 in
theorem in_wsX11_odds_r7 : ∀ w ∈ wsX11_odds_r7, w ∈ lw_tbl := w_cons wl327 (w_cons wl326 (w_cons wl325 (w_cons wl324 (w_cons wl323 (w_cons wl357 (w_cons wl356 (w_cons wl355 (w_cons wl353 (w_cons wl354 (w_cons wl353 (w_cons wl352 (w_cons wl351 (w_cons wl350 (w_cons wl349 (w_cons wl348 (w_cons wl346 (w_cons wl345 (w_cons wl344 (w_cons wl343 (w_cons wl342 (w_cons wl341 (w_cons wl339 (w_cons wl378 w_nil)))))))))))))))))))))))
set_option maxRecDepth 20000 in
theorem in_wsX11_odds_r8 : ∀ w ∈ wsX11_odds_r8, w ∈ lw_tbl := w_cons wl377 (w_cons wl376 (w_cons wl375 (w_cons wl357 (w_cons wl374 (w_cons wl778 (w_cons wl777 (w_cons wl776 (w_cons wl775 (w_cons wl774 (w_cons wl13 (w_cons wl800 (w_cons wl799 (w_cons wl798 (w_cons wl797 (w_cons wl796 (w_cons wl795 (w_cons wl794 (w_cons wl793 (w_cons wl792 (w_cons wl791 (w_cons wl776 (w_cons wl790 (w_cons wl789 w_nil)))))))))))))))))))))))
set_option maxRecDepth 20000 in
theorem in_wsX11_odds_r9 : ∀ w ∈ wsX11_odds_r9, w ∈ lw_tbl := w_cons wl788 (w_cons wl787 (w_cons wl786 (w_cons wl778 (w_cons wl785 (w_cons wl784 (w_cons wl783 (w_cons wl782 (w_cons wl781 (w_cons wl780 (w_cons wl779 (w_cons wl802 (w_cons wl801 (w_cons wl911 (w_cons wl910 (w_cons wl909 (w_cons wl908 (w_cons wl1047 (w_cons wl1046 (w_cons wl1045 w_nil)))))))))))))))))))
set_option maxRecDepth 20000 in
theorem in_wsX11_odds : ∀ w ∈ wsX11_odds, w ∈ lw_tbl := w_cons wl1043 (w_app (w_app (w_app (w_app (in_wsX11_odds_r1) (w_app (in_wsX11_odds_r2) (w_app (in_wsX11_odds_r3) (w_app (in_wsX11_odds_r4) (w_app (in_wsX11_odds_r5) (w_app (in_wsX11_odds_r6) (w_app (in_wsX11_odds_r7) (w_app (in_wsX11_odds_r8) (in_wsX11_odds_r9))))))))) (in_wsX110)) (in_wsX30)) (in_wsX90))
set_option maxRecDepth 20000 in
theorem in_wsX12_odds_r1 : ∀ w ∈ wsX12_odds_r1, w ∈ lw_tbl := w_cons wl1052 (w_cons wl136 (w_cons wl191 (w_cons wl190 (w_cons wl194 (w_cons wl189 (w_cons wl196 (w_cons wl195 (w_cons wl193 (w_cons wl192 (w_cons wl184 (w_cons wl183 (w_cons wl182 (w_cons wl181 (w_cons wl133 (w_cons wl180 (w_cons wl882 (w_cons wl881 (w_cons wl880 (w_cons wl879 (w_cons wl134 (w_cons wl814 (w_cons wl813 (w_cons wl812 w_nil)))))))))))))))))))))))
set_option maxRecDepth 20000 in
theorem in_wsX12_odds_r2 : ∀ w ∈ wsX12_odds_r2, w ∈ lw_tbl := w_cons wl811 (w_cons wl810 (w_cons wl809 (w_cons wl808 (w_cons wl807 (w_cons wl404 (w_cons wl403 (w_cons wl402 (w_cons wl401 (w_cons wl831 (w_cons wl830 (w_cons wl829 (w_cons wl828 (w_cons wl218 (w_cons wl217 (w_cons wl216 (w_cons wl215 (w_cons wl827 (w_cons wl826 (w_cons wl825 (w_cons wl824 (w_cons wl823 (w_cons wl822 (w_cons wl821 w_nil)))))))))))))))))))))))
set_option maxRecDepth 20000 in
theorem in_wsX12_odds_r3 : ∀ w ∈ wsX12_odds_r3, w ∈ lw_tbl := w_cons wl820 (w_cons wl416 (w_cons wl415 (w_cons wl414 (w_cons wl413 (w_cons wl132 (w_cons wl412 (w_cons wl411 (w_cons wl410 (w_cons wl409 (w_cons wl130 (w_cons wl408 (w_cons wl407 (w_cons wl406 (w_cons wl430 (w_cons wl429 (w_cons wl428 (w_cons wl306 (w_cons wl305 (w_cons wl304 (w_cons wl303 (w_cons wl835 (w_cons wl834 (w_cons wl833 w_nil)))))))))))))))))))))))
set_option maxRecDepth 20000 in
theorem in_wsX12_odds_r4 : ∀ w ∈ wsX12_odds_r4, w ∈ lw_tbl := w_cons wl832 (w_cons wl400 (w_cons wl399 (w_cons wl398 (w_cons wl397 (w_cons wl427 (w_cons wl426 (w_cons wl425 (w_cons wl424 (w_cons wl423 (w_cons wl422 (w_cons wl421 (w_cons wl420 (w_cons wl419 (w_cons wl418 (w_cons wl417 (w_cons wl839 (w_cons wl838 (w_cons wl837 (w_cons wl836 (w_cons wl889 (w_cons wl888 (w_cons wl887 (w_cons wl886 w_nil)))))))))))))))))))))))
set_option maxRecDepth 20000 in
theorem in_wsX12_odds_r5 : ∀ w ∈ wsX12_odds_r5, w ∈ lw_tbl := w_cons wl1055 (w_cons wl1054 (w_cons wl1053 w_nil))
set_option maxRecDepth 20000 in
theorem in_wsX12_odds : ∀ w ∈ wsX12_odds, w ∈ lw_tbl := w_cons wl1051 (w_app (w_app (in_wsX12_odds_r1) (w_app (in_wsX12_odds_r2) (w_app (in_wsX12_odds_r3) (w_app (in_wsX12_odds_r4) (in_wsX12_odds_r5))))) (in_wsX120))
set_option maxRecDepth 20000 in
theorem in_wsX11_seed : ∀ w ∈ wsX11_seed, w ∈ lw_tbl := w_cons wl1059 (w_app (w_app (w_cons wl44 (w_cons wl1060 w_nil)) (in_wsX110)) (in_wsX30))
set_option maxRecDepth 20000 in
theorem in_wsX12_seed : ∀ w ∈ wsX12_seed, w ∈ lw_tbl := w_cons wl1064 (w_app (w_cons wl188 (w_cons wl187 (w_cons wl186 (w_cons wl194 (w_cons wl185 (w_cons wl136 w_nil)))))) (in_wsX120))
set_option maxRecDepth 20000 in
theorem in_wsX11_voice_r1 : ∀ w ∈ wsX11_voice_r1, w ∈ lw_tbl := w_cons wl175 (w_cons wl38 (w_cons wl44 (w_cons wl295 (w_cons wl48 (w_cons wl296 (w_cons wl322 (w_cons wl321 (w_cons wl320 (w_cons wl171 (w_cons wl319 (w_cons wl298 (w_cons wl169 (w_cons wl168 (w_cons wl167 (w_cons wl166 (w_cons wl165 (w_cons wl164 (w_cons wl163 (w_cons wl32 (w_cons wl162 (w_cons wl1071 (w_cons wl1070 (w_cons wl1069 w_nil)))))))))))))))))))))))
set_option maxRecDepth 20000 in
theorem in_wsX11_voice_r2 : ∀ w ∈ wsX11_voice_r2, w ∈ lw_tbl := w_cons wl39 (w_cons wl1090 (w_cons wl1089 (w_cons wl1088 (w_cons wl1087 (w_cons wl1086 (w_cons wl1085 (w_cons wl1084 (w_cons wl1076 (w_cons wl19 (w_cons wl1083 (w_cons wl1082 (w_cons wl1081 (w_cons wl1080 (w_cons wl1079 (w_cons wl1078 (w_cons wl77 (w_cons wl1077 (w_cons wl1076 (w_cons wl1075 (w_cons wl1074 (w_cons wl16 (w_cons wl1073 (w_cons wl1072 w_nil)))))))))))))))))))))))
set_option maxRecDepth 20000 in
theorem in_wsX11_voice_r3 : ∀ w ∈ wsX11_voice_r3, w ∈ lw_tbl := w_cons wl1109 (w_cons wl340 (w_cons wl1108 (w_cons wl1107 (w_cons wl1106 (w_cons wl1086 (w_cons wl1105 (w_cons wl1104 (w_cons wl1103 (w_cons wl1096 (w_cons wl1102 (w_cons wl1101 (w_cons wl13 (w_cons wl1100 (w_cons wl1099 (w_cons wl1098 (w_cons wl1097 (w_cons wl1096 (w_cons wl1095 (w_cons wl1094 (w_cons wl1094 (w_cons wl1093 (w_cons wl1092 (w_cons wl1091 w_nil)))))))))))))))))))))))
set_option maxRecDepth 20000 in
theorem in_wsX11_voice_r4 : ∀ w ∈ wsX11_voice_r4, w ∈ lw_tbl := w_cons wl1112 (w_cons wl1130 (w_cons wl1129 (w_cons wl1128 (w_cons wl1127 (w_cons wl1126 (w_cons wl1125 (w_cons wl1124 (w_cons wl4 (w_cons wl1123 (w_cons wl1122 (w_cons wl1121 (w_cons wl1120 (w_cons wl1119 (w_cons wl1118 (w_cons wl1117 (w_cons wl1104 (w_cons wl1116 (w_cons wl1115 (w_cons wl1114 (w_cons wl1113 (w_cons wl1112 (w_cons wl1111 (w_cons wl1110 w_nil)))))))))))))))))))))))
set_option maxRecDepth 20000 in
theorem in_wsX11_voice_r5 : ∀ w ∈ wsX11_voice_r5, w ∈ lw_tbl := w_cons wl1 (w_cons wl1150 (w_cons wl1149 (w_cons wl1148 (w_cons wl1147 (w_cons wl1146 (w_cons wl347 (w_cons wl1145 (w_cons wl10 (w_cons wl1144 (w_cons wl1143 (w_cons wl1142 (w_cons wl1141 (w_cons wl1140 (w_cons wl1139 (w_cons wl1138 (w_cons wl1137 (w_cons wl1115 (w_cons wl1136 (w_cons wl1135 (w_cons wl1134 (w_cons wl1133 (w_cons wl1132 (w_cons wl1131 w_nil)))))))))))))))))))))))
set_option maxRecDepth 20000 in
theorem in_wsX11_voice_r6 : ∀ w ∈ wsX11_voice_r6, w ∈ lw_tbl := w_cons wl1169 (w_cons wl1169 (w_cons wl1168 (w_cons wl1168 (w_cons wl1132 (w_cons wl1167 (w_cons wl1166 (w_cons wl1165 (w_cons wl1164 (w_cons wl1163 (w_cons wl1162 (w_cons wl1161 (w_cons wl1160 (w_cons wl1159 (w_cons wl1158 (w_cons wl1157 (w_cons wl7 (w_cons wl1156 (w_cons wl1155 (w_cons wl1154 (w_cons wl1153 (w_cons wl1152 (w_cons wl1135 (w_cons wl1151 w_nil)))))))))))))))))))))))
set_option maxRecDepth 20000 in
theorem in_wsX11_voice : ∀ w ∈ wsX11_voice, w ∈ lw_tbl := w_cons wl1068 (w_app (w_app (w_app (w_app (in_wsX11_voice_r1) (w_app (in_wsX11_voice_r2) (w_app (in_wsX11_voice_r3) (w_app (in_wsX11_voice_r4) (w_app (in_wsX11_voice_r5) (in_wsX11_voice_r6)))))) (in_wsX110)) (in_wsX30)) (in_wsX100))
set_option maxRecDepth 20000 in
theorem in_wsX12_voice_r1 : ∀ w ∈ wsX12_voice_r1, w ∈ lw_tbl := w_cons wl280 (w_cons wl1177 (w_cons wl1176 (w_cons wl404 (w_cons wl403 (w_cons wl402 (w_cons wl194 (w_cons wl401 (w_cons wl136 (w_cons wl191 (w_cons wl190 (w_cons wl189 (w_cons wl184 (w_cons wl183 (w_cons wl182 (w_cons wl181 (w_cons wl133 (w_cons wl180 (w_cons wl218 (w_cons wl217 (w_cons wl216 (w_cons wl215 (w_cons wl1175 (w_cons wl1174 w_nil)))))))))))))))))))))))
set_option maxRecDepth 20000 in
theorem in_wsX12_voice_r2 : ∀ w ∈ wsX12_voice_r2, w ∈ lw_tbl := w_cons wl1195 (w_cons wl1194 (w_cons wl1193 (w_cons wl1192 (w_cons wl1191 (w_cons wl1190 (w_cons wl128 (w_cons wl465 (w_cons wl464 (w_cons wl463 (w_cons wl1189 (w_cons wl1188 (w_cons wl1187 (w_cons wl1186 (w_cons wl1185 (w_cons wl1184 (w_cons wl1183 (w_cons wl1182 (w_cons wl1181 (w_cons wl1180 (w_cons wl1179 (w_cons wl1178 w_nil)))))))))))))))))))))
set_option maxRecDepth 20000 in
theorem in_wsX12_voice : ∀ w ∈ wsX12_voice, w ∈ lw_tbl := w_cons wl1173 (w_app (w_app (in_wsX12_voice_r1) (in_wsX12_voice_r2)) (in_wsX120))
set_option maxRecDepth 20000 in
theorem in_wsX11_trace : ∀ w ∈ wsX11_trace, w ∈ lw_tbl := w_cons wl1199 (w_app (w_app (w_cons wl38 (w_cons wl1201 (w_cons wl1200 (w_cons wl907 (w_cons wl169 (w_cons wl168 (w_cons wl171 (w_cons wl167 (w_cons wl166 (w_cons wl165 (w_cons wl164 (w_cons wl163 (w_cons wl32 (w_cons wl162 w_nil)))))))))))))) (in_wsX110)) (in_wsX100))
set_option maxRecDepth 20000 in
theorem in_wsX12_trace : ∀ w ∈ wsX12_trace, w ∈ lw_tbl := w_cons wl1205 (w_app (w_cons wl1176 (w_cons wl128 (w_cons wl191 (w_cons wl190 (w_cons wl194 (w_cons wl189 (w_cons wl184 (w_cons wl183 (w_cons wl182 (w_cons wl181 (w_cons wl133 (w_cons wl180 w_nil)))))))))))) (in_wsX120))
set_option maxRecDepth 20000 in
theorem in_wsX11_sheet_r1 : ∀ w ∈ wsX11_sheet_r1, w ∈ lw_tbl := w_cons wl175 (w_cons wl724 (w_cons wl36 (w_cons wl958 (w_cons wl957 (w_cons wl171 (w_cons wl956 (w_cons wl169 (w_cons wl168 (w_cons wl167 (w_cons wl166 (w_cons wl165 (w_cons wl164 (w_cons wl163 (w_cons wl32 (w_cons wl162 (w_cons wl1215 (w_cons wl1214 (w_cons wl1213 (w_cons wl34 (w_cons wl1212 (w_cons wl1211 (w_cons wl1210 (w_cons wl73 w_nil)))))))))))))))))))))))
set_option maxRecDepth 20000 in
theorem in_wsX11_sheet_r2 : ∀ w ∈ wsX11_sheet_r2, w ∈ lw_tbl := w_cons wl1216 (w_cons wl83 (w_cons wl82 (w_cons wl81 w_nil)))
set_option maxRecDepth 20000 in
theorem in_wsX11_sheet : ∀ w ∈ wsX11_sheet, w ∈ lw_tbl := w_cons wl1209 (w_app (w_app (w_app (in_wsX11_sheet_r1) (in_wsX11_sheet_r2)) (in_wsX110)) (in_wsX70))
set_option maxRecDepth 20000 in
theorem in_wsX12_sheet : ∀ w ∈ wsX12_sheet, w ∈ lw_tbl := w_cons wl1220 (w_app (w_cons wl127 (w_cons wl126 (w_cons wl125 (w_cons wl973 (w_cons wl972 (w_cons wl194 (w_cons wl971 (w_cons wl280 (w_cons wl191 (w_cons wl190 (w_cons wl189 (w_cons wl184 (w_cons wl183 (w_cons wl182 (w_cons wl181 (w_cons wl133 (w_cons wl180 w_nil))))))))))))))))) (in_wsX120))
set_option maxRecDepth 20000 in
theorem in_wsX11_put_r1 : ∀ w ∈ wsX11_put_r1, w ∈ lw_tbl := w_cons wl175 (w_cons wl36 (w_cons wl961 (w_cons wl907 (w_cons wl960 (w_cons wl958 (w_cons wl957 (w_cons wl171 (w_cons wl956 (w_cons wl169 (w_cons wl168 (w_cons wl167 (w_cons wl166 (w_cons wl165 (w_cons wl164 (w_cons wl163 (w_cons wl32 (w_cons wl162 (w_cons wl1228 (w_cons wl1227 (w_cons wl1226 (w_cons wl34 (w_cons wl1225 (w_cons wl1210 w_nil)))))))))))))))))))))))
set_option maxRecDepth 20000 in
theorem in_wsX11_put_r2 : ∀ w ∈ wsX11_put_r2, w ∈ lw_tbl := w_cons wl1232 (w_cons wl1231 (w_cons wl1230 (w_cons wl1229 (w_cons wl1211 w_nil))))
set_option maxRecDepth 20000 in
theorem in_wsX11_put : ∀ w ∈ wsX11_put, w ∈ lw_tbl := w_cons wl1224 (w_app (w_app (w_app (in_wsX11_put_r1) (in_wsX11_put_r2)) (in_wsX110)) (in_wsX70))
set_option maxRecDepth 20000 in
theorem in_wsX12_put : ∀ w ∈ wsX12_put, w ∈ lw_tbl := w_cons wl1236 (w_app (w_cons wl127 (w_cons wl126 (w_cons wl125 (w_cons wl973 (w_cons wl972 (w_cons wl194 (w_cons wl971 (w_cons wl280 (w_cons wl191 (w_cons wl190 (w_cons wl189 (w_cons wl184 (w_cons wl183 (w_cons wl182 (w_cons wl181 (w_cons wl133 (w_cons wl180 w_nil))))))))))))))))) (in_wsX120))
set_option maxRecDepth 20000 in
theorem in_wsX11_move_r1 : ∀ w ∈ wsX11_move_r1, w ∈ lw_tbl := w_cons wl175 (w_cons wl36 (w_cons wl961 (w_cons wl907 (w_cons wl457 (w_cons wl960 (w_cons wl1241 (w_cons wl529 (w_cons wl528 (w_cons wl527 (w_cons wl958 (w_cons wl957 (w_cons wl171 (w_cons wl956 (w_cons wl169 (w_cons wl168 (w_cons wl167 (w_cons wl166 (w_cons wl165 (w_cons wl164 (w_cons wl163 (w_cons wl32 (w_cons wl162 (w_cons wl1228 w_nil)))))))))))))))))))))))
set_option maxRecDepth 20000 in
theorem in_wsX11_move_r2 : ∀ w ∈ wsX11_move_r2, w ∈ lw_tbl := w_cons wl1227 (w_cons wl1226 (w_cons wl34 (w_cons wl1225 (w_cons wl1210 w_nil))))
set_option maxRecDepth 20000 in
theorem in_wsX11_move : ∀ w ∈ wsX11_move, w ∈ lw_tbl := w_cons wl1240 (w_app (w_app (w_app (in_wsX11_move_r1) (in_wsX11_move_r2)) (in_wsX110)) (in_wsX70))
set_option maxRecDepth 20000 in
theorem in_wsX12_move : ∀ w ∈ wsX12_move, w ∈ lw_tbl := w_cons wl1245 (w_app (w_cons wl127 (w_cons wl126 (w_cons wl124 (w_cons wl125 (w_cons wl973 (w_cons wl972 (w_cons wl194 (w_cons wl971 (w_cons wl280 (w_cons wl191 (w_cons wl190 (w_cons wl189 (w_cons wl184 (w_cons wl183 (w_cons wl182 (w_cons wl181 (w_cons wl133 (w_cons wl180 w_nil)))))))))))))))))) (in_wsX120))
set_option maxRecDepth 20000 in
theorem in_wsX11_weights_r1 : ∀ w ∈ wsX11_weights_r1, w ∈ lw_tbl := w_cons wl175 (w_cons wl36 (w_cons wl961 (w_cons wl907 (w_cons wl959 (w_cons wl994 (w_cons wl368 (w_cons wl367 (w_cons wl366 (w_cons wl960 (w_cons wl44 (w_cons wl174 (w_cons wl958 (w_cons wl957 (w_cons wl171 (w_cons wl956 (w_cons wl169 (w_cons wl168 (w_cons wl167 (w_cons wl166 (w_cons wl165 (w_cons wl164 (w_cons wl163 (w_cons wl32 w_nil)))))))))))))))))))))))
set_option maxRecDepth 20000 in
theorem in_wsX11_weights_r2 : ∀ w ∈ wsX11_weights_r2, w ∈ lw_tbl := w_cons wl162 w_nil
set_option maxRecDepth 20000 in
theorem in_wsX11_weights : ∀ w ∈ wsX11_weights, w ∈ lw_tbl := w_cons wl1249 (w_app (w_app (w_app (w_app (in_wsX11_weights_r1) (in_wsX11_weights_r2)) (in_wsX110)) (in_wsX70)) (in_wsX30))
set_option maxRecDepth 20000 in
theorem in_wsX12_weights : ∀ w ∈ wsX12_weights, w ∈ lw_tbl := w_cons wl1253 (w_app (w_cons wl127 (w_cons wl126 (w_cons wl125 (w_cons wl197 (w_cons wl136 (w_cons wl973 (w_cons wl972 (w_cons wl194 (w_cons wl971 (w_cons wl280 (w_cons wl191 (w_cons wl190 (w_cons wl189 (w_cons wl184 (w_cons wl183 (w_cons wl182 (w_cons wl181 (w_cons wl133 (w_cons wl180 w_nil))))))))))))))))))) (in_wsX120))
set_option maxRecDepth 20000 in
theorem in_wsX11_judge_r1 : ∀ w ∈ wsX11_judge_r1, w ∈ lw_tbl := w_cons wl175 (w_cons wl36 (w_cons wl961 (w_cons wl907 (w_cons wl959 (w_cons wl44 (w_cons wl298 (w_cons wl994 (w_cons wl368 (w_cons wl367 (w_cons wl366 (w_cons wl960 (w_cons wl294 (w_cons wl958 (w_cons wl957 (w_cons wl171 (w_cons wl956 (w_cons wl169 (w_cons wl168 (w_cons wl167 (w_cons wl166 (w_cons wl165 (w_cons wl164 (w_cons wl163 w_nil)))))))))))))))))))))))
set_option maxRecDepth 20000 in
theorem in_wsX11_judge_r2 : ∀ w ∈ wsX11_judge_r2, w ∈ lw_tbl := w_cons wl32 (w_cons wl162 w_nil)
set_option maxRecDepth 20000 in
theorem in_wsX11_judge : ∀ w ∈ wsX11_judge, w ∈ lw_tbl := w_cons wl1257 (w_app (w_app (w_app (w_app (in_wsX11_judge_r1) (in_wsX11_judge_r2)) (in_wsX110)) (in_wsX70)) (in_wsX30))
set_option maxRecDepth 20000 in
theorem in_wsX12_judge : ∀ w ∈ wsX12_judge, w ∈ lw_tbl := w_cons wl1261 (w_app (w_cons wl127 (w_cons wl126 (w_cons wl136 (w_cons wl125 (w_cons wl973 (w_cons wl972 (w_cons wl194 (w_cons wl971 (w_cons wl280 (w_cons wl191 (w_cons wl190 (w_cons wl189 (w_cons wl184 (w_cons wl183 (w_cons wl182 (w_cons wl181 (w_cons wl133 (w_cons wl180 (w_cons wl218 (w_cons wl217 (w_cons wl216 (w_cons wl215 w_nil)))))))))))))))))))))) (in_wsX120))
set_option maxRecDepth 20000 in
theorem in_wsX11_image_r1 : ∀ w ∈ wsX11_image_r1, w ∈ lw_tbl := w_cons wl42 (w_cons wl44 (w_cons wl1273 (w_cons wl1272 (w_cons wl1271 (w_cons wl1270 (w_cons wl45 (w_cons wl1269 (w_cons wl88 (w_cons wl872 (w_cons wl529 (w_cons wl528 (w_cons wl527 (w_cons wl1268 (w_cons wl87 (w_cons wl86 (w_cons wl1267 (w_cons wl1266 (w_cons wl867 (w_cons wl874 (w_cons wl873 (w_cons wl59 (w_cons wl767 (w_cons wl719 w_nil)))))))))))))))))))))))
set_option maxRecDepth 20000 in
theorem in_wsX11_image_r2 : ∀ w ∈ wsX11_image_r2, w ∈ lw_tbl := w_cons wl58 (w_cons wl57 (w_cons wl56 (w_cons wl202 (w_cons wl55 (w_cons wl54 (w_cons wl53 (w_cons wl51 (w_cons wl49 w_nil))))))))
set_option maxRecDepth 20000 in
theorem in_wsX11_image : ∀ w ∈ wsX11_image, w ∈ lw_tbl := w_cons wl1265 (w_app (w_app (w_app (in_wsX11_image_r1) (in_wsX11_image_r2)) (in_wsX110)) (in_wsX30))
set_option maxRecDepth 20000 in
theorem in_wsX12_image : ∀ w ∈ wsX12_image, w ∈ lw_tbl := w_cons wl1277 (w_app (w_cons wl135 (w_cons wl136 (w_cons wl1278 w_nil))) (in_wsX120))
set_option maxRecDepth 20000 in
theorem in_wsX11_restore_r1 : ∀ w ∈ wsX11_restore_r1, w ∈ lw_tbl := w_cons wl1273 (w_cons wl907 (w_cons wl44 (w_cons wl42 (w_cons wl725 (w_cons wl166 (w_cons wl165 (w_cons wl164 (w_cons wl171 (w_cons wl163 (w_cons wl32 (w_cons wl162 (w_cons wl1272 (w_cons wl1271 (w_cons wl1270 (w_cons wl45 (w_cons wl1269 (w_cons wl88 (w_cons wl872 (w_cons wl529 (w_cons wl528 (w_cons wl527 (w_cons wl1268 (w_cons wl87 w_nil)))))))))))))))))))))))
set_option maxRecDepth 20000 in
theorem in_wsX11_restore_r2 : ∀ w ∈ wsX11_restore_r2, w ∈ lw_tbl := w_cons wl86 (w_cons wl1267 (w_cons wl1266 (w_cons wl867 (w_cons wl874 (w_cons wl873 (w_cons wl59 (w_cons wl767 (w_cons wl719 (w_cons wl58 (w_cons wl57 (w_cons wl56 (w_cons wl202 (w_cons wl55 (w_cons wl54 (w_cons wl53 (w_cons wl51 (w_cons wl49 w_nil)))))))))))))))))
set_option maxRecDepth 20000 in
theorem in_wsX11_restore : ∀ w ∈ wsX11_restore, w ∈ lw_tbl := w_cons wl1282 (w_app (w_app (w_app (in_wsX11_restore_r1) (in_wsX11_restore_r2)) (in_wsX110)) (in_wsX30))
set_option maxRecDepth 20000 in
theorem in_wsX12_restore : ∀ w ∈ wsX12_restore, w ∈ lw_tbl := w_cons wl1286 (w_app (w_cons wl1278 (w_cons wl136 (w_cons wl135 (w_cons wl184 (w_cons wl183 (w_cons wl182 (w_cons wl194 (w_cons wl181 (w_cons wl133 (w_cons wl180 w_nil)))))))))) (in_wsX120))
set_option maxRecDepth 20000 in
theorem in_wsX11_tell : ∀ w ∈ wsX11_tell, w ∈ lw_tbl := w_cons wl1290 (w_app (w_app (w_cons wl44 (w_cons wl1292 (w_cons wl297 (w_cons wl1291 (w_cons wl166 (w_cons wl165 (w_cons wl164 (w_cons wl171 (w_cons wl163 (w_cons wl32 (w_cons wl162 w_nil))))))))))) (in_wsX110)) (in_wsX30))
set_option maxRecDepth 20000 in
theorem in_wsX12_tell : ∀ w ∈ wsX12_tell, w ∈ lw_tbl := w_cons wl1296 (w_app (w_cons wl136 (w_cons wl184 (w_cons wl183 (w_cons wl182 (w_cons wl194 (w_cons wl181 (w_cons wl133 (w_cons wl180 w_nil)))))))) (in_wsX120))
set_option maxRecDepth 20000 in
theorem in_wsX11_check_r1 : ∀ w ∈ wsX11_check_r1, w ∈ lw_tbl := w_cons wl43 (w_cons wl44 (w_cons wl1291 (w_cons wl1292 (w_cons wl868 (w_cons wl867 (w_cons wl874 (w_cons wl45 (w_cons wl873 (w_cons wl59 (w_cons wl872 (w_cons wl529 (w_cons wl528 (w_cons wl527 (w_cons wl767 (w_cons wl719 (w_cons wl58 (w_cons wl57 (w_cons wl56 (w_cons wl202 (w_cons wl55 (w_cons wl54 (w_cons wl53 (w_cons wl51 w_nil)))))))))))))))))))))))
set_option maxRecDepth 20000 in
theorem in_wsX11_check_r2 : ∀ w ∈ wsX11_check_r2, w ∈ lw_tbl := w_cons wl49 (w_cons wl966 (w_cons wl965 (w_cons wl964 (w_cons wl963 (w_cons wl962 (w_cons wl722 (w_cons wl721 (w_cons wl720 (w_cons wl718 (w_cons wl741 (w_cons wl740 (w_cons wl739 (w_cons wl85 (w_cons wl738 (w_cons wl737 (w_cons wl736 (w_cons wl735 (w_cons wl734 (w_cons wl733 (w_cons wl367 (w_cons wl732 (w_cons wl731 (w_cons wl730 w_nil)))))))))))))))))))))))
set_option maxRecDepth 20000 in
theorem in_wsX11_check_r3 : ∀ w ∈ wsX11_check_r3, w ∈ lw_tbl := w_cons wl729 (w_cons wl728 (w_cons wl168 (w_cons wl171 (w_cons wl167 (w_cons wl727 (w_cons wl726 (w_cons wl757 (w_cons wl755 (w_cons wl19 (w_cons wl756 (w_cons wl755 (w_cons wl754 (w_cons wl753 (w_cons wl1 (w_cons wl752 (w_cons wl751 (w_cons wl750 (w_cons wl347 (w_cons wl749 (w_cons wl10 (w_cons wl748 (w_cons wl747 (w_cons wl746 w_nil)))))))))))))))))))))))
set_option maxRecDepth 20000 in
theorem in_wsX11_check_r4 : ∀ w ∈ wsX11_check_r4, w ∈ lw_tbl := w_cons wl16 (w_cons wl745 (w_cons wl744 (w_cons wl340 (w_cons wl743 (w_cons wl742 (w_cons wl4 (w_cons wl766 (w_cons wl765 (w_cons wl764 (w_cons wl763 (w_cons wl7 (w_cons wl762 (w_cons wl761 (w_cons wl760 (w_cons wl759 (w_cons wl727 (w_cons wl758 (w_cons wl373 (w_cons wl372 (w_cons wl371 (w_cons wl370 (w_cons wl369 (w_cons wl368 w_nil)))))))))))))))))))))))
set_option maxRecDepth 20000 in
theorem in_wsX11_check_r5 : ∀ w ∈ wsX11_check_r5, w ∈ lw_tbl := w_cons wl367 (w_cons wl366 (w_cons wl365 (w_cons wl364 (w_cons wl363 (w_cons wl362 (w_cons wl361 (w_cons wl360 (w_cons wl359 (w_cons wl358 (w_cons wl385 (w_cons wl384 (w_cons wl383 (w_cons wl382 (w_cons wl381 (w_cons wl380 (w_cons wl210 (w_cons wl209 (w_cons wl208 (w_cons wl772 (w_cons wl437 (w_cons wl436 (w_cons wl435 (w_cons wl439 w_nil)))))))))))))))))))))))
set_option maxRecDepth 20000 in
theorem in_wsX11_check_r6 : ∀ w ∈ wsX11_check_r6, w ∈ lw_tbl := w_cons wl771 (w_cons wl770 (w_cons wl769 (w_cons wl768 (w_cons wl773 (w_cons wl333 (w_cons wl332 (w_cons wl331 (w_cons wl330 (w_cons wl317 (w_cons wl316 (w_cons wl338 (w_cons wl337 (w_cons wl336 (w_cons wl335 (w_cons wl329 (w_cons wl328 (w_cons wl327 (w_cons wl326 (w_cons wl325 (w_cons wl324 (w_cons wl323 (w_cons wl357 (w_cons wl356 w_nil)))))))))))))))))))))))
set_option maxRecDepth 20000 in
theorem in_wsX11_check_r7 : ∀ w ∈ wsX11_check_r7, w ∈ lw_tbl := w_cons wl355 (w_cons wl353 (w_cons wl354 (w_cons wl353 (w_cons wl352 (w_cons wl351 (w_cons wl350 (w_cons wl349 (w_cons wl348 (w_cons wl346 (w_cons wl345 (w_cons wl344 (w_cons wl343 (w_cons wl342 (w_cons wl341 (w_cons wl339 (w_cons wl378 (w_cons wl377 (w_cons wl376 (w_cons wl375 (w_cons wl357 (w_cons wl374 (w_cons wl778 (w_cons wl777 w_nil)))))))))))))))))))))))
set_option maxRecDepth 20000 in
theorem in_wsX11_check_r8 : ∀ w ∈ wsX11_check_r8, w ∈ lw_tbl := w_cons wl776 (w_cons wl775 (w_cons wl774 (w_cons wl13 (w_cons wl800 (w_cons wl799 (w_cons wl798 (w_cons wl797 (w_cons wl796 (w_cons wl795 (w_cons wl794 (w_cons wl793 (w_cons wl792 (w_cons wl791 (w_cons wl776 (w_cons wl790 (w_cons wl789 (w_cons wl788 (w_cons wl787 (w_cons wl786 (w_cons wl778 (w_cons wl785 (w_cons wl784 (w_cons wl783 w_nil)))))))))))))))))))))))
set_option maxRecDepth 20000 in
theorem in_wsX11_check_r9 : ∀ w ∈ wsX11_check_r9, w ∈ lw_tbl := w_cons wl782 (w_cons wl781 (w_cons wl780 (w_cons wl779 (w_cons wl802 (w_cons wl801 w_nil)))))
set_option maxRecDepth 20000 in
theorem in_wsX11_check : ∀ w ∈ wsX11_check, w ∈ lw_tbl := w_cons wl1300 (w_app (w_app (w_app (w_app (in_wsX11_check_r1) (w_app (in_wsX11_check_r2) (w_app (in_wsX11_check_r3) (w_app (in_wsX11_check_r4) (w_app (in_wsX11_check_r5) (w_app (in_wsX11_check_r6) (w_app (in_wsX11_check_r7) (w_app (in_wsX11_check_r8) (in_wsX11_check_r9))))))))) (in_wsX110)) (in_wsX30)) (in_wsX90))
set_option maxRecDepth 20000 in
theorem in_wsX12_check_r1 : ∀ w ∈ wsX12_check_r1, w ∈ lw_tbl := w_cons wl136 (w_cons wl882 (w_cons wl881 (w_cons wl880 (w_cons wl194 (w_cons wl879 (w_cons wl134 (w_cons wl810 (w_cons wl809 (w_cons wl808 (w_cons wl807 (w_cons wl404 (w_cons wl403 (w_cons wl402 (w_cons wl401 (w_cons wl191 (w_cons wl190 (w_cons wl189 (w_cons wl831 (w_cons wl830 (w_cons wl829 (w_cons wl828 (w_cons wl218 (w_cons wl217 w_nil)))))))))))))))))))))))
set_option maxRecDepth 20000 in
theorem in_wsX12_check_r2 : ∀ w ∈ wsX12_check_r2, w ∈ lw_tbl := w_cons wl216 (w_cons wl215 (w_cons wl827 (w_cons wl826 (w_cons wl825 (w_cons wl824 (w_cons wl823 (w_cons wl822 (w_cons wl821 (w_cons wl820 (w_cons wl416 (w_cons wl415 (w_cons wl414 (w_cons wl413 (w_cons wl132 (w_cons wl412 (w_cons wl411 (w_cons wl410 (w_cons wl409 (w_cons wl130 (w_cons wl408 (w_cons wl407 (w_cons wl406 (w_cons wl430 w_nil)))))))))))))))))))))))
set_option maxRecDepth 20000 in
theorem in_wsX12_check_r3 : ∀ w ∈ wsX12_check_r3, w ∈ lw_tbl := w_cons wl429 (w_cons wl428 (w_cons wl306 (w_cons wl305 (w_cons wl304 (w_cons wl303 (w_cons wl835 (w_cons wl834 (w_cons wl833 (w_cons wl832 (w_cons wl400 (w_cons wl399 (w_cons wl398 (w_cons wl397 (w_cons wl427 (w_cons wl426 (w_cons wl425 (w_cons wl424 (w_cons wl423 (w_cons wl422 (w_cons wl421 (w_cons wl420 (w_cons wl419 (w_cons wl418 w_nil)))))))))))))))))))))))
set_option maxRecDepth 20000 in
theorem in_wsX12_check_r4 : ∀ w ∈ wsX12_check_r4, w ∈ lw_tbl := w_cons wl417 (w_cons wl839 (w_cons wl838 (w_cons wl837 (w_cons wl836 (w_cons wl889 (w_cons wl888 (w_cons wl887 (w_cons wl886 w_nil))))))))
set_option maxRecDepth 20000 in
theorem in_wsX12_check : ∀ w ∈ wsX12_check, w ∈ lw_tbl := w_cons wl1304 (w_app (w_app (in_wsX12_check_r1) (w_app (in_wsX12_check_r2) (w_app (in_wsX12_check_r3) (in_wsX12_check_r4)))) (in_wsX120))
set_option maxRecDepth 20000 in
theorem in_wsX11_count_r1 : ∀ w ∈ wsX11_count_r1, w ∈ lw_tbl := w_cons wl44 (w_cons wl298 (w_cons wl725 (w_cons wl207 (w_cons wl472 (w_cons wl1292 (w_cons wl38 (w_cons wl1201 (w_cons wl1060 (w_cons wl175 (w_cons wl894 (w_cons wl328 (w_cons wl327 (w_cons wl326 (w_cons wl325 (w_cons wl324 (w_cons wl323 (w_cons wl1312 (w_cons wl1311 (w_cons wl1310 (w_cons wl45 (w_cons wl1309 (w_cons wl202 (w_cons wl53 w_nil)))))))))))))))))))))))
set_option maxRecDepth 20000 in
theorem in_wsX11_count_r2 : ∀ w ∈ wsX11_count_r2, w ∈ lw_tbl := w_cons wl1026 (w_cons wl1025 (w_cons wl1024 (w_cons wl1023 (w_cons wl59 (w_cons wl1014 (w_cons wl1013 (w_cons wl1012 (w_cons wl1011 (w_cons wl330 (w_cons wl317 (w_cons wl316 (w_cons wl338 (w_cons wl51 (w_cons wl337 (w_cons wl336 (w_cons wl335 (w_cons wl210 (w_cons wl209 (w_cons wl208 (w_cons wl166 (w_cons wl165 (w_cons wl164 (w_cons wl171 w_nil)))))))))))))))))))))))
set_option maxRecDepth 20000 in
theorem in_wsX11_count_r3 : ∀ w ∈ wsX11_count_r3, w ∈ lw_tbl := w_cons wl163 (w_cons wl32 (w_cons wl162 w_nil))
set_option maxRecDepth 20000 in
theorem in_wsX11_count : ∀ w ∈ wsX11_count, w ∈ lw_tbl := w_cons wl1308 (w_app (w_app (w_app (w_app (in_wsX11_count_r1) (w_app (in_wsX11_count_r2) (in_wsX11_count_r3))) (in_wsX110)) (in_wsX30)) (in_wsX100))
set_option maxRecDepth 20000 in
theorem in_wsX12_count_r1 : ∀ w ∈ wsX12_count_r1, w ∈ lw_tbl := w_cons wl136 (w_cons wl1176 (w_cons wl419 (w_cons wl418 (w_cons wl194 (w_cons wl417 (w_cons wl1324 (w_cons wl1323 (w_cons wl1322 (w_cons wl1321 (w_cons wl1320 (w_cons wl1319 (w_cons wl1318 (w_cons wl1317 (w_cons wl400 (w_cons wl399 (w_cons wl398 (w_cons wl397 (w_cons wl218 (w_cons wl217 (w_cons wl216 (w_cons wl215 (w_cons wl184 (w_cons wl183 w_nil)))))))))))))))))))))))
set_option maxRecDepth 20000 in
theorem in_wsX12_count_r2 : ∀ w ∈ wsX12_count_r2, w ∈ lw_tbl := w_cons wl182 (w_cons wl181 (w_cons wl133 (w_cons wl180 w_nil)))
set_option maxRecDepth 20000 in
theorem in_wsX12_count : ∀ w ∈ wsX12_count, w ∈ lw_tbl := w_cons wl1316 (w_app (w_app (in_wsX12_count_r1) (in_wsX12_count_r2)) (in_wsX120))
set_option maxRecDepth 20000 in
theorem in_wsX11_told : ∀ w ∈ wsX11_told, w ∈ lw_tbl := w_cons wl1328 (w_app (w_cons wl32 (w_cons wl175 (w_cons wl169 (w_cons wl168 (w_cons wl171 (w_cons wl167 (w_cons wl166 (w_cons wl165 (w_cons wl164 (w_cons wl163 (w_cons wl162 w_nil))))))))))) (in_wsX110))
set_option maxRecDepth 20000 in
theorem in_wsX12_told : ∀ w ∈ wsX12_told, w ∈ lw_tbl := w_cons wl1332 (w_app (w_cons wl262 (w_cons wl133 (w_cons wl191 (w_cons wl190 (w_cons wl194 (w_cons wl189 (w_cons wl184 (w_cons wl183 (w_cons wl182 (w_cons wl181 (w_cons wl180 w_nil))))))))))) (in_wsX120))
set_option maxRecDepth 20000 in
theorem in_wsJx145de0 : ∀ w ∈ wsJx145de0, w ∈ lw_tbl := w_nil
set_option maxRecDepth 20000 in
theorem in_wsJx9f9b00 : ∀ w ∈ wsJx9f9b00, w ∈ lw_tbl := w_nil
set_option maxRecDepth 20000 in
theorem in_wsJ110 : ∀ w ∈ wsJ110, w ∈ lw_tbl := w_nil
set_option maxRecDepth 20000 in
theorem in_wsJx8e1880 : ∀ w ∈ wsJx8e1880, w ∈ lw_tbl := w_nil
set_option maxRecDepth 20000 in
theorem in_wsJxb160c0 : ∀ w ∈ wsJxb160c0, w ∈ lw_tbl := w_nil
set_option maxRecDepth 20000 in
theorem in_wsJ60 : ∀ w ∈ wsJ60, w ∈ lw_tbl := w_nil
set_option maxRecDepth 20000 in
theorem in_wsJ90 : ∀ w ∈ wsJ90, w ∈ lw_tbl := w_nil
set_option maxRecDepth 20000 in
theorem in_wsJ00 : ∀ w ∈ wsJ00, w ∈ lw_tbl := w_nil
set_option maxRecDepth 20000 in
theorem in_wsJ10 : ∀ w ∈ wsJ10, w ∈ lw_tbl := w_nil
set_option maxRecDepth 20000 in
theorem in_wsJ20 : ∀ w ∈ wsJ20, w ∈ lw_tbl := w_nil
set_option maxRecDepth 20000 in
theorem in_wsJ100 : ∀ w ∈ wsJ100, w ∈ lw_tbl := w_nil
set_option maxRecDepth 20000 in
theorem in_wsJxfd54e0 : ∀ w ∈ wsJxfd54e0, w ∈ lw_tbl := w_nil
set_option maxRecDepth 20000 in
theorem in_wsJx3cf430 : ∀ w ∈ wsJx3cf430, w ∈ lw_tbl := w_nil
set_option maxRecDepth 20000 in
theorem in_wsJ70 : ∀ w ∈ wsJ70, w ∈ lw_tbl := w_nil
set_option maxRecDepth 20000 in
theorem in_wsJ30 : ∀ w ∈ wsJ30, w ∈ lw_tbl := w_nil
