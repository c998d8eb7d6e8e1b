set_option maxRecDepth 100000 in
theorem ke217 : bke (5, smT) ctb 193 sc217 14 1000000 nl217 = true := by decide +kernel
set_option maxRecDepth 100000 in
theorem kn217_0 : bkn (5, smT) ctb 193 sc217 1000000 nl217 nd217_0 = true := by decide +kernel
set_option maxRecDepth 100000 in
theorem ke218 : bke (5, smT) ctb 194 sc218 157 1000000 nl218 = true := by decide +kernel
set_option maxRecDepth 100000 in
theorem kn218_0 : bkn (5, smT) ctb 194 sc218 1000000 nl218 nd218_0 = true := by decide +kernel
set_option maxRecDepth 100000 in
theorem kn218_1 : bkn (5, smT) ctb 194 sc218 1000000 nl218 nd218_1 = true := by decide +kernel
set_option maxRecDepth 100000 in
theorem ke219 : bke (5, smT) ctb 195 sc219 25711 1000000 nl219 = true := by decide +kernel
set_option maxRecDepth 100000 in
theorem kn219_0 : bkn (5, smT) ctb 195 sc219 1000000 nl219 nd219_0 = true := by decide +kernel
set_option maxRecDepth 100000 in
theorem kn219_1 : bkn (5, smT) ctb 195 sc219 1000000 nl219 nd219_1 = true := by decide +kernel
set_option maxRecDepth 100000 in
theorem kn219_2 : bkn (5, smT) ctb 195 sc219 1000000 nl219 nd219_2 = true := by decide +kernel
set_option maxRecDepth 100000 in
theorem ke220 : bke (4, smT) ctb 196 sc220 4111 1000000 nl220 = true := by decide +kernel
set_option maxRecDepth 100000 in
theorem kn220_0 : bkn (4, smT) ctb 196 sc220 1000000 nl220 nd220_0 = true := by decide +kernel
set_option maxRecDepth 100000 in
theorem kn220_1 : bkn (4, smT) ctb 196 sc220 1000000 nl220 nd220_1 = true := by decide +kernel
set_option maxRecDepth 100000 in
theorem ke221 : bke (0, smT) ctb 197 sc221 14 1000000 nl221 = true := by decide +kernel
set_option maxRecDepth 100000 in
theorem kn221_0 : bkn (0, smT) ctb 197 sc221 1000000 nl221 nd221_0 = true := by decide +kernel
set_option maxRecDepth 100000 in
theorem ke222 : bke (6, smT) ctb 198 sc222 26 1000000 nl222 = true := by decide +kernel
set_option maxRecDepth 100000 in
theorem kn222_0 : bkn (6, smT) ctb 198 sc222 1000000 nl222 nd222_0 = true := by decide +kernel
set_option maxRecDepth 100000 in
theorem ke223 : bke (5, smT) ctb 199 sc223 26 1000000 nl223 = true := by decide +kernel
set_option maxRecDepth 100000 in
theorem kn223_0 : bkn (5, smT) ctb 199 sc223 1000000 nl223 nd223_0 = true := by decide +kernel
set_option maxRecDepth 100000 in
theorem ke224 : bke (4, smT) ctb 200 sc224 303 1000000 nl224 = true := by decide +kernel
set_option maxRecDepth 100000 in
theorem kn224_0 : bkn (4, smT) ctb 200 sc224 1000000 nl224 nd224_0 = true := by decide +kernel
set_option maxRecDepth 100000 in
theorem ke225 : bke (4, smT) ctb 201 sc225 303 1000000 nl225 = true := by decide +kernel
set_option maxRecDepth 100000 in
theorem kn225_0 : bkn (4, smT) ctb 201 sc225 1000000 nl225 nd225_0 = true := by decide +kernel
set_option maxRecDepth 100000 in
theorem ke226 : bke (5, smT) ctb 202 sc226 102 1000000 nl226 = true := by decide +kernel
set_option maxRecDepth 100000 in
theorem kn226_0 : bkn (5, smT) ctb 202 sc226 1000000 nl226 nd226_0 = true := by decide +kernel
set_option maxRecDepth 100000 in
theorem ke227 : bke (5, smT) ctb 203 sc227 27 1000000 nl227 = true := by decide +kernel
set_option maxRecDepth 100000 in
theorem kn227_0 : bkn (5, smT) ctb 203 sc227 1000000 nl227 nd227_0 = true := by decide +kernel
set_option maxRecDepth 100000 in
theorem ke228 : bke (5, smT) ctb 204 sc228 26 1000000 nl228 = true := by decide +kernel
set_option maxRecDepth 100000 in
theorem kn228_0 : bkn (5, smT) ctb 204 sc228 1000000 nl228 nd228_0 = true := by decide +kernel
set_option maxRecDepth 100000 in
theorem ke229 : bke (6, smT) ctb 205 sc229 14 1000000 nl229 = true := by decide +kernel
set_option maxRecDepth 100000 in
theorem kn229_0 : bkn (6, smT) ctb 205 sc229 1000000 nl229 nd229_0 = true := by decide +kernel
set_option maxRecDepth 100000 in
theorem ke230 : bke (5, smT) ctb 206 sc230 10 1000000 nl230 = true := by decide +kernel
set_option maxRecDepth 100000 in
theorem kn230_0 : bkn (5, smT) ctb 206 sc230 1000000 nl230 nd230_0 = true := by decide +kernel
set_option maxRecDepth 100000 in
theorem ke231 : bke (5, smT) ctb 207 sc231 102 1000000 nl231 = true := by decide +kernel
set_option maxRecDepth 100000 in
theorem kn231_0 : bkn (5, smT) ctb 207 sc231 1000000 nl231 nd231_0 = true := by decide +kernel
set_option maxRecDepth 100000 in
theorem ke232 : bke (0, smT) ctb 212 sc232 3 1000000 nl232 = true := by decide +kernel
set_option maxRecDepth 100000 in
theorem kn232_1 : bkn (0, smT) ctb 212 sc232 1000000 nl232 nd232_1 = true := by decide +kernel
set_option maxRecDepth 100000 in
theorem ke233 : bke (0, smT) ctb 213 sc233 3 1000000 nl233 = true := by decide +kernel
set_option maxRecDepth 100000 in
theorem kn233_1 : bkn (0, smT) ctb 213 sc233 1000000 nl233 nd233_1 = true := by decide +kernel
set_option maxRecDepth 100000 in
theorem ke234 : bke (0, smT) ctb 214 sc234 5 1000000 nl234 = true := by decide +kernel
set_option maxRecDepth 100000 in
theorem kn234_2 : bkn (0, smT) ctb 214 sc234 1000000 nl234 nd234_2 = true := by decide +kernel
set_option maxRecDepth 100000 in
theorem kn234_3 : bkn (0, smT) ctb 214 sc234 1000000 nl234 nd234_3 = true := by decide +kernel
set_option maxRecDepth 100000 in
theorem ke235 : bke (0, smT) ctb 215 sc235 3 1000000 nl235 = true := by decide +kernel
set_option maxRecDepth 100000 in
theorem kn235_1 : bkn (0, smT) ctb 215 sc235 1000000 nl235 nd235_1 = true := by decide +kernel
set_option maxRecDepth 100000 in
theorem ke236 : bke (0, smT) ctb 224 sc236 10 1000000 nl236 = true := by decide +kernel
set_option maxRecDepth 100000 in
theorem kn236_0 : bkn (0, smT) ctb 224 sc236 1000000 nl236 nd236_0 = true := by decide +kernel
set_option maxRecDepth 100000 in
theorem ke237 : bke (0, smT) ctb 224 sc237 10 1000000 nl237 = true := by decide +kernel
set_option maxRecDepth 100000 in
theorem kn237_0 : bkn (0, smT) ctb 224 sc237 1000000 nl237 nd237_0 = true := by decide +kernel
set_option maxRecDepth 100000 in
theorem ke238 : bke (0, smT) ctb 230 sc238 22 1000000 nl238 = true := by decide +kernel
set_option maxRecDepth 100000 in
theorem kn238_0 : bkn (0, smT) ctb 230 sc238 1000000 nl238 nd238_0 = true := by decide +kernel
set_option maxRecDepth 100000 in
theorem ke239 : bke (1, smT) ctb 235 sc239 401 1000000 nl239 = true := by decide +kernel
set_option maxRecDepth 100000 in
theorem kn239_0 : bkn (1, smT) ctb 235 sc239 1000000 nl239 nd239_0 = true := by decide +kernel
set_option maxRecDepth 100000 in
theorem ke240 : bke (2, smT) ctb 236 sc240 402 1000000 nl240 = true := by decide +kernel
set_option maxRecDepth 100000 in
theorem kn240_0 : bkn (2, smT) ctb 236 sc240 1000000 nl240 nd240_0 = true := by decide +kernel
set_option maxRecDepth 100000 in
theorem ke241 : bke (0, smT) ctb 237 sc241 0 1000000 nl241 = true := by decide +kernel
set_option maxRecDepth 100000 in
theorem ke242 : bke (0, smT) ctb 237 sc242 0 1000000 nl242 = true := by decide +kernel
set_option maxRecDepth 100000 in
theorem ke243 : bke (0, smT) ctb 237 sc243 0 1000000 nl243 = true := by decide +kernel
set_option maxRecDepth 100000 in
theorem ke244 : bke (0, smT) ctb 237 sc244 0 1000000 nl244 = true := by decide +kernel
set_option maxRecDepth 100000 in
theorem ke245 : bke (0, smT) ctb 237 sc245 0 1000000 nl245 = true := by decide +kernel
set_option maxRecDepth 100000 in
theorem ke246 : bke (0, smT) ctb 237 sc246 0 1000000 nl246 = true := by decide +kernel
set_option maxRecDepth 100000 in
theorem ke247 : bke (0, smT) ctb 237 sc247 0 1000000 nl247 = true := by decide +kernel
set_option maxRecDepth 100000 in
theorem ke248 : bke (0, smT) ctb 237 sc248 0 1000000 nl248 = true := by decide +kernel
set_option maxRecDepth 100000 in
theorem ke249 : bke (0, smT) ctb 237 sc249 0 1000000 nl249 = true := by decide +kernel
set_option maxRecDepth 100000 in
theorem ke250 : bke (0, smT) ctb 237 sc250 0 1000000 nl250 = true := by decide +kernel
set_option maxRecDepth 100000 in
theorem ke251 : bke (0, smT) ctb 237 sc251 0 1000000 nl251 = true := by decide +kernel
set_option maxRecDepth 100000 in
theorem ke252 : bke (0, smT) ctb 237 sc252 0 1000000 nl252 = true := by decide +kernel
set_option maxRecDepth 100000 in
theorem ke253 : bke (0, smT) ctb 237 sc253 0 1000000 nl253 = true := by decide +kernel
set_option maxRecDepth 100000 in
theorem ke254 : bke (0, smT) ctb 237 sc254 0 1000000 nl254 = true := by decide +kernel
set_option maxRecDepth 100000 in
theorem ke255 : bke (0, smT) ctb 237 sc255 0 1000000 nl255 = true := by decide +kernel
set_option maxRecDepth 100000 in
theorem ke256 : bke (0, smT) ctb 237 sc256 0 1000000 nl256 = true := by decide +kernel
set_option maxRecDepth 100000 in
theorem ke257 : bke (0, smT) ctb 237 sc257 0 1000000 nl257 = true := by decide +kernel
set_option maxRecDepth 100000 in
theorem ke258 : bke (0, smT) ctb 237 sc258 0 1000000 nl258 = true := by decide +kernel
set_option maxRecDepth 100000 in
theorem ke259 : bke (0, smT) ctb 237 sc259 0 1000000 nl259 = true := by decide +kernel
set_option maxRecDepth 100000 in
theorem ke260 : bke (0, smT) ctb 237 sc260 0 1000000 nl260 = true := by decide +kernel
set_option maxRecDepth 100000 in
theorem ke261 : bke (0, smT) ctb 237 sc261 0 1000000 nl261 = true := by decide +kernel
set_option maxRecDepth 100000 in
theorem ke262 : bke (0, smT) ctb 237 sc262 0 1000000 nl262 = true := by decide +kernel
set_option maxRecDepth 100000 in
theorem ke263 : bke (0, smT) ctb 237 sc263 0 1000000 nl263 = true := by decide +kernel
set_option maxRecDepth 100000 in
theorem ke264 : bke (0, smT) ctb 237 sc264 0 1000000 nl264 = true := by decide +kernel
set_option maxRecDepth 100000 in
theorem ke265 : bke (0, smT) ctb 237 sc265 0 1000000 nl265 = true := by decide +kernel
set_option maxRecDepth 100000 in
theorem ke266 : bke (2, smT) ctb 240 sc266 399 1000000 nl266 = true := by decide +kernel
set_option maxRecDepth 100000 in
theorem kn266_0 : bkn (2, smT) ctb 240 sc266 1000000 nl266 nd266_0 = true := by decide +kernel
set_option maxRecDepth 100000 in
theorem ke267 : bke (2, smT) ctb 240 sc267 402 1000000 nl267 = true := by decide +kernel
set_option maxRecDepth 100000 in
theorem kn267_0 : bkn (2, smT) ctb 240 sc267 1000000 nl267 nd267_0 = true := by decide +kernel
set_option maxRecDepth 100000 in
theorem ke268 : bke (2, smT) ctb 240 sc268 399 1000000 nl268 = true := by decide +kernel
set_option maxRecDepth 100000 in
theorem kn268_0 : bkn (2, smT) ctb 240 sc268 1000000 nl268 nd268_0 = true := by decide +kernel
set_option maxRecDepth 100000 in
theorem ke269 : bke (2, smT) ctb 240 sc269 398 1000000 nl269 = true := by decide +kernel
set_option maxRecDepth 100000 in
theorem kn269_0 : bkn (2, smT) ctb 240 sc269 1000000 nl269 nd269_0 = true := by decide +kernel
set_option maxRecDepth 100000 in
theorem ke270 : bke (2, smT) ctb 240 sc270 397 1000000 nl270 = true := by decide +kernel
set_option maxRecDepth 100000 in
theorem kn270_0 : bkn (2, smT) ctb 240 sc270 1000000 nl270 nd270_0 = true := by decide +kernel
set_option maxRecDepth 100000 in
theorem ke271 : bke (2, smT) ctb 240 sc271 398 1000000 nl271 = true := by decide +kernel
set_option maxRecDepth 100000 in
theorem kn271_0 : bkn (2, smT) ctb 240 sc271 1000000 nl271 nd271_0 = true := by decide +kernel
set_option maxRecDepth 100000 in
theorem ke272 : bke (2, smT) ctb 240 sc272 397 1000000 nl272 = true := by decide +kernel
set_option maxRecDepth 100000 in
theorem kn272_0 : bkn (2, smT) ctb 240 sc272 1000000 nl272 nd272_0 = true := by decide +kernel
set_option maxRecDepth 100000 in
theorem ke273 : bke (2, smT) ctb 240 sc273 398 1000000 nl273 = true := by decide +kernel
set_option maxRecDepth 100000 in
theorem kn273_0 : bkn (2, smT) ctb 240 sc273 1000000 nl273 nd273_0 = true := by decide +kernel
set_option maxRecDepth 100000 in
theorem ke274 : bke (0, smT) ctb 243 sc274 0 1000000 nl274 = true := by decide +kernel
set_option maxRecDepth 100000 in
theorem ke275 : bke (4, smT) ctb 247 sc275 13 1000000 nl275 = true := by decide +kernel
set_option maxRecDepth 100000 in
theorem kn275_0 : bkn (4, smT) ctb 247 sc275 1000000 nl275 nd275_0 = true := by decide +kernel
