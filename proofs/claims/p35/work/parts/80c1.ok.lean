theorem jw_M_reads : jv_ok jm_M_reads = true := by decide +kernel
theorem jx_M_reads : jv_mk jm_M_reads 945 944 99 38 = true := by decide +kernel
theorem jw_M_next : jv_ok jm_M_next = true := by decide +kernel
theorem jx_M_next : jv_mk jm_M_next 949 948 99 39 = true := by decide +kernel
theorem jw_M_byteAt : jv_ok jm_M_byteAt = true := by decide +kernel
theorem jx_M_byteAt : jv_mk jm_M_byteAt 953 952 99 40 = true := by decide +kernel
theorem jw_M_isLetter : jv_ok jm_M_isLetter = true := by decide +kernel
theorem jx_M_isLetter : jv_mk jm_M_isLetter 956 955 99 0 = true := by decide +kernel
theorem jw_M_spelled : jv_ok jm_M_spelled = true := by decide +kernel
theorem jx_M_spelled : jv_mk jm_M_spelled 960 959 99 41 = true := by decide +kernel
theorem jw_M_isDigit : jv_ok jm_M_isDigit = true := by decide +kernel
theorem jx_M_isDigit : jv_mk jm_M_isDigit 963 962 99 0 = true := by decide +kernel
theorem jw_M_number : jv_ok jm_M_number = true := by decide +kernel
theorem jx_M_number : jv_mk jm_M_number 967 966 99 42 = true := by decide +kernel
theorem jw_M_need : jv_ok jm_M_need = true := by decide +kernel
theorem jx_M_need : jv_mk jm_M_need 971 970 99 43 = true := by decide +kernel
theorem jw_M_isWrong : jv_ok jm_M_isWrong = true := by decide +kernel
theorem jx_M_isWrong : jv_mk jm_M_isWrong 975 974 99 44 = true := by decide +kernel
theorem jw_M_cannot : jv_ok jm_M_cannot = true := by decide +kernel
theorem jx_M_cannot : jv_mk jm_M_cannot 979 978 99 45 = true := by decide +kernel
theorem jw_M_either : jv_ok jm_M_either = true := by decide +kernel
theorem jx_M_either : jv_mk jm_M_either 983 982 99 46 = true := by decide +kernel
theorem jw_M_both : jv_ok jm_M_both = true := by decide +kernel
theorem jx_M_both : jv_mk jm_M_both 987 986 99 47 = true := by decide +kernel
theorem jw_M_not : jv_ok jm_M_not = true := by decide +kernel
theorem jx_M_not : jv_mk jm_M_not 991 990 99 48 = true := by decide +kernel
theorem jw_M_opens : jv_ok jm_M_opens = true := by decide +kernel
theorem jx_M_opens : jv_mk jm_M_opens 995 994 99 49 = true := by decide +kernel
theorem jw_M_emit : jv_ok jm_M_emit = true := by decide +kernel
theorem jx_M_emit : jv_mk jm_M_emit 999 998 99 50 = true := by decide +kernel
theorem jw_M_added : jv_ok jm_M_added = true := by decide +kernel
theorem jx_M_added : jv_mk jm_M_added 1003 1002 99 51 = true := by decide +kernel
theorem jw_M_term : jv_ok jm_M_term = true := by decide +kernel
theorem jx_M_term : jv_mk jm_M_term 1007 1006 99 52 = true := by decide +kernel
theorem jw_M_one : jv_ok jm_M_one = true := by decide +kernel
theorem jx_M_one : jv_mk jm_M_one 1011 1010 99 53 = true := by decide +kernel
theorem jw_M_member : jv_ok jm_M_member = true := by decide +kernel
theorem jx_M_member : jv_mk jm_M_member 1194 1192 99 1193 = true := by decide +kernel
theorem jw_M_in : jv_ok jm_M_in = true := by decide +kernel
theorem jx_M_in : jv_mk jm_M_in 1197 1196 99 0 = true := by decide +kernel
theorem jw_M_like : jv_ok jm_M_like = true := by decide +kernel
theorem jx_M_like : jv_mk jm_M_like 1201 1199 99 1200 = true := by decide +kernel
theorem jw_M_isMember : jv_ok jm_M_isMember = true := by decide +kernel
theorem jx_M_isMember : jv_mk jm_M_isMember 1205 1204 99 54 = true := by decide +kernel
theorem jw_M_isWord : jv_ok jm_M_isWord = true := by decide +kernel
theorem jx_M_isWord : jv_mk jm_M_isWord 1208 1207 99 0 = true := by decide +kernel
theorem jw_M_comes : jv_ok jm_M_comes = true := by decide +kernel
theorem jx_M_comes : jv_mk jm_M_comes 1212 1210 99 1211 = true := by decide +kernel
theorem jw_M_pair : jv_ok jm_M_pair = true := by decide +kernel
theorem jx_M_pair : jv_mk jm_M_pair 1216 1214 99 1215 = true := by decide +kernel
theorem jw_M_part : jv_ok jm_M_part = true := by decide +kernel
theorem jx_M_part : jv_mk jm_M_part 1220 1218 99 1219 = true := by decide +kernel
theorem jw_M_ask : jv_ok jm_M_ask = true := by decide +kernel
theorem jx_M_ask : jv_mk jm_M_ask 1224 1222 99 1223 = true := by decide +kernel
theorem jw_M_memberTold : jv_ok jm_M_memberTold = true := by decide +kernel
theorem jx_M_memberTold : jv_mk jm_M_memberTold 1228 1226 99 1227 = true := by decide +kernel
theorem jw_M_bill : jv_ok jm_M_bill = true := by decide +kernel
theorem jx_M_bill : jv_mk jm_M_bill 1232 1230 99 1231 = true := by decide +kernel
theorem jw_M_section : jv_ok jm_M_section = true := by decide +kernel
theorem jx_M_section : jv_mk jm_M_section 1236 1234 99 1235 = true := by decide +kernel
theorem jw_M_isBill : jv_ok jm_M_isBill = true := by decide +kernel
theorem jx_M_isBill : jv_mk jm_M_isBill 1240 1239 99 55 = true := by decide +kernel
theorem jw_M_billTold : jv_ok jm_M_billTold = true := by decide +kernel
theorem jx_M_billTold : jv_mk jm_M_billTold 1244 1242 99 1243 = true := by decide +kernel
theorem jw_M_placeOf : jv_ok jm_M_placeOf = true := by decide +kernel
theorem jx_M_placeOf : jv_mk jm_M_placeOf 1248 1247 99 56 = true := by decide +kernel
theorem jw_M_bits : jv_ok jm_M_bits = true := by decide +kernel
theorem jx_M_bits : jv_mk jm_M_bits 1251 1250 99 0 = true := by decide +kernel
theorem jw_M_word : jv_ok jm_M_word = true := by decide +kernel
theorem jx_M_word : jv_mk jm_M_word 1255 1253 99 1254 = true := by decide +kernel
theorem jw_M_worth : jv_ok jm_M_worth = true := by decide +kernel
theorem jx_M_worth : jv_mk jm_M_worth 1259 1257 99 1258 = true := by decide +kernel
theorem jw_M_takes : jv_ok jm_M_takes = true := by decide +kernel
theorem jx_M_takes : jv_mk jm_M_takes 1264 1263 99 57 = true := by decide +kernel
theorem jw_M_valued : jv_ok jm_M_valued = true := by decide +kernel
theorem jx_M_valued : jv_mk jm_M_valued 1268 1267 99 58 = true := by decide +kernel
theorem jw_M_report : jv_ok jm_M_report = true := by decide +kernel
theorem jx_M_report : jv_mk jm_M_report 1272 1270 99 1271 = true := by decide +kernel
theorem jw_M_lists : jv_ok jm_M_lists = true := by decide +kernel
theorem jx_M_lists : jv_mk jm_M_lists 1276 1275 99 59 = true := by decide +kernel
theorem jw_M_sign : jv_ok jm_M_sign = true := by decide +kernel
theorem jx_M_sign : jv_mk jm_M_sign 1280 1278 99 1279 = true := by decide +kernel
theorem jw_M_call : jv_ok jm_M_call = true := by decide +kernel
theorem jx_M_call : jv_mk jm_M_call 1284 1282 99 1283 = true := by decide +kernel
theorem jw_M_feed : jv_ok jm_M_feed = true := by decide +kernel
theorem jx_M_feed : jv_mk jm_M_feed 1288 1286 99 1287 = true := by decide +kernel
theorem jw_M_text : jv_ok jm_M_text = true := by decide +kernel
theorem jx_M_text : jv_mk jm_M_text 1293 1291 99 1292 = true := by decide +kernel
theorem jw_M_says : jv_ok jm_M_says = true := by decide +kernel
theorem jx_M_says : jv_mk jm_M_says 1297 1295 99 1296 = true := by decide +kernel
