/-! ===== the law: its cases (printed by wip/gen/rL3.py) ===== -/
theorem lgc_self (a : Int64) : lg_cmp a a = 0 := by
  unfold lg_cmp
  simp
section LW4
variable {G : jg} {d : Nat} {Q : jq} {M : mheap} {wa la oa F : Nat → Nat} {eu dv hi lo ot : Nat} {σ : rst} {code : Int32} {X Z rc rs N i : Nat} {xs : Nat → Int32}
theorem jj_tableIn {Y : jm} {pc : Nat} {L : List (Option Value)} {st : List Value} {dflt lo hi : Int} {offs : Array Int} {len : Nat} {x : Int32} {off : Int} {tgt : Nat} (hd : decode Y.2.1 pc = .ok (.tableswitch dflt lo hi offs, len)) (h1 : ¬ x.toInt < lo) (h2 : ¬ hi < x.toInt) (ho : offs[(x.toInt - lo).toNat]? = some off) (ht : (pc : Int) + off = (tgt : Int)) (k : jj G Y d Q rc rs tgt L st M) : jj G Y d Q rc rs pc L (.int x :: st) M := by
  intro p l e R s m args below meth c H locs cells slots ls F A B C E1 E2 E3 E4
  exact lv_tableIn F.1 F.2.1 hd h1 h2 ho ht (k p l e R s m args below meth c H locs cells slots ls F A B C E1 E2 E3 E4)
theorem jj_tableOut {Y : jm} {pc : Nat} {L : List (Option Value)} {st : List Value} {dflt lo hi : Int} {offs : Array Int} {len : Nat} {x : Int32} {tgt : Nat} (hd : decode Y.2.1 pc = .ok (.tableswitch dflt lo hi offs, len)) (h : x.toInt < lo ∨ hi < x.toInt) (ht : (pc : Int) + dflt = (tgt : Int)) (k : jj G Y d Q rc rs tgt L st M) : jj G Y d Q rc rs pc L (.int x :: st) M := by
  intro p l e R s m args below meth c H locs cells slots ls F A B C E1 E2 E3 E4
  exact lv_tableOut F.1 F.2.1 hd h ht (k p l e R s m args below meth c H locs cells slots ls F A B C E1 E2 E3 E4)
theorem law_make {o5 o6 : Option Value} (hG : kG G) (hs : jj_scr G N xs) (hi8 : i + 8 ≤ N) (hN : N ≤ 4096) (hJ : XJ wa la capx oa eu dv hi lo) (hH : HW M wa la oa F eu dv hi lo ot σ σ code (X + 6) (Z + 1) rc rs) (K : ∀ (M' : mheap) (σ' : rst) (code' : Int32) (rc' rs' : Nat) (p5 p6 : Option Value), HW M' wa la oa F eu dv hi lo ot σ' σ' code' X Z rc' rs' → jj G kL_law (d + 17) Q rc' rs' 1699 [some (.ref G.2.2.2.2.2), some (.ref (oa 0)), some (.ref (F 9)), some (.ref ot), some (.int (nI (i))), p5, p6] [] M') : jj G kL_law (d + 17) Q rc rs 136 [some (.ref G.2.2.2.2.2), some (.ref (oa 0)), some (.ref (F 9)), some (.ref ot), some (.int (nI (i))), o5, o6] [] M := by
  have hcell := hH.2.1.cell
  show jj G kL_law (d + 17) Q rc rs 136 [some (.ref G.2.2.2.2.2), some (.ref (oa 0)), some (.ref (F 9)), some (.ref ot), some (.int (nI (i))), (o5), (o6)] [] M
  refine jj_aload_n (pc := 136) kL_law_d136 rfl ?_
  refine jj_aload_n (pc := 137) kL_law_d137 rfl ?_
  refine jj_iload (pc := 138) kL_law_d138 rfl ?_
  refine jn_iconst (pc := 140) 1 kL_law_d140 (by decide) ?_
  refine jn_iadd (pc := 141) (i + 1) kL_law_d141 (by omega) ?_
  refine jj_sld (pc := 142) (i := i + 1) kL_law_d142 hs rfl rfl (by omega) ?_
  refine jj_aload_n (pc := 143) kL_law_d143 rfl ?_
  refine jj_iload (pc := 144) kL_law_d144 rfl ?_
  refine jn_iconst (pc := 146) 2 kL_law_d146 (by decide) ?_
  refine jn_iadd (pc := 147) (i + 2) kL_law_d147 (by omega) ?_
  refine jj_sld (pc := 148) (i := i + 2) kL_law_d148 hs rfl rfl (by omega) ?_
  refine jj_aload_n (pc := 149) kL_law_d149 rfl ?_
  refine jj_iload (pc := 150) kL_law_d150 rfl ?_
  refine jn_iconst (pc := 152) 3 kL_law_d152 (by decide) ?_
  refine jn_iadd (pc := 153) (i + 3) kL_law_d153 (by omega) ?_
  refine jj_sld (pc := 154) (i := i + 3) kL_law_d154 hs rfl rfl (by omega) ?_
  refine jj_callS (pc := 155) (As := [.ref (oa 0), .int (xs (i + 1)), .int (xs (i + 2)), .int (xs (i + 3))]) kL_law_d155 (kvL_L_make hG) rfl rfl rfl (Nat.le_of_ble_eq_true rfl) (Nat.le_of_ble_eq_true rfl) (jj_bare0 rfl) ?_
  refine lm_make hG hJ hH (fun M1 cd σ1 rc1 rs1 hs1 hW hcd => ?_)
  show jj G kL_law (d + 17) Q rc1 rs1 158 [some (.ref G.2.2.2.2.2), some (.ref (oa 0)), some (.ref (F 9)), some (.ref ot), some (.int (nI (i))), (o5), (o6)] [.int (nI (cd))] M1
  refine jj_istore (pc := 158) kL_law_d158 (Nat.le_of_ble_eq_true rfl) ?_
  show jj G kL_law (d + 17) Q rc1 rs1 160 [some (.ref G.2.2.2.2.2), some (.ref (oa 0)), some (.ref (F 9)), some (.ref ot), some (.int (nI (i))), some (.int (nI (cd))), (o6)] [] M1
  refine jj_aload_n (pc := 160) kL_law_d160 rfl ?_
  refine jj_aload_n (pc := 161) kL_law_d161 rfl ?_
  refine jj_iload (pc := 162) kL_law_d162 rfl ?_
  refine jn_iconst (pc := 164) 1 kL_law_d164 (by decide) ?_
  refine jn_iadd (pc := 165) (i + 1) kL_law_d165 (by omega) ?_
  refine jj_sld (pc := 166) (i := i + 1) kL_law_d166 hs rfl rfl (by omega) ?_
  refine jj_aload_n (pc := 167) kL_law_d167 rfl ?_
  refine jj_iload (pc := 168) kL_law_d168 rfl ?_
  refine jn_iconst (pc := 170) 2 kL_law_d170 (by decide) ?_
  refine jn_iadd (pc := 171) (i + 2) kL_law_d171 (by omega) ?_
  refine jj_sld (pc := 172) (i := i + 2) kL_law_d172 hs rfl rfl (by omega) ?_
  refine jj_aload_n (pc := 173) kL_law_d173 rfl ?_
  refine jj_iload (pc := 174) kL_law_d174 rfl ?_
  refine jn_iconst (pc := 176) 3 kL_law_d176 (by decide) ?_
  refine jn_iadd (pc := 177) (i + 3) kL_law_d177 (by omega) ?_
  refine jj_sld (pc := 178) (i := i + 3) kL_law_d178 hs rfl rfl (by omega) ?_
  refine jj_callV (pc := 179) (b := (F 9)) (As := [.int (xs (i + 1)), .int (xs (i + 2)), .int (xs (i + 3))]) kL_law_d179 (kvL_R_make hG) (kG_cl hG rfl) rfl hW.2.1.cell rfl rfl rfl (Nat.le_of_ble_eq_true rfl) (Nat.le_of_ble_eq_true rfl) (jj_bare0 rfl) ?_
  refine rp_make hG rfl hW.2.1 hW.2.2.1 (fun M2 cd2 σ2 rc2 rs2 hs2 hL2 hT2 hF2 => ?_)
  obtain ⟨ec, es⟩ := semMake_det hs1 hs2
  subst ec es
  obtain ⟨hW2, hot2⟩ := hW.ref hT2 hF2 hL2
  show jj G kL_law (d + 17) Q rc2 rs2 182 [some (.ref G.2.2.2.2.2), some (.ref (oa 0)), some (.ref (F 9)), some (.ref ot), some (.int (nI (i))), some (.int (nI (cd))), (o6)] [] M2
  refine jj_aload_n (pc := 182) kL_law_d182 rfl ?_
  refine jj_callV (pc := 183) (b := (F 9)) (As := []) kL_law_d183 (kvL_R_thrown hG) (kG_cl hG rfl) rfl hT2.cell rfl rfl rfl (Nat.le_of_ble_eq_true rfl) (Nat.le_of_ble_eq_true rfl) (jj_bare0 rfl) ?_
  refine rp_thrown hG rfl hT2 ?_
  show jj G kL_law (d + 17) Q rc2 rs2 186 [some (.ref G.2.2.2.2.2), some (.ref (oa 0)), some (.ref (F 9)), some (.ref ot), some (.int (nI (i))), some (.int (nI (cd))), (o6)] [.int (nI (cd))] M2
  refine jj_iload (pc := 186) kL_law_d186 rfl ?_
  refine jn_icmp_eq (pc := 188) (tgt := 193) kL_law_d188 (by decide) (by omega) (by omega) (fun _ => ?_) (fun c => by exfalso; omega)
  refine jj_goto (pc := 193) (tgt := 1699) kL_law_d193 (by decide) ?_
  show jj G kL_law (d + 17) Q rc2 rs2 1699 [some (.ref G.2.2.2.2.2), some (.ref (oa 0)), some (.ref (F 9)), some (.ref ot), some (.int (nI (i))), some (.int (nI (cd))), (o6)] [] M2
  exact K M2 σ1 (nI cd) rc2 rs2 _ _ hW2
theorem law_set {o5 o6 : Option Value} (hG : kG G) (hs : jj_scr G N xs) (hi8 : i + 8 ≤ N) (hN : N ≤ 4096) (hJ : XJ wa la capx oa eu dv hi lo) (hH : HW M wa la oa F eu dv hi lo ot σ σ code (X + 6) (Z + 1) rc rs) (K : ∀ (M' : mheap) (σ' : rst) (code' : Int32) (rc' rs' : Nat) (p5 p6 : Option Value), HW M' wa la oa F eu dv hi lo ot σ' σ' code' X Z rc' rs' → jj G kL_law (d + 17) Q rc' rs' 1699 [some (.ref G.2.2.2.2.2), some (.ref (oa 0)), some (.ref (F 9)), some (.ref ot), some (.int (nI (i))), p5, p6] [] M') : jj G kL_law (d + 17) Q rc rs 196 [some (.ref G.2.2.2.2.2), some (.ref (oa 0)), some (.ref (F 9)), some (.ref ot), some (.int (nI (i))), o5, o6] [] M := by
  have hcell := hH.2.1.cell
  show jj G kL_law (d + 17) Q rc rs 196 [some (.ref G.2.2.2.2.2), some (.ref (oa 0)), some (.ref (F 9)), some (.ref ot), some (.int (nI (i))), (o5), (o6)] [] M
  refine jj_aload_n (pc := 196) kL_law_d196 rfl ?_
  refine jj_aload_n (pc := 197) kL_law_d197 rfl ?_
  refine jj_iload (pc := 198) kL_law_d198 rfl ?_
  refine jn_iconst (pc := 200) 1 kL_law_d200 (by decide) ?_
  refine jn_iadd (pc := 201) (i + 1) kL_law_d201 (by omega) ?_
  refine jj_sld (pc := 202) (i := i + 1) kL_law_d202 hs rfl rfl (by omega) ?_
  refine jj_aload_n (pc := 203) kL_law_d203 rfl ?_
  refine jj_iload (pc := 204) kL_law_d204 rfl ?_
  refine jn_iconst (pc := 206) 2 kL_law_d206 (by decide) ?_
  refine jn_iadd (pc := 207) (i + 2) kL_law_d207 (by omega) ?_
  refine jj_sld (pc := 208) (i := i + 2) kL_law_d208 hs rfl rfl (by omega) ?_
  refine jj_aload_n (pc := 209) kL_law_d209 rfl ?_
  refine jj_iload (pc := 210) kL_law_d210 rfl ?_
  refine jn_iconst (pc := 212) 3 kL_law_d212 (by decide) ?_
  refine jn_iadd (pc := 213) (i + 3) kL_law_d213 (by omega) ?_
  refine jj_sld (pc := 214) (i := i + 3) kL_law_d214 hs rfl rfl (by omega) ?_
  refine jj_aload_n (pc := 215) kL_law_d215 rfl ?_
  refine jj_iload (pc := 216) kL_law_d216 rfl ?_
  refine jn_iconst (pc := 218) 4 kL_law_d218 (by decide) ?_
  refine jn_iadd (pc := 219) (i + 4) kL_law_d219 (by omega) ?_
  refine jj_sld (pc := 220) (i := i + 4) kL_law_d220 hs rfl rfl (by omega) ?_
  refine jj_i2l (pc := 221) kL_law_d221 ?_
  refine jn_bipush (pc := 222) 32 kL_law_d222 (by decide) ?_
  refine jj_lshl (pc := 224) kL_law_d224 ?_
  refine jj_aload_n (pc := 225) kL_law_d225 rfl ?_
  refine jj_iload (pc := 226) kL_law_d226 rfl ?_
  refine jn_iconst (pc := 228) 5 kL_law_d228 (by decide) ?_
  refine jn_iadd (pc := 229) (i + 5) kL_law_d229 (by omega) ?_
  refine jj_sld (pc := 230) (i := i + 5) kL_law_d230 hs rfl rfl (by omega) ?_
  refine jj_i2l (pc := 231) kL_law_d231 ?_
  refine jj_ldc2 (pc := 232) kL_law_d232 (kcL_4294967295 hG) ?_
  refine jn_top (.long (lN (4294967295))) (rfl) ?_
  refine jj_land (pc := 235) kL_law_d235 ?_
  refine jj_lor (pc := 236) kL_law_d236 ?_
  refine jj_aload_n (pc := 237) kL_law_d237 rfl ?_
  refine jj_iload (pc := 238) kL_law_d238 rfl ?_
  refine jn_bipush (pc := 240) 6 kL_law_d240 (by decide) ?_
  refine jn_iadd (pc := 242) (i + 6) kL_law_d242 (by omega) ?_
  refine jj_sld (pc := 243) (i := i + 6) kL_law_d243 hs rfl rfl (by omega) ?_
  refine jj_i2l (pc := 244) kL_law_d244 ?_
  refine jn_bipush (pc := 245) 32 kL_law_d245 (by decide) ?_
  refine jj_lshl (pc := 247) kL_law_d247 ?_
  refine jj_aload_n (pc := 248) kL_law_d248 rfl ?_
  refine jj_iload (pc := 249) kL_law_d249 rfl ?_
  refine jn_bipush (pc := 251) 7 kL_law_d251 (by decide) ?_
  refine jn_iadd (pc := 253) (i + 7) kL_law_d253 (by omega) ?_
  refine jj_sld (pc := 254) (i := i + 7) kL_law_d254 hs rfl rfl (by omega) ?_
  refine jj_i2l (pc := 255) kL_law_d255 ?_
  refine jj_ldc2 (pc := 256) kL_law_d256 (kcL_4294967295 hG) ?_
  refine jn_top (.long (lN (4294967295))) (rfl) ?_
  refine jj_land (pc := 259) kL_law_d259 ?_
  refine jj_lor (pc := 260) kL_law_d260 ?_
  refine jj_callS (pc := 261) (As := [.ref (oa 0), .int (xs (i + 1)), .int (xs (i + 2)), .int (xs (i + 3)), .long ((((xs (i + 4)).toInt64) <<< ((nI (32)).toInt64 &&& 63)) ||| (((xs (i + 5)).toInt64) &&& lN (4294967295))), .long ((((xs (i + 6)).toInt64) <<< ((nI (32)).toInt64 &&& 63)) ||| (((xs (i + 7)).toInt64) &&& lN (4294967295)))]) kL_law_d261 (kvL_L_set hG) rfl rfl rfl (Nat.le_of_ble_eq_true rfl) (Nat.le_of_ble_eq_true rfl) (jj_bare0 rfl) ?_
  refine lm_set hG hJ hH (fun M1 cd σ1 rc1 rs1 hs1 hW hcd => ?_)
  show jj G kL_law (d + 17) Q rc1 rs1 264 [some (.ref G.2.2.2.2.2), some (.ref (oa 0)), some (.ref (F 9)), some (.ref ot), some (.int (nI (i))), (o5), (o6)] [.int (nI (cd))] M1
  refine jj_istore (pc := 264) kL_law_d264 (Nat.le_of_ble_eq_true rfl) ?_
  show jj G kL_law (d + 17) Q rc1 rs1 266 [some (.ref G.2.2.2.2.2), some (.ref (oa 0)), some (.ref (F 9)), some (.ref ot), some (.int (nI (i))), some (.int (nI (cd))), (o6)] [] M1
  refine jj_aload_n (pc := 266) kL_law_d266 rfl ?_
  refine jj_aload_n (pc := 267) kL_law_d267 rfl ?_
  refine jj_iload (pc := 268) kL_law_d268 rfl ?_
  refine jn_iconst (pc := 270) 1 kL_law_d270 (by decide) ?_
  refine jn_iadd (pc := 271) (i + 1) kL_law_d271 (by omega) ?_
  refine jj_sld (pc := 272) (i := i + 1) kL_law_d272 hs rfl rfl (by omega) ?_
  refine jj_aload_n (pc := 273) kL_law_d273 rfl ?_
  refine jj_iload (pc := 274) kL_law_d274 rfl ?_
  refine jn_iconst (pc := 276) 2 kL_law_d276 (by decide) ?_
  refine jn_iadd (pc := 277) (i + 2) kL_law_d277 (by omega) ?_
  refine jj_sld (pc := 278) (i := i + 2) kL_law_d278 hs rfl rfl (by omega) ?_
  refine jj_aload_n (pc := 279) kL_law_d279 rfl ?_
  refine jj_iload (pc := 280) kL_law_d280 rfl ?_
  refine jn_iconst (pc := 282) 3 kL_law_d282 (by decide) ?_
  refine jn_iadd (pc := 283) (i + 3) kL_law_d283 (by omega) ?_
  refine jj_sld (pc := 284) (i := i + 3) kL_law_d284 hs rfl rfl (by omega) ?_
  refine jj_aload_n (pc := 285) kL_law_d285 rfl ?_
  refine jj_iload (pc := 286) kL_law_d286 rfl ?_
  refine jn_iconst (pc := 288) 4 kL_law_d288 (by decide) ?_
  refine jn_iadd (pc := 289) (i + 4) kL_law_d289 (by omega) ?_
  refine jj_sld (pc := 290) (i := i + 4) kL_law_d290 hs rfl rfl (by omega) ?_
  refine jj_i2l (pc := 291) kL_law_d291 ?_
  refine jn_bipush (pc := 292) 32 kL_law_d292 (by decide) ?_
  refine jj_lshl (pc := 294) kL_law_d294 ?_
  refine jj_aload_n (pc := 295) kL_law_d295 rfl ?_
  refine jj_iload (pc := 296) kL_law_d296 rfl ?_
  refine jn_iconst (pc := 298) 5 kL_law_d298 (by decide) ?_
  refine jn_iadd (pc := 299) (i + 5) kL_law_d299 (by omega) ?_
  refine jj_sld (pc := 300) (i := i + 5) kL_law_d300 hs rfl rfl (by omega) ?_
  refine jj_i2l (pc := 301) kL_law_d301 ?_
  refine jj_ldc2 (pc := 302) kL_law_d302 (kcL_4294967295 hG) ?_
  refine jn_top (.long (lN (4294967295))) (rfl) ?_
  refine jj_land (pc := 305) kL_law_d305 ?_
  refine jj_lor (pc := 306) kL_law_d306 ?_
  refine jj_aload_n (pc := 307) kL_law_d307 rfl ?_
  refine jj_iload (pc := 308) kL_law_d308 rfl ?_
  refine jn_bipush (pc := 310) 6 kL_law_d310 (by decide) ?_
  refine jn_iadd (pc := 312) (i + 6) kL_law_d312 (by omega) ?_
  refine jj_sld (pc := 313) (i := i + 6) kL_law_d313 hs rfl rfl (by omega) ?_
  refine jj_i2l (pc := 314) kL_law_d314 ?_
  refine jn_bipush (pc := 315) 32 kL_law_d315 (by decide) ?_
  refine jj_lshl (pc := 317) kL_law_d317 ?_
  refine jj_aload_n (pc := 318) kL_law_d318 rfl ?_
  refine jj_iload (pc := 319) kL_law_d319 rfl ?_
  refine jn_bipush (pc := 321) 7 kL_law_d321 (by decide) ?_
  refine jn_iadd (pc := 323) (i + 7) kL_law_d323 (by omega) ?_
  refine jj_sld (pc := 324) (i := i + 7) kL_law_d324 hs rfl rfl (by omega) ?_
  refine jj_i2l (pc := 325) kL_law_d325 ?_
  refine jj_ldc2 (pc := 326) kL_law_d326 (kcL_4294967295 hG) ?_
  refine jn_top (.long (lN (4294967295))) (rfl) ?_
  refine jj_land (pc := 329) kL_law_d329 ?_
  refine jj_lor (pc := 330) kL_law_d330 ?_
  refine jj_callV (pc := 331) (b := (F 9)) (As := [.int (xs (i + 1)), .int (xs (i + 2)), .int (xs (i + 3)), .long ((((xs (i + 4)).toInt64) <<< ((nI (32)).toInt64 &&& 63)) ||| (((xs (i + 5)).toInt64) &&& lN (4294967295))), .long ((((xs (i + 6)).toInt64) <<< ((nI (32)).toInt64 &&& 63)) ||| (((xs (i + 7)).toInt64) &&& lN (4294967295)))]) kL_law_d331 (kvL_R_set hG) (kG_cl hG rfl) rfl hW.2.1.cell rfl rfl rfl (Nat.le_of_ble_eq_true rfl) (Nat.le_of_ble_eq_true rfl) (jj_bare0 rfl) ?_
  refine rp_set hG rfl hW.2.1 hW.2.2.1 (fun M2 cd2 σ2 rc2 rs2 hs2 hL2 hT2 hF2 => ?_)
  obtain ⟨ec, es⟩ := semSet_det hH.2.2.1 hs1 hs2
  subst ec es
  obtain ⟨hW2, hot2⟩ := hW.ref hT2 hF2 hL2
  show jj G kL_law (d + 17) Q rc2 rs2 334 [some (.ref G.2.2.2.2.2), some (.ref (oa 0)), some (.ref (F 9)), some (.ref ot), some (.int (nI (i))), some (.int (nI (cd))), (o6)] [] M2
  refine jj_aload_n (pc := 334) kL_law_d334 rfl ?_
  refine jj_callV (pc := 335) (b := (F 9)) (As := []) kL_law_d335 (kvL_R_thrown hG) (kG_cl hG rfl) rfl hT2.cell rfl rfl rfl (Nat.le_of_ble_eq_true rfl) (Nat.le_of_ble_eq_true rfl) (jj_bare0 rfl) ?_
  refine rp_thrown hG rfl hT2 ?_
  show jj G kL_law (d + 17) Q rc2 rs2 338 [some (.ref G.2.2.2.2.2), some (.ref (oa 0)), some (.ref (F 9)), some (.ref ot), some (.int (nI (i))), some (.int (nI (cd))), (o6)] [.int (nI (cd))] M2
  refine jj_iload (pc := 338) kL_law_d338 rfl ?_
  refine jn_icmp_eq (pc := 340) (tgt := 345) kL_law_d340 (by decide) (by omega) (by omega) (fun _ => ?_) (fun c => by exfalso; omega)
  refine jj_goto (pc := 345) (tgt := 1699) kL_law_d345 (by decide) ?_
  show jj G kL_law (d + 17) Q rc2 rs2 1699 [some (.ref G.2.2.2.2.2), some (.ref (oa 0)), some (.ref (F 9)), some (.ref ot), some (.int (nI (i))), some (.int (nI (cd))), (o6)] [] M2
  exact K M2 σ1 (nI cd) rc2 rs2 _ _ hW2
theorem law_unit {o5 o6 : Option Value} (hG : kG G) (hs : jj_scr G N xs) (hi8 : i + 8 ≤ N) (hN : N ≤ 4096) (hJ : XJ wa la capx oa eu dv hi lo) (hH : HW M wa la oa F eu dv hi lo ot σ σ code (X + 6) (Z + 1) rc rs) (K : ∀ (M' : mheap) (σ' : rst) (code' : Int32) (rc' rs' : Nat) (p5 p6 : Option Value), HW M' wa la oa F eu dv hi lo ot σ' σ' code' X Z rc' rs' → jj G kL_law (d + 17) Q rc' rs' 1699 [some (.ref G.2.2.2.2.2), some (.ref (oa 0)), some (.ref (F 9)), some (.ref ot), some (.int (nI (i))), p5, p6] [] M') : jj G kL_law (d + 17) Q rc rs 348 [some (.ref G.2.2.2.2.2), some (.ref (oa 0)), some (.ref (F 9)), some (.ref ot), some (.int (nI (i))), o5, o6] [] M := by
  have hcell := hH.2.1.cell
  show jj G kL_law (d + 17) Q rc rs 348 [some (.ref G.2.2.2.2.2), some (.ref (oa 0)), some (.ref (F 9)), some (.ref ot), some (.int (nI (i))), (o5), (o6)] [] M
  refine jj_aload_n (pc := 348) kL_law_d348 rfl ?_
  refine jj_aload_n (pc := 349) kL_law_d349 rfl ?_
  refine jj_iload (pc := 350) kL_law_d350 rfl ?_
  refine jn_iconst (pc := 352) 1 kL_law_d352 (by decide) ?_
  refine jn_iadd (pc := 353) (i + 1) kL_law_d353 (by omega) ?_
  refine jj_sld (pc := 354) (i := i + 1) kL_law_d354 hs rfl rfl (by omega) ?_
  refine jj_aload_n (pc := 355) kL_law_d355 rfl ?_
  refine jj_iload (pc := 356) kL_law_d356 rfl ?_
  refine jn_iconst (pc := 358) 2 kL_law_d358 (by decide) ?_
  refine jn_iadd (pc := 359) (i + 2) kL_law_d359 (by omega) ?_
  refine jj_sld (pc := 360) (i := i + 2) kL_law_d360 hs rfl rfl (by omega) ?_
  refine jj_callS (pc := 361) (As := [.ref (oa 0), .int (xs (i + 1)), .int (xs (i + 2))]) kL_law_d361 (kvL_L_unit hG) rfl rfl rfl (Nat.le_of_ble_eq_true rfl) (Nat.le_of_ble_eq_true rfl) (jj_bare0 rfl) ?_
  refine lm_unit hG hJ hH (fun M1 cd σ1 rc1 rs1 hs1 hW hcd => ?_)
  show jj G kL_law (d + 17) Q rc1 rs1 364 [some (.ref G.2.2.2.2.2), some (.ref (oa 0)), some (.ref (F 9)), some (.ref ot), some (.int (nI (i))), (o5), (o6)] [.int (nI (cd))] M1
  refine jj_istore (pc := 364) kL_law_d364 (Nat.le_of_ble_eq_true rfl) ?_
  show jj G kL_law (d + 17) Q rc1 rs1 366 [some (.ref G.2.2.2.2.2), some (.ref (oa 0)), some (.ref (F 9)), some (.ref ot), some (.int (nI (i))), some (.int (nI (cd))), (o6)] [] M1
  refine jj_aload_n (pc := 366) kL_law_d366 rfl ?_
  refine jj_aload_n (pc := 367) kL_law_d367 rfl ?_
  refine jj_iload (pc := 368) kL_law_d368 rfl ?_
  refine jn_iconst (pc := 370) 1 kL_law_d370 (by decide) ?_
  refine jn_iadd (pc := 371) (i + 1) kL_law_d371 (by omega) ?_
  refine jj_sld (pc := 372) (i := i + 1) kL_law_d372 hs rfl rfl (by omega) ?_
  refine jj_aload_n (pc := 373) kL_law_d373 rfl ?_
  refine jj_iload (pc := 374) kL_law_d374 rfl ?_
  refine jn_iconst (pc := 376) 2 kL_law_d376 (by decide) ?_
  refine jn_iadd (pc := 377) (i + 2) kL_law_d377 (by omega) ?_
  refine jj_sld (pc := 378) (i := i + 2) kL_law_d378 hs rfl rfl (by omega) ?_
  refine jj_callV (pc := 379) (b := (F 9)) (As := [.int (xs (i + 1)), .int (xs (i + 2))]) kL_law_d379 (kvL_R_unit hG) (kG_cl hG rfl) rfl hW.2.1.cell rfl rfl rfl (Nat.le_of_ble_eq_true rfl) (Nat.le_of_ble_eq_true rfl) (jj_bare0 rfl) ?_
  refine rp_unit hG rfl hW.2.1 hW.2.2.1 (fun M2 cd2 σ2 rc2 rs2 hs2 hL2 hT2 hF2 => ?_)
  obtain ⟨ec, es⟩ := semUnit_det hs1 hs2
  subst ec es
  obtain ⟨hW2, hot2⟩ := hW.ref hT2 hF2 hL2
  show jj G kL_law (d + 17) Q rc2 rs2 382 [some (.ref G.2.2.2.2.2), some (.ref (oa 0)), some (.ref (F 9)), some (.ref ot), some (.int (nI (i))), some (.int (nI (cd))), (o6)] [] M2
  refine jj_aload_n (pc := 382) kL_law_d382 rfl ?_
  refine jj_callV (pc := 383) (b := (F 9)) (As := []) kL_law_d383 (kvL_R_thrown hG) (kG_cl hG rfl) rfl hT2.cell rfl rfl rfl (Nat.le_of_ble_eq_true rfl) (Nat.le_of_ble_eq_true rfl) (jj_bare0 rfl) ?_
  refine rp_thrown hG rfl hT2 ?_
  show jj G kL_law (d + 17) Q rc2 rs2 386 [some (.ref G.2.2.2.2.2), some (.ref (oa 0)), some (.ref (F 9)), some (.ref ot), some (.int (nI (i))), some (.int (nI (cd))), (o6)] [.int (nI (cd))] M2
  refine jj_iload (pc := 386) kL_law_d386 rfl ?_
  refine jn_icmp_eq (pc := 388) (tgt := 393) kL_law_d388 (by decide) (by omega) (by omega) (fun _ => ?_) (fun c => by exfalso; omega)
  refine jj_goto (pc := 393) (tgt := 1699) kL_law_d393 (by decide) ?_
  show jj G kL_law (d + 17) Q rc2 rs2 1699 [some (.ref G.2.2.2.2.2), some (.ref (oa 0)), some (.ref (F 9)), some (.ref ot), some (.int (nI (i))), some (.int (nI (cd))), (o6)] [] M2
  exact K M2 σ1 (nI cd) rc2 rs2 _ _ hW2
theorem law_add {o5 o6 : Option Value} (hG : kG G) (hs : jj_scr G N xs) (hi8 : i + 8 ≤ N) (hN : N ≤ 4096) (hJ : XJ wa la capx oa eu dv hi lo) (hH : HW M wa la oa F eu dv hi lo ot σ σ code (X + 6) (Z + 1) rc rs) (K : ∀ (M' : mheap) (σ' : rst) (code' : Int32) (rc' rs' : Nat) (p5 p6 : Option Value), HW M' wa la oa F eu dv hi lo ot σ' σ' code' X Z rc' rs' → jj G kL_law (d + 17) Q rc' rs' 1699 [some (.ref G.2.2.2.2.2), some (.ref (oa 0)), some (.ref (F 9)), some (.ref ot), some (.int (nI (i))), p5, p6] [] M') : jj G kL_law (d + 17) Q rc rs 396 [some (.ref G.2.2.2.2.2), some (.ref (oa 0)), some (.ref (F 9)), some (.ref ot), some (.int (nI (i))), o5, o6] [] M := by
  have hcell := hH.2.1.cell
  show jj G kL_law (d + 17) Q rc rs 396 [some (.ref G.2.2.2.2.2), some (.ref (oa 0)), some (.ref (F 9)), some (.ref ot), some (.int (nI (i))), (o5), (o6)] [] M
  refine jj_aload_n (pc := 396) kL_law_d396 rfl ?_
  refine jj_aload_n (pc := 397) kL_law_d397 rfl ?_
  refine jj_iload (pc := 398) kL_law_d398 rfl ?_
  refine jn_iconst (pc := 400) 1 kL_law_d400 (by decide) ?_
  refine jn_iadd (pc := 401) (i + 1) kL_law_d401 (by omega) ?_
  refine jj_sld (pc := 402) (i := i + 1) kL_law_d402 hs rfl rfl (by omega) ?_
  refine jj_aload_n (pc := 403) kL_law_d403 rfl ?_
  refine jj_iload (pc := 404) kL_law_d404 rfl ?_
  refine jn_iconst (pc := 406) 2 kL_law_d406 (by decide) ?_
  refine jn_iadd (pc := 407) (i + 2) kL_law_d407 (by omega) ?_
  refine jj_sld (pc := 408) (i := i + 2) kL_law_d408 hs rfl rfl (by omega) ?_
  refine jj_aload_n (pc := 409) kL_law_d409 rfl ?_
  refine jj_iload (pc := 410) kL_law_d410 rfl ?_
  refine jn_iconst (pc := 412) 3 kL_law_d412 (by decide) ?_
  refine jn_iadd (pc := 413) (i + 3) kL_law_d413 (by omega) ?_
  refine jj_sld (pc := 414) (i := i + 3) kL_law_d414 hs rfl rfl (by omega) ?_
  refine jj_aload_n (pc := 415) kL_law_d415 rfl ?_
  refine jj_iload (pc := 416) kL_law_d416 rfl ?_
  refine jn_iconst (pc := 418) 4 kL_law_d418 (by decide) ?_
  refine jn_iadd (pc := 419) (i + 4) kL_law_d419 (by omega) ?_
  refine jj_sld (pc := 420) (i := i + 4) kL_law_d420 hs rfl rfl (by omega) ?_
  refine jj_if_eq (pc := 421) (tgt := 428) kL_law_d421 (by decide) (fun c1 => ?_) (fun c1 => ?_)
  · skip
    refine jn_iconst (pc := 428) 0 kL_law_d428 (by decide) ?_
    refine jj_callS (pc := 429) (As := [.ref (oa 0), .int (xs (i + 1)), .int (xs (i + 2)), .int (xs (i + 3)), .int (nI (0))]) kL_law_d429 (kvL_L_add hG) rfl rfl rfl (Nat.le_of_ble_eq_true rfl) (Nat.le_of_ble_eq_true rfl) (jj_bare0 rfl) ?_
    refine lm_add hG hJ (by first | exact Or.inl rfl | exact Or.inr rfl) hH (fun M1 cd σ1 rc1 rs1 hs1 hW hcd => ?_)
    show jj G kL_law (d + 17) Q rc1 rs1 432 [some (.ref G.2.2.2.2.2), some (.ref (oa 0)), some (.ref (F 9)), some (.ref ot), some (.int (nI (i))), (o5), (o6)] [.int (nI (cd))] M1
    refine jj_istore (pc := 432) kL_law_d432 (Nat.le_of_ble_eq_true rfl) ?_
    show jj G kL_law (d + 17) Q rc1 rs1 434 [some (.ref G.2.2.2.2.2), some (.ref (oa 0)), some (.ref (F 9)), some (.ref ot), some (.int (nI (i))), some (.int (nI (cd))), (o6)] [] M1
    refine jj_aload_n (pc := 434) kL_law_d434 rfl ?_
    refine jj_aload_n (pc := 435) kL_law_d435 rfl ?_
    refine jj_iload (pc := 436) kL_law_d436 rfl ?_
    refine jn_iconst (pc := 438) 1 kL_law_d438 (by decide) ?_
    refine jn_iadd (pc := 439) (i + 1) kL_law_d439 (by omega) ?_
    refine jj_sld (pc := 440) (i := i + 1) kL_law_d440 hs rfl rfl (by omega) ?_
    refine jj_aload_n (pc := 441) kL_law_d441 rfl ?_
    refine jj_iload (pc := 442) kL_law_d442 rfl ?_
    refine jn_iconst (pc := 444) 2 kL_law_d444 (by decide) ?_
    refine jn_iadd (pc := 445) (i + 2) kL_law_d445 (by omega) ?_
    refine jj_sld (pc := 446) (i := i + 2) kL_law_d446 hs rfl rfl (by omega) ?_
    refine jj_aload_n (pc := 447) kL_law_d447 rfl ?_
    refine jj_iload (pc := 448) kL_law_d448 rfl ?_
    refine jn_iconst (pc := 450) 3 kL_law_d450 (by decide) ?_
    refine jn_iadd (pc := 451) (i + 3) kL_law_d451 (by omega) ?_
    refine jj_sld (pc := 452) (i := i + 3) kL_law_d452 hs rfl rfl (by omega) ?_
    refine jj_aload_n (pc := 453) kL_law_d453 rfl ?_
    refine jj_iload (pc := 454) kL_law_d454 rfl ?_
    refine jn_iconst (pc := 456) 4 kL_law_d456 (by decide) ?_
    refine jn_iadd (pc := 457) (i + 4) kL_law_d457 (by omega) ?_
    refine jj_sld (pc := 458) (i := i + 4) kL_law_d458 hs rfl rfl (by omega) ?_
    refine jj_if_eq (pc := 459) (tgt := 466) kL_law_d459 (by decide) (fun _ => ?_) (fun c => absurd c (fun h => h c1))
    refine jn_iconst (pc := 466) 0 kL_law_d466 (by decide) ?_
    refine jj_callV (pc := 467) (b := (F 9)) (As := [.int (xs (i + 1)), .int (xs (i + 2)), .int (xs (i + 3)), .int (nI (0))]) kL_law_d467 (kvL_R_add hG) (kG_cl hG rfl) rfl hW.2.1.cell rfl rfl rfl (Nat.le_of_ble_eq_true rfl) (Nat.le_of_ble_eq_true rfl) (jj_bare0 rfl) ?_
    refine rp_add hG rfl hW.2.1 hW.2.2.1 (fun M2 cd2 σ2 rc2 rs2 hs2 hL2 hT2 hF2 => ?_)
    obtain ⟨ec, es⟩ := semAdd_det hs1 hs2
    subst ec es
    obtain ⟨hW2, hot2⟩ := hW.ref hT2 hF2 hL2
    show jj G kL_law (d + 17) Q rc2 rs2 470 [some (.ref G.2.2.2.2.2), some (.ref (oa 0)), some (.ref (F 9)), some (.ref ot), some (.int (nI (i))), some (.int (nI (cd))), (o6)] [] M2
    refine jj_aload_n (pc := 470) kL_law_d470 rfl ?_
    refine jj_callV (pc := 471) (b := (F 9)) (As := []) kL_law_d471 (kvL_R_thrown hG) (kG_cl hG rfl) rfl hT2.cell rfl rfl rfl (Nat.le_of_ble_eq_true rfl) (Nat.le_of_ble_eq_true rfl) (jj_bare0 rfl) ?_
    refine rp_thrown hG rfl hT2 ?_
    show jj G kL_law (d + 17) Q rc2 rs2 474 [some (.ref G.2.2.2.2.2), some (.ref (oa 0)), some (.ref (F 9)), some (.ref ot), some (.int (nI (i))), some (.int (nI (cd))), (o6)] [.int (nI (cd))] M2
    refine jj_iload (pc := 474) kL_law_d474 rfl ?_
    refine jn_icmp_eq (pc := 476) (tgt := 481) kL_law_d476 (by decide) (by omega) (by omega) (fun _ => ?_) (fun c => by exfalso; omega)
    refine jj_goto (pc := 481) (tgt := 1699) kL_law_d481 (by decide) ?_
    show jj G kL_law (d + 17) Q rc2 rs2 1699 [some (.ref G.2.2.2.2.2), some (.ref (oa 0)), some (.ref (F 9)), some (.ref ot), some (.int (nI (i))), some (.int (nI (cd))), (o6)] [] M2
    exact K M2 σ1 (nI cd) rc2 rs2 _ _ hW2
  · skip
    refine jn_iconst (pc := 424) 1 kL_law_d424 (by decide) ?_
    refine jj_goto (pc := 425) (tgt := 429) kL_law_d425 (by decide) ?_
    refine jj_callS (pc := 429) (As := [.ref (oa 0), .int (xs (i + 1)), .int (xs (i + 2)), .int (xs (i + 3)), .int (nI (1))]) kL_law_d429 (kvL_L_add hG) rfl rfl rfl (Nat.le_of_ble_eq_true rfl) (Nat.le_of_ble_eq_true rfl) (jj_bare0 rfl) ?_
    refine lm_add hG hJ (by first | exact Or.inl rfl | exact Or.inr rfl) hH (fun M1 cd σ1 rc1 rs1 hs1 hW hcd => ?_)
    show jj G kL_law (d + 17) Q rc1 rs1 432 [some (.ref G.2.2.2.2.2), some (.ref (oa 0)), some (.ref (F 9)), some (.ref ot), some (.int (nI (i))), (o5), (o6)] [.int (nI (cd))] M1
    refine jj_istore (pc := 432) kL_law_d432 (Nat.le_of_ble_eq_true rfl) ?_
    show jj G kL_law (d + 17) Q rc1 rs1 434 [some (.ref G.2.2.2.2.2), some (.ref (oa 0)), some (.ref (F 9)), some (.ref ot), some (.int (nI (i))), some (.int (nI (cd))), (o6)] [] M1
    refine jj_aload_n (pc := 434) kL_law_d434 rfl ?_
    refine jj_aload_n (pc := 435) kL_law_d435 rfl ?_
    refine jj_iload (pc := 436) kL_law_d436 rfl ?_
    refine jn_iconst (pc := 438) 1 kL_law_d438 (by decide) ?_
    refine jn_iadd (pc := 439) (i + 1) kL_law_d439 (by omega) ?_
    refine jj_sld (pc := 440) (i := i + 1) kL_law_d440 hs rfl rfl (by omega) ?_
    refine jj_aload_n (pc := 441) kL_law_d441 rfl ?_
    refine jj_iload (pc := 442) kL_law_d442 rfl ?_
    refine jn_iconst (pc := 444) 2 kL_law_d444 (by decide) ?_
    refine jn_iadd (pc := 445) (i + 2) kL_law_d445 (by omega) ?_
    refine jj_sld (pc := 446) (i := i + 2) kL_law_d446 hs rfl rfl (by omega) ?_
    refine jj_aload_n (pc := 447) kL_law_d447 rfl ?_
    refine jj_iload (pc := 448) kL_law_d448 rfl ?_
    refine jn_iconst (pc := 450) 3 kL_law_d450 (by decide) ?_
    refine jn_iadd (pc := 451) (i + 3) kL_law_d451 (by omega) ?_
    refine jj_sld (pc := 452) (i := i + 3) kL_law_d452 hs rfl rfl (by omega) ?_
    refine jj_aload_n (pc := 453) kL_law_d453 rfl ?_
    refine jj_iload (pc := 454) kL_law_d454 rfl ?_
    refine jn_iconst (pc := 456) 4 kL_law_d456 (by decide) ?_
    refine jn_iadd (pc := 457) (i + 4) kL_law_d457 (by omega) ?_
    refine jj_sld (pc := 458) (i := i + 4) kL_law_d458 hs rfl rfl (by omega) ?_
    refine jj_if_eq (pc := 459) (tgt := 466) kL_law_d459 (by decide) (fun c => absurd c (c1)) (fun _ => ?_)
    refine jn_iconst (pc := 462) 1 kL_law_d462 (by decide) ?_
    refine jj_goto (pc := 463) (tgt := 467) kL_law_d463 (by decide) ?_
    refine jj_callV (pc := 467) (b := (F 9)) (As := [.int (xs (i + 1)), .int (xs (i + 2)), .int (xs (i + 3)), .int (nI (1))]) kL_law_d467 (kvL_R_add hG) (kG_cl hG rfl) rfl hW.2.1.cell rfl rfl rfl (Nat.le_of_ble_eq_true rfl) (Nat.le_of_ble_eq_true rfl) (jj_bare0 rfl) ?_
    refine rp_add hG rfl hW.2.1 hW.2.2.1 (fun M2 cd2 σ2 rc2 rs2 hs2 hL2 hT2 hF2 => ?_)
    obtain ⟨ec, es⟩ := semAdd_det hs1 hs2
    subst ec es
    obtain ⟨hW2, hot2⟩ := hW.ref hT2 hF2 hL2
    show jj G kL_law (d + 17) Q rc2 rs2 470 [some (.ref G.2.2.2.2.2), some (.ref (oa 0)), some (.ref (F 9)), some (.ref ot), some (.int (nI (i))), some (.int (nI (cd))), (o6)] [] M2
    refine jj_aload_n (pc := 470) kL_law_d470 rfl ?_
    refine jj_callV (pc := 471) (b := (F 9)) (As := []) kL_law_d471 (kvL_R_thrown hG) (kG_cl hG rfl) rfl hT2.cell rfl rfl rfl (Nat.le_of_ble_eq_true rfl) (Nat.le_of_ble_eq_true rfl) (jj_bare0 rfl) ?_
    refine rp_thrown hG rfl hT2 ?_
    show jj G kL_law (d + 17) Q rc2 rs2 474 [some (.ref G.2.2.2.2.2), some (.ref (oa 0)), some (.ref (F 9)), some (.ref ot), some (.int (nI (i))), some (.int (nI (cd))), (o6)] [.int (nI (cd))] M2
    refine jj_iload (pc := 474) kL_law_d474 rfl ?_
    refine jn_icmp_eq (pc := 476) (tgt := 481) kL_law_d476 (by decide) (by omega) (by omega) (fun _ => ?_) (fun c => by exfalso; omega)
    refine jj_goto (pc := 481) (tgt := 1699) kL_law_d481 (by decide) ?_
    show jj G kL_law (d + 17) Q rc2 rs2 1699 [some (.ref G.2.2.2.2.2), some (.ref (oa 0)), some (.ref (F 9)), some (.ref ot), some (.int (nI (i))), some (.int (nI (cd))), (o6)] [] M2
    exact K M2 σ1 (nI cd) rc2 rs2 _ _ hW2
theorem law_multiply {o5 o6 : Option Value} (hG : kG G) (hs : jj_scr G N xs) (hi8 : i + 8 ≤ N) (hN : N ≤ 4096) (hJ : XJ wa la capx oa eu dv hi lo) (hH : HW M wa la oa F eu dv hi lo ot σ σ code (X + 6) (Z + 1) rc rs) (K : ∀ (M' : mheap) (σ' : rst) (code' : Int32) (rc' rs' : Nat) (p5 p6 : Option Value), HW M' wa la oa F eu dv hi lo ot σ' σ' code' X Z rc' rs' → jj G kL_law (d + 17) Q rc' rs' 1699 [some (.ref G.2.2.2.2.2), some (.ref (oa 0)), some (.ref (F 9)), some (.ref ot), some (.int (nI (i))), p5, p6] [] M') : jj G kL_law (d + 17) Q rc rs 484 [some (.ref G.2.2.2.2.2), some (.ref (oa 0)), some (.ref (F 9)), some (.ref ot), some (.int (nI (i))), o5, o6] [] M := by
  have hcell := hH.2.1.cell
  show jj G kL_law (d + 17) Q rc rs 484 [some (.ref G.2.2.2.2.2), some (.ref (oa 0)), some (.ref (F 9)), some (.ref ot), some (.int (nI (i))), (o5), (o6)] [] M
  refine jj_aload_n (pc := 484) kL_law_d484 rfl ?_
  refine jj_aload_n (pc := 485) kL_law_d485 rfl ?_
  refine jj_iload (pc := 486) kL_law_d486 rfl ?_
  refine jn_iconst (pc := 488) 1 kL_law_d488 (by decide) ?_
  refine jn_iadd (pc := 489) (i + 1) kL_law_d489 (by omega) ?_
  refine jj_sld (pc := 490) (i := i + 1) kL_law_d490 hs rfl rfl (by omega) ?_
  refine jj_aload_n (pc := 491) kL_law_d491 rfl ?_
  refine jj_iload (pc := 492) kL_law_d492 rfl ?_
  refine jn_iconst (pc := 494) 2 kL_law_d494 (by decide) ?_
  refine jn_iadd (pc := 495) (i + 2) kL_law_d495 (by omega) ?_
  refine jj_sld (pc := 496) (i := i + 2) kL_law_d496 hs rfl rfl (by omega) ?_
  refine jj_aload_n (pc := 497) kL_law_d497 rfl ?_
  refine jj_iload (pc := 498) kL_law_d498 rfl ?_
  refine jn_iconst (pc := 500) 3 kL_law_d500 (by decide) ?_
  refine jn_iadd (pc := 501) (i + 3) kL_law_d501 (by omega) ?_
  refine jj_sld (pc := 502) (i := i + 3) kL_law_d502 hs rfl rfl (by omega) ?_
  refine jj_callS (pc := 503) (As := [.ref (oa 0), .int (xs (i + 1)), .int (xs (i + 2)), .int (xs (i + 3))]) kL_law_d503 (kvL_L_multiply hG) rfl rfl rfl (Nat.le_of_ble_eq_true rfl) (Nat.le_of_ble_eq_true rfl) (jj_bare0 rfl) ?_
  refine lm_multiply hG hJ hH (fun M1 cd σ1 rc1 rs1 hs1 hW hcd => ?_)
  show jj G kL_law (d + 17) Q rc1 rs1 506 [some (.ref G.2.2.2.2.2), some (.ref (oa 0)), some (.ref (F 9)), some (.ref ot), some (.int (nI (i))), (o5), (o6)] [.int (nI (cd))] M1
  refine jj_istore (pc := 506) kL_law_d506 (Nat.le_of_ble_eq_true rfl) ?_
  show jj G kL_law (d + 17) Q rc1 rs1 508 [some (.ref G.2.2.2.2.2), some (.ref (oa 0)), some (.ref (F 9)), some (.ref ot), some (.int (nI (i))), some (.int (nI (cd))), (o6)] [] M1
  refine jj_aload_n (pc := 508) kL_law_d508 rfl ?_
  refine jj_aload_n (pc := 509) kL_law_d509 rfl ?_
  refine jj_iload (pc := 510) kL_law_d510 rfl ?_
  refine jn_iconst (pc := 512) 1 kL_law_d512 (by decide) ?_
  refine jn_iadd (pc := 513) (i + 1) kL_law_d513 (by omega) ?_
  refine jj_sld (pc := 514) (i := i + 1) kL_law_d514 hs rfl rfl (by omega) ?_
  refine jj_aload_n (pc := 515) kL_law_d515 rfl ?_
  refine jj_iload (pc := 516) kL_law_d516 rfl ?_
  refine jn_iconst (pc := 518) 2 kL_law_d518 (by decide) ?_
  refine jn_iadd (pc := 519) (i + 2) kL_law_d519 (by omega) ?_
  refine jj_sld (pc := 520) (i := i + 2) kL_law_d520 hs rfl rfl (by omega) ?_
  refine jj_aload_n (pc := 521) kL_law_d521 rfl ?_
  refine jj_iload (pc := 522) kL_law_d522 rfl ?_
  refine jn_iconst (pc := 524) 3 kL_law_d524 (by decide) ?_
  refine jn_iadd (pc := 525) (i + 3) kL_law_d525 (by omega) ?_
  refine jj_sld (pc := 526) (i := i + 3) kL_law_d526 hs rfl rfl (by omega) ?_
  refine jj_callV (pc := 527) (b := (F 9)) (As := [.int (xs (i + 1)), .int (xs (i + 2)), .int (xs (i + 3))]) kL_law_d527 (kvL_R_multiply hG) (kG_cl hG rfl) rfl hW.2.1.cell rfl rfl rfl (Nat.le_of_ble_eq_true rfl) (Nat.le_of_ble_eq_true rfl) (jj_bare0 rfl) ?_
  refine rp_multiply hG rfl hW.2.1 hW.2.2.1 (fun M2 cd2 σ2 rc2 rs2 hs2 hL2 hT2 hF2 => ?_)
  obtain ⟨ec, es⟩ := semMul_det hs1 hs2
  subst ec es
  obtain ⟨hW2, hot2⟩ := hW.ref hT2 hF2 hL2
  show jj G kL_law (d + 17) Q rc2 rs2 530 [some (.ref G.2.2.2.2.2), some (.ref (oa 0)), some (.ref (F 9)), some (.ref ot), some (.int (nI (i))), some (.int (nI (cd))), (o6)] [] M2
  refine jj_aload_n (pc := 530) kL_law_d530 rfl ?_
  refine jj_callV (pc := 531) (b := (F 9)) (As := []) kL_law_d531 (kvL_R_thrown hG) (kG_cl hG rfl) rfl hT2.cell rfl rfl rfl (Nat.le_of_ble_eq_true rfl) (Nat.le_of_ble_eq_true rfl) (jj_bare0 rfl) ?_
  refine rp_thrown hG rfl hT2 ?_
  show jj G kL_law (d + 17) Q rc2 rs2 534 [some (.ref G.2.2.2.2.2), some (.ref (oa 0)), some (.ref (F 9)), some (.ref ot), some (.int (nI (i))), some (.int (nI (cd))), (o6)] [.int (nI (cd))] M2
  refine jj_iload (pc := 534) kL_law_d534 rfl ?_
  refine jn_icmp_eq (pc := 536) (tgt := 541) kL_law_d536 (by decide) (by omega) (by omega) (fun _ => ?_) (fun c => by exfalso; omega)
  refine jj_goto (pc := 541) (tgt := 1699) kL_law_d541 (by decide) ?_
  show jj G kL_law (d + 17) Q rc2 rs2 1699 [some (.ref G.2.2.2.2.2), some (.ref (oa 0)), some (.ref (F 9)), some (.ref ot), some (.int (nI (i))), some (.int (nI (cd))), (o6)] [] M2
  exact K M2 σ1 (nI cd) rc2 rs2 _ _ hW2
theorem law_turn {o5 o6 : Option Value} (hG : kG G) (hs : jj_scr G N xs) (hi8 : i + 8 ≤ N) (hN : N ≤ 4096) (hJ : XJ wa la capx oa eu dv hi lo) (hH : HW M wa la oa F eu dv hi lo ot σ σ code (X + 6) (Z + 1) rc rs) (K : ∀ (M' : mheap) (σ' : rst) (code' : Int32) (rc' rs' : Nat) (p5 p6 : Option Value), HW M' wa la oa F eu dv hi lo ot σ' σ' code' X Z rc' rs' → jj G kL_law (d + 17) Q rc' rs' 1699 [some (.ref G.2.2.2.2.2), some (.ref (oa 0)), some (.ref (F 9)), some (.ref ot), some (.int (nI (i))), p5, p6] [] M') : jj G kL_law (d + 17) Q rc rs 544 [some (.ref G.2.2.2.2.2), some (.ref (oa 0)), some (.ref (F 9)), some (.ref ot), some (.int (nI (i))), o5, o6] [] M := by
  have hcell := hH.2.1.cell
  show jj G kL_law (d + 17) Q rc rs 544 [some (.ref G.2.2.2.2.2), some (.ref (oa 0)), some (.ref (F 9)), some (.ref ot), some (.int (nI (i))), (o5), (o6)] [] M
  refine jj_aload_n (pc := 544) kL_law_d544 rfl ?_
  refine jj_aload_n (pc := 545) kL_law_d545 rfl ?_
  refine jj_iload (pc := 546) kL_law_d546 rfl ?_
  refine jn_iconst (pc := 548) 1 kL_law_d548 (by decide) ?_
  refine jn_iadd (pc := 549) (i + 1) kL_law_d549 (by omega) ?_
  refine jj_sld (pc := 550) (i := i + 1) kL_law_d550 hs rfl rfl (by omega) ?_
  refine jj_aload_n (pc := 551) kL_law_d551 rfl ?_
  refine jj_iload (pc := 552) kL_law_d552 rfl ?_
  refine jn_iconst (pc := 554) 2 kL_law_d554 (by decide) ?_
  refine jn_iadd (pc := 555) (i + 2) kL_law_d555 (by omega) ?_
  refine jj_sld (pc := 556) (i := i + 2) kL_law_d556 hs rfl rfl (by omega) ?_
  refine jj_callS (pc := 557) (As := [.ref (oa 0), .int (xs (i + 1)), .int (xs (i + 2))]) kL_law_d557 (kvL_L_turn hG) rfl rfl rfl (Nat.le_of_ble_eq_true rfl) (Nat.le_of_ble_eq_true rfl) (jj_bare0 rfl) ?_
  refine lm_turn hG hJ hH (fun M1 cd σ1 rc1 rs1 hs1 hW hcd => ?_)
  show jj G kL_law (d + 17) Q rc1 rs1 560 [some (.ref G.2.2.2.2.2), some (.ref (oa 0)), some (.ref (F 9)), some (.ref ot), some (.int (nI (i))), (o5), (o6)] [.int (nI (cd))] M1
  refine jj_istore (pc := 560) kL_law_d560 (Nat.le_of_ble_eq_true rfl) ?_
  show jj G kL_law (d + 17) Q rc1 rs1 562 [some (.ref G.2.2.2.2.2), some (.ref (oa 0)), some (.ref (F 9)), some (.ref ot), some (.int (nI (i))), some (.int (nI (cd))), (o6)] [] M1
  refine jj_aload_n (pc := 562) kL_law_d562 rfl ?_
  refine jj_aload_n (pc := 563) kL_law_d563 rfl ?_
  refine jj_iload (pc := 564) kL_law_d564 rfl ?_
  refine jn_iconst (pc := 566) 1 kL_law_d566 (by decide) ?_
  refine jn_iadd (pc := 567) (i + 1) kL_law_d567 (by omega) ?_
  refine jj_sld (pc := 568) (i := i + 1) kL_law_d568 hs rfl rfl (by omega) ?_
  refine jj_aload_n (pc := 569) kL_law_d569 rfl ?_
  refine jj_iload (pc := 570) kL_law_d570 rfl ?_
  refine jn_iconst (pc := 572) 2 kL_law_d572 (by decide) ?_
  refine jn_iadd (pc := 573) (i + 2) kL_law_d573 (by omega) ?_
  refine jj_sld (pc := 574) (i := i + 2) kL_law_d574 hs rfl rfl (by omega) ?_
  refine jj_callV (pc := 575) (b := (F 9)) (As := [.int (xs (i + 1)), .int (xs (i + 2))]) kL_law_d575 (kvL_R_turn hG) (kG_cl hG rfl) rfl hW.2.1.cell rfl rfl rfl (Nat.le_of_ble_eq_true rfl) (Nat.le_of_ble_eq_true rfl) (jj_bare0 rfl) ?_
  refine rp_turn hG rfl hW.2.1 hW.2.2.1 (fun M2 cd2 σ2 rc2 rs2 hs2 hL2 hT2 hF2 => ?_)
  obtain ⟨ec, es⟩ := semTurn_det hs1 hs2
  subst ec es
  obtain ⟨hW2, hot2⟩ := hW.ref hT2 hF2 hL2
  show jj G kL_law (d + 17) Q rc2 rs2 578 [some (.ref G.2.2.2.2.2), some (.ref (oa 0)), some (.ref (F 9)), some (.ref ot), some (.int (nI (i))), some (.int (nI (cd))), (o6)] [] M2
  refine jj_aload_n (pc := 578) kL_law_d578 rfl ?_
  refine jj_callV (pc := 579) (b := (F 9)) (As := []) kL_law_d579 (kvL_R_thrown hG) (kG_cl hG rfl) rfl hT2.cell rfl rfl rfl (Nat.le_of_ble_eq_true rfl) (Nat.le_of_ble_eq_true rfl) (jj_bare0 rfl) ?_
  refine rp_thrown hG rfl hT2 ?_
  show jj G kL_law (d + 17) Q rc2 rs2 582 [some (.ref G.2.2.2.2.2), some (.ref (oa 0)), some (.ref (F 9)), some (.ref ot), some (.int (nI (i))), some (.int (nI (cd))), (o6)] [.int (nI (cd))] M2
  refine jj_iload (pc := 582) kL_law_d582 rfl ?_
  refine jn_icmp_eq (pc := 584) (tgt := 589) kL_law_d584 (by decide) (by omega) (by omega) (fun _ => ?_) (fun c => by exfalso; omega)
  refine jj_goto (pc := 589) (tgt := 1699) kL_law_d589 (by decide) ?_
  show jj G kL_law (d + 17) Q rc2 rs2 1699 [some (.ref G.2.2.2.2.2), some (.ref (oa 0)), some (.ref (F 9)), some (.ref ot), some (.int (nI (i))), some (.int (nI (cd))), (o6)] [] M2
  exact K M2 σ1 (nI cd) rc2 rs2 _ _ hW2
theorem law_beside {o5 o6 : Option Value} (hG : kG G) (hs : jj_scr G N xs) (hi8 : i + 8 ≤ N) (hN : N ≤ 4096) (hJ : XJ wa la capx oa eu dv hi lo) (hH : HW M wa la oa F eu dv hi lo ot σ σ code (X + 6) (Z + 1) rc rs) (K : ∀ (M' : mheap) (σ' : rst) (code' : Int32) (rc' rs' : Nat) (p5 p6 : Option Value), HW M' wa la oa F eu dv hi lo ot σ' σ' code' X Z rc' rs' → jj G kL_law (d + 17) Q rc' rs' 1699 [some (.ref G.2.2.2.2.2), some (.ref (oa 0)), some (.ref (F 9)), some (.ref ot), some (.int (nI (i))), p5, p6] [] M') : jj G kL_law (d + 17) Q rc rs 592 [some (.ref G.2.2.2.2.2), some (.ref (oa 0)), some (.ref (F 9)), some (.ref ot), some (.int (nI (i))), o5, o6] [] M := by
  have hcell := hH.2.1.cell
  show jj G kL_law (d + 17) Q rc rs 592 [some (.ref G.2.2.2.2.2), some (.ref (oa 0)), some (.ref (F 9)), some (.ref ot), some (.int (nI (i))), (o5), (o6)] [] M
  refine jj_aload_n (pc := 592) kL_law_d592 rfl ?_
  refine jj_aload_n (pc := 593) kL_law_d593 rfl ?_
  refine jj_iload (pc := 594) kL_law_d594 rfl ?_
  refine jn_iconst (pc := 596) 1 kL_law_d596 (by decide) ?_
  refine jn_iadd (pc := 597) (i + 1) kL_law_d597 (by omega) ?_
  refine jj_sld (pc := 598) (i := i + 1) kL_law_d598 hs rfl rfl (by omega) ?_
  refine jj_aload_n (pc := 599) kL_law_d599 rfl ?_
  refine jj_iload (pc := 600) kL_law_d600 rfl ?_
  refine jn_iconst (pc := 602) 2 kL_law_d602 (by decide) ?_
  refine jn_iadd (pc := 603) (i + 2) kL_law_d603 (by omega) ?_
  refine jj_sld (pc := 604) (i := i + 2) kL_law_d604 hs rfl rfl (by omega) ?_
  refine jj_aload_n (pc := 605) kL_law_d605 rfl ?_
  refine jj_iload (pc := 606) kL_law_d606 rfl ?_
  refine jn_iconst (pc := 608) 3 kL_law_d608 (by decide) ?_
  refine jn_iadd (pc := 609) (i + 3) kL_law_d609 (by omega) ?_
  refine jj_sld (pc := 610) (i := i + 3) kL_law_d610 hs rfl rfl (by omega) ?_
  refine jj_callS (pc := 611) (As := [.ref (oa 0), .int (xs (i + 1)), .int (xs (i + 2)), .int (xs (i + 3))]) kL_law_d611 (kvL_L_beside hG) rfl rfl rfl (Nat.le_of_ble_eq_true rfl) (Nat.le_of_ble_eq_true rfl) (jj_bare0 rfl) ?_
  refine lm_beside hG hJ hH (fun M1 cd σ1 rc1 rs1 hs1 hW hcd => ?_)
  show jj G kL_law (d + 17) Q rc1 rs1 614 [some (.ref G.2.2.2.2.2), some (.ref (oa 0)), some (.ref (F 9)), some (.ref ot), some (.int (nI (i))), (o5), (o6)] [.int (nI (cd))] M1
  refine jj_istore (pc := 614) kL_law_d614 (Nat.le_of_ble_eq_true rfl) ?_
  show jj G kL_law (d + 17) Q rc1 rs1 616 [some (.ref G.2.2.2.2.2), some (.ref (oa 0)), some (.ref (F 9)), some (.ref ot), some (.int (nI (i))), some (.int (nI (cd))), (o6)] [] M1
  refine jj_aload_n (pc := 616) kL_law_d616 rfl ?_
  refine jj_aload_n (pc := 617) kL_law_d617 rfl ?_
  refine jj_iload (pc := 618) kL_law_d618 rfl ?_
  refine jn_iconst (pc := 620) 1 kL_law_d620 (by decide) ?_
  refine jn_iadd (pc := 621) (i + 1) kL_law_d621 (by omega) ?_
  refine jj_sld (pc := 622) (i := i + 1) kL_law_d622 hs rfl rfl (by omega) ?_
  refine jj_aload_n (pc := 623) kL_law_d623 rfl ?_
  refine jj_iload (pc := 624) kL_law_d624 rfl ?_
  refine jn_iconst (pc := 626) 2 kL_law_d626 (by decide) ?_
  refine jn_iadd (pc := 627) (i + 2) kL_law_d627 (by omega) ?_
  refine jj_sld (pc := 628) (i := i + 2) kL_law_d628 hs rfl rfl (by omega) ?_
  refine jj_aload_n (pc := 629) kL_law_d629 rfl ?_
  refine jj_iload (pc := 630) kL_law_d630 rfl ?_
  refine jn_iconst (pc := 632) 3 kL_law_d632 (by decide) ?_
  refine jn_iadd (pc := 633) (i + 3) kL_law_d633 (by omega) ?_
  refine jj_sld (pc := 634) (i := i + 3) kL_law_d634 hs rfl rfl (by omega) ?_
  refine jj_callV (pc := 635) (b := (F 9)) (As := [.int (xs (i + 1)), .int (xs (i + 2)), .int (xs (i + 3))]) kL_law_d635 (kvL_R_beside hG) (kG_cl hG rfl) rfl hW.2.1.cell rfl rfl rfl (Nat.le_of_ble_eq_true rfl) (Nat.le_of_ble_eq_true rfl) (jj_bare0 rfl) ?_
  refine rp_beside hG rfl hW.2.1 hW.2.2.1 (fun M2 cd2 σ2 rc2 rs2 hs2 hL2 hT2 hF2 => ?_)
  obtain ⟨ec, es⟩ := semBeside_det hs1 hs2
  subst ec es
  obtain ⟨hW2, hot2⟩ := hW.ref hT2 hF2 hL2
  show jj G kL_law (d + 17) Q rc2 rs2 638 [some (.ref G.2.2.2.2.2), some (.ref (oa 0)), some (.ref (F 9)), some (.ref ot), some (.int (nI (i))), some (.int (nI (cd))), (o6)] [] M2
  refine jj_aload_n (pc := 638) kL_law_d638 rfl ?_
  refine jj_callV (pc := 639) (b := (F 9)) (As := []) kL_law_d639 (kvL_R_thrown hG) (kG_cl hG rfl) rfl hT2.cell rfl rfl rfl (Nat.le_of_ble_eq_true rfl) (Nat.le_of_ble_eq_true rfl) (jj_bare0 rfl) ?_
  refine rp_thrown hG rfl hT2 ?_
  show jj G kL_law (d + 17) Q rc2 rs2 642 [some (.ref G.2.2.2.2.2), some (.ref (oa 0)), some (.ref (F 9)), some (.ref ot), some (.int (nI (i))), some (.int (nI (cd))), (o6)] [.int (nI (cd))] M2
  refine jj_iload (pc := 642) kL_law_d642 rfl ?_
  refine jn_icmp_eq (pc := 644) (tgt := 649) kL_law_d644 (by decide) (by omega) (by omega) (fun _ => ?_) (fun c => by exfalso; omega)
  refine jj_goto (pc := 649) (tgt := 1699) kL_law_d649 (by decide) ?_
  show jj G kL_law (d + 17) Q rc2 rs2 1699 [some (.ref G.2.2.2.2.2), some (.ref (oa 0)), some (.ref (F 9)), some (.ref ot), some (.int (nI (i))), some (.int (nI (cd))), (o6)] [] M2
  exact K M2 σ1 (nI cd) rc2 rs2 _ _ hW2
theorem law_part {o5 o6 : Option Value} (hG : kG G) (hs : jj_scr G N xs) (hi8 : i + 8 ≤ N) (hN : N ≤ 4096) (hJ : XJ wa la capx oa eu dv hi lo) (hH : HW M wa la oa F eu dv hi lo ot σ σ code (X + 6) (Z + 1) rc rs) (K : ∀ (M' : mheap) (σ' : rst) (code' : Int32) (rc' rs' : Nat) (p5 p6 : Option Value), HW M' wa la oa F eu dv hi lo ot σ' σ' code' X Z rc' rs' → jj G kL_law (d + 17) Q rc' rs' 1699 [some (.ref G.2.2.2.2.2), some (.ref (oa 0)), some (.ref (F 9)), some (.ref ot), some (.int (nI (i))), p5, p6] [] M') : jj G kL_law (d + 17) Q rc rs 652 [some (.ref G.2.2.2.2.2), some (.ref (oa 0)), some (.ref (F 9)), some (.ref ot), some (.int (nI (i))), o5, o6] [] M := by
  have hcell := hH.2.1.cell
  show jj G kL_law (d + 17) Q rc rs 652 [some (.ref G.2.2.2.2.2), some (.ref (oa 0)), some (.ref (F 9)), some (.ref ot), some (.int (nI (i))), (o5), (o6)] [] M
  refine jj_aload_n (pc := 652) kL_law_d652 rfl ?_
  refine jj_aload_n (pc := 653) kL_law_d653 rfl ?_
  refine jj_iload (pc := 654) kL_law_d654 rfl ?_
  refine jn_iconst (pc := 656) 1 kL_law_d656 (by decide) ?_
  refine jn_iadd (pc := 657) (i + 1) kL_law_d657 (by omega) ?_
  refine jj_sld (pc := 658) (i := i + 1) kL_law_d658 hs rfl rfl (by omega) ?_
  refine jj_aload_n (pc := 659) kL_law_d659 rfl ?_
  refine jj_iload (pc := 660) kL_law_d660 rfl ?_
  refine jn_iconst (pc := 662) 2 kL_law_d662 (by decide) ?_
  refine jn_iadd (pc := 663) (i + 2) kL_law_d663 (by omega) ?_
  refine jj_sld (pc := 664) (i := i + 2) kL_law_d664 hs rfl rfl (by omega) ?_
  refine jj_aload_n (pc := 665) kL_law_d665 rfl ?_
  refine jj_iload (pc := 666) kL_law_d666 rfl ?_
  refine jn_iconst (pc := 668) 3 kL_law_d668 (by decide) ?_
  refine jn_iadd (pc := 669) (i + 3) kL_law_d669 (by omega) ?_
  refine jj_sld (pc := 670) (i := i + 3) kL_law_d670 hs rfl rfl (by omega) ?_
  refine jj_aload_n (pc := 671) kL_law_d671 rfl ?_
  refine jj_iload (pc := 672) kL_law_d672 rfl ?_
  refine jn_iconst (pc := 674) 4 kL_law_d674 (by decide) ?_
  refine jn_iadd (pc := 675) (i + 4) kL_law_d675 (by omega) ?_
  refine jj_sld (pc := 676) (i := i + 4) kL_law_d676 hs rfl rfl (by omega) ?_
  refine jj_aload_n (pc := 677) kL_law_d677 rfl ?_
  refine jj_iload (pc := 678) kL_law_d678 rfl ?_
  refine jn_iconst (pc := 680) 5 kL_law_d680 (by decide) ?_
  refine jn_iadd (pc := 681) (i + 5) kL_law_d681 (by omega) ?_
  refine jj_sld (pc := 682) (i := i + 5) kL_law_d682 hs rfl rfl (by omega) ?_
  refine jj_aload_n (pc := 683) kL_law_d683 rfl ?_
  refine jj_iload (pc := 684) kL_law_d684 rfl ?_
  refine jn_bipush (pc := 686) 6 kL_law_d686 (by decide) ?_
  refine jn_iadd (pc := 688) (i + 6) kL_law_d688 (by omega) ?_
  refine jj_sld (pc := 689) (i := i + 6) kL_law_d689 hs rfl rfl (by omega) ?_
  refine jj_callS (pc := 690) (As := [.ref (oa 0), .int (xs (i + 1)), .int (xs (i + 2)), .int (xs (i + 3)), .int (xs (i + 4)), .int (xs (i + 5)), .int (xs (i + 6))]) kL_law_d690 (kvL_L_part hG) rfl rfl rfl (Nat.le_of_ble_eq_true rfl) (Nat.le_of_ble_eq_true rfl) (jj_bare0 rfl) ?_
  refine lm_part hG hJ hH (fun M1 cd σ1 rc1 rs1 hs1 hW hcd => ?_)
  show jj G kL_law (d + 17) Q rc1 rs1 693 [some (.ref G.2.2.2.2.2), some (.ref (oa 0)), some (.ref (F 9)), some (.ref ot), some (.int (nI (i))), (o5), (o6)] [.int (nI (cd))] M1
  refine jj_istore (pc := 693) kL_law_d693 (Nat.le_of_ble_eq_true rfl) ?_
  show jj G kL_law (d + 17) Q rc1 rs1 695 [some (.ref G.2.2.2.2.2), some (.ref (oa 0)), some (.ref (F 9)), some (.ref ot), some (.int (nI (i))), some (.int (nI (cd))), (o6)] [] M1
  refine jj_aload_n (pc := 695) kL_law_d695 rfl ?_
  refine jj_aload_n (pc := 696) kL_law_d696 rfl ?_
  refine jj_iload (pc := 697) kL_law_d697 rfl ?_
  refine jn_iconst (pc := 699) 1 kL_law_d699 (by decide) ?_
  refine jn_iadd (pc := 700) (i + 1) kL_law_d700 (by omega) ?_
  refine jj_sld (pc := 701) (i := i + 1) kL_law_d701 hs rfl rfl (by omega) ?_
  refine jj_aload_n (pc := 702) kL_law_d702 rfl ?_
  refine jj_iload (pc := 703) kL_law_d703 rfl ?_
  refine jn_iconst (pc := 705) 2 kL_law_d705 (by decide) ?_
  refine jn_iadd (pc := 706) (i + 2) kL_law_d706 (by omega) ?_
  refine jj_sld (pc := 707) (i := i + 2) kL_law_d707 hs rfl rfl (by omega) ?_
  refine jj_aload_n (pc := 708) kL_law_d708 rfl ?_
  refine jj_iload (pc := 709) kL_law_d709 rfl ?_
  refine jn_iconst (pc := 711) 3 kL_law_d711 (by decide) ?_
  refine jn_iadd (pc := 712) (i + 3) kL_law_d712 (by omega) ?_
  refine jj_sld (pc := 713) (i := i + 3) kL_law_d713 hs rfl rfl (by omega) ?_
  refine jj_aload_n (pc := 714) kL_law_d714 rfl ?_
  refine jj_iload (pc := 715) kL_law_d715 rfl ?_
  refine jn_iconst (pc := 717) 4 kL_law_d717 (by decide) ?_
  refine jn_iadd (pc := 718) (i + 4) kL_law_d718 (by omega) ?_
  refine jj_sld (pc := 719) (i := i + 4) kL_law_d719 hs rfl rfl (by omega) ?_
  refine jj_aload_n (pc := 720) kL_law_d720 rfl ?_
  refine jj_iload (pc := 721) kL_law_d721 rfl ?_
  refine jn_iconst (pc := 723) 5 kL_law_d723 (by decide) ?_
  refine jn_iadd (pc := 724) (i + 5) kL_law_d724 (by omega) ?_
  refine jj_sld (pc := 725) (i := i + 5) kL_law_d725 hs rfl rfl (by omega) ?_
  refine jj_aload_n (pc := 726) kL_law_d726 rfl ?_
  refine jj_iload (pc := 727) kL_law_d727 rfl ?_
  refine jn_bipush (pc := 729) 6 kL_law_d729 (by decide) ?_
  refine jn_iadd (pc := 731) (i + 6) kL_law_d731 (by omega) ?_
  refine jj_sld (pc := 732) (i := i + 6) kL_law_d732 hs rfl rfl (by omega) ?_
  refine jj_callV (pc := 733) (b := (F 9)) (As := [.int (xs (i + 1)), .int (xs (i + 2)), .int (xs (i + 3)), .int (xs (i + 4)), .int (xs (i + 5)), .int (xs (i + 6))]) kL_law_d733 (kvL_R_part hG) (kG_cl hG rfl) rfl hW.2.1.cell rfl rfl rfl (Nat.le_of_ble_eq_true rfl) (Nat.le_of_ble_eq_true rfl) (jj_bare0 rfl) ?_
  refine rp_part hG rfl hW.2.1 hW.2.2.1 (fun M2 cd2 σ2 rc2 rs2 hs2 hL2 hT2 hF2 => ?_)
  obtain ⟨ec, es⟩ := semPart_det hH.2.2.1 hs1 hs2
  subst ec es
  obtain ⟨hW2, hot2⟩ := hW.ref hT2 hF2 hL2
  show jj G kL_law (d + 17) Q rc2 rs2 736 [some (.ref G.2.2.2.2.2), some (.ref (oa 0)), some (.ref (F 9)), some (.ref ot), some (.int (nI (i))), some (.int (nI (cd))), (o6)] [] M2
  refine jj_aload_n (pc := 736) kL_law_d736 rfl ?_
  refine jj_callV (pc := 737) (b := (F 9)) (As := []) kL_law_d737 (kvL_R_thrown hG) (kG_cl hG rfl) rfl hT2.cell rfl rfl rfl (Nat.le_of_ble_eq_true rfl) (Nat.le_of_ble_eq_true rfl) (jj_bare0 rfl) ?_
  refine rp_thrown hG rfl hT2 ?_
  show jj G kL_law (d + 17) Q rc2 rs2 740 [some (.ref G.2.2.2.2.2), some (.ref (oa 0)), some (.ref (F 9)), some (.ref ot), some (.int (nI (i))), some (.int (nI (cd))), (o6)] [.int (nI (cd))] M2
  refine jj_iload (pc := 740) kL_law_d740 rfl ?_
  refine jn_icmp_eq (pc := 742) (tgt := 747) kL_law_d742 (by decide) (by omega) (by omega) (fun _ => ?_) (fun c => by exfalso; omega)
  refine jj_goto (pc := 747) (tgt := 1699) kL_law_d747 (by decide) ?_
  show jj G kL_law (d + 17) Q rc2 rs2 1699 [some (.ref G.2.2.2.2.2), some (.ref (oa 0)), some (.ref (F 9)), some (.ref ot), some (.int (nI (i))), some (.int (nI (cd))), (o6)] [] M2
  exact K M2 σ1 (nI cd) rc2 rs2 _ _ hW2
theorem law_echelon {o5 o6 : Option Value} (hG : kG G) (hs : jj_scr G N xs) (hi8 : i + 8 ≤ N) (hN : N ≤ 4096) (hJ : XJ wa la capx oa eu dv hi lo) (hH : HW M wa la oa F eu dv hi lo ot σ σ code (X + 6) (Z + 1) rc rs) (K : ∀ (M' : mheap) (σ' : rst) (code' : Int32) (rc' rs' : Nat) (p5 p6 : Option Value), HW M' wa la oa F eu dv hi lo ot σ' σ' code' X Z rc' rs' → jj G kL_law (d + 17) Q rc' rs' 1699 [some (.ref G.2.2.2.2.2), some (.ref (oa 0)), some (.ref (F 9)), some (.ref ot), some (.int (nI (i))), p5, p6] [] M') : jj G kL_law (d + 17) Q rc rs 750 [some (.ref G.2.2.2.2.2), some (.ref (oa 0)), some (.ref (F 9)), some (.ref ot), some (.int (nI (i))), o5, o6] [] M := by
  have hcell := hH.2.1.cell
  show jj G kL_law (d + 17) Q rc rs 750 [some (.ref G.2.2.2.2.2), some (.ref (oa 0)), some (.ref (F 9)), some (.ref ot), some (.int (nI (i))), (o5), (o6)] [] M
  refine jj_aload_n (pc := 750) kL_law_d750 rfl ?_
  refine jj_aload_n (pc := 751) kL_law_d751 rfl ?_
  refine jj_iload (pc := 752) kL_law_d752 rfl ?_
  refine jn_iconst (pc := 754) 1 kL_law_d754 (by decide) ?_
  refine jn_iadd (pc := 755) (i + 1) kL_law_d755 (by omega) ?_
  refine jj_sld (pc := 756) (i := i + 1) kL_law_d756 hs rfl rfl (by omega) ?_
  refine jj_aload_n (pc := 757) kL_law_d757 rfl ?_
  refine jj_iload (pc := 758) kL_law_d758 rfl ?_
  refine jn_iconst (pc := 760) 2 kL_law_d760 (by decide) ?_
  refine jn_iadd (pc := 761) (i + 2) kL_law_d761 (by omega) ?_
  refine jj_sld (pc := 762) (i := i + 2) kL_law_d762 hs rfl rfl (by omega) ?_
  refine jj_aload_n (pc := 763) kL_law_d763 rfl ?_
  refine jj_callS (pc := 764) (As := [.ref (oa 0), .int (xs (i + 1)), .int (xs (i + 2)), .ref ot]) kL_law_d764 (kvL_L_echelon hG) rfl rfl rfl (Nat.le_of_ble_eq_true rfl) (Nat.le_of_ble_eq_true rfl) (jj_bare0 rfl) ?_
  refine lm_echelon hG hJ hH (fun M1 cd v σ1 rc1 rs1 hs1 hW hcd hot => ?_)
  show jj G kL_law (d + 17) Q rc1 rs1 767 [some (.ref G.2.2.2.2.2), some (.ref (oa 0)), some (.ref (F 9)), some (.ref ot), some (.int (nI (i))), (o5), (o6)] [.int (nI (cd))] M1
  refine jj_istore (pc := 767) kL_law_d767 (Nat.le_of_ble_eq_true rfl) ?_
  show jj G kL_law (d + 17) Q rc1 rs1 769 [some (.ref G.2.2.2.2.2), some (.ref (oa 0)), some (.ref (F 9)), some (.ref ot), some (.int (nI (i))), some (.int (nI (cd))), (o6)] [] M1
  refine jj_aload_n (pc := 769) kL_law_d769 rfl ?_
  refine jj_aload_n (pc := 770) kL_law_d770 rfl ?_
  refine jj_iload (pc := 771) kL_law_d771 rfl ?_
  refine jn_iconst (pc := 773) 1 kL_law_d773 (by decide) ?_
  refine jn_iadd (pc := 774) (i + 1) kL_law_d774 (by omega) ?_
  refine jj_sld (pc := 775) (i := i + 1) kL_law_d775 hs rfl rfl (by omega) ?_
  refine jj_aload_n (pc := 776) kL_law_d776 rfl ?_
  refine jj_iload (pc := 777) kL_law_d777 rfl ?_
  refine jn_iconst (pc := 779) 2 kL_law_d779 (by decide) ?_
  refine jn_iadd (pc := 780) (i + 2) kL_law_d780 (by omega) ?_
  refine jj_sld (pc := 781) (i := i + 2) kL_law_d781 hs rfl rfl (by omega) ?_
  refine jj_callV (pc := 782) (b := (F 9)) (As := [.int (xs (i + 1)), .int (xs (i + 2))]) kL_law_d782 (kvL_R_echelon hG) (kG_cl hG rfl) rfl hW.2.1.cell rfl rfl rfl (Nat.le_of_ble_eq_true rfl) (Nat.le_of_ble_eq_true rfl) (jj_bare0 rfl) ?_
  refine rp_echelon hG rfl hW.2.1 hW.2.2.1 (fun M2 cd2 v2 σ2 rc2 rs2 hs2 hL2 hT2 hF2 => ?_)
  obtain ⟨ec, ev, es⟩ := semEch_det hH.2.2.1 hs1 hs2
  subst ec ev es
  obtain ⟨hW2, hot2⟩ := hW.ref hT2 hF2 hL2
  show jj G kL_law (d + 17) Q rc2 rs2 785 [some (.ref G.2.2.2.2.2), some (.ref (oa 0)), some (.ref (F 9)), some (.ref ot), some (.int (nI (i))), some (.int (nI (cd))), (o6)] [.int (nI (v))] M2
  refine jj_istore (pc := 785) kL_law_d785 (Nat.le_of_ble_eq_true rfl) ?_
  show jj G kL_law (d + 17) Q rc2 rs2 787 [some (.ref G.2.2.2.2.2), some (.ref (oa 0)), some (.ref (F 9)), some (.ref ot), some (.int (nI (i))), some (.int (nI (cd))), some (.int (nI (v)))] [] M2
  refine jj_aload_n (pc := 787) kL_law_d787 rfl ?_
  refine jj_callV (pc := 788) (b := (F 9)) (As := []) kL_law_d788 (kvL_R_thrown hG) (kG_cl hG rfl) rfl hT2.cell rfl rfl rfl (Nat.le_of_ble_eq_true rfl) (Nat.le_of_ble_eq_true rfl) (jj_bare0 rfl) ?_
  refine rp_thrown hG rfl hT2 ?_
  show jj G kL_law (d + 17) Q rc2 rs2 791 [some (.ref G.2.2.2.2.2), some (.ref (oa 0)), some (.ref (F 9)), some (.ref ot), some (.int (nI (i))), some (.int (nI (cd))), some (.int (nI (v)))] [.int (nI (cd))] M2
  refine jj_iload (pc := 791) kL_law_d791 rfl ?_
  refine jn_icmp_eq (pc := 793) (tgt := 798) kL_law_d793 (by decide) (by omega) (by omega) (fun _ => ?_) (fun c => by exfalso; omega)
  refine jj_iload (pc := 798) kL_law_d798 rfl ?_
  refine jn_if_ne (pc := 800) (tgt := 815) kL_law_d800 (by decide) (by omega) (fun c2 => ?_) (fun c2 => ?_)
  · skip
    refine jj_goto (pc := 815) (tgt := 1699) kL_law_d815 (by decide) ?_
    show jj G kL_law (d + 17) Q rc2 rs2 1699 [some (.ref G.2.2.2.2.2), some (.ref (oa 0)), some (.ref (F 9)), some (.ref ot), some (.int (nI (i))), some (.int (nI (cd))), some (.int (nI (v)))] [] M2
    exact K M2 σ1 (nI cd) rc2 rs2 _ _ hW2
  · skip
    have ecd : cd = 0 := by omega
    have hot3 := hot2.trans (hot ecd)
    refine jj_aload_n (pc := 803) kL_law_d803 rfl ?_
    refine jn_iconst (pc := 804) 0 kL_law_d804 (by decide) ?_
    refine jj_lald (pc := 805) (j := 1) (i := 0) kL_law_d805 (kG_t hG rfl) hot3 rfl (show 1 < 2 ^ 31 by decide) rfl ?_
    refine jj_iload (pc := 806) kL_law_d806 rfl ?_
    refine jj_i2l (pc := 808) kL_law_d808 ?_
    refine jj_lcmp (pc := 809) kL_law_d809 ?_
    refine jn_top (.int (nI (0))) (by rw [lgc_self]; rfl) ?_
    refine jn_if_eq (pc := 810) (tgt := 815) kL_law_d810 (by decide) (by omega) (fun _ => ?_) (fun c => by exfalso; omega)
    refine jj_goto (pc := 815) (tgt := 1699) kL_law_d815 (by decide) ?_
    show jj G kL_law (d + 17) Q rc2 rs2 1699 [some (.ref G.2.2.2.2.2), some (.ref (oa 0)), some (.ref (F 9)), some (.ref ot), some (.int (nI (i))), some (.int (nI (cd))), some (.int (nI (v)))] [] M2
    exact K M2 σ1 (nI cd) rc2 rs2 _ _ hW2
theorem law_kernel {o5 o6 : Option Value} (hG : kG G) (hs : jj_scr G N xs) (hi8 : i + 8 ≤ N) (hN : N ≤ 4096) (hJ : XJ wa la capx oa eu dv hi lo) (hH : HW M wa la oa F eu dv hi lo ot σ σ code (X + 6) (Z + 1) rc rs) (K : ∀ (M' : mheap) (σ' : rst) (code' : Int32) (rc' rs' : Nat) (p5 p6 : Option Value), HW M' wa la oa F eu dv hi lo ot σ' σ' code' X Z rc' rs' → jj G kL_law (d + 17) Q rc' rs' 1699 [some (.ref G.2.2.2.2.2), some (.ref (oa 0)), some (.ref (F 9)), some (.ref ot), some (.int (nI (i))), p5, p6] [] M') : jj G kL_law (d + 17) Q rc rs 818 [some (.ref G.2.2.2.2.2), some (.ref (oa 0)), some (.ref (F 9)), some (.ref ot), some (.int (nI (i))), o5, o6] [] M := by
  have hcell := hH.2.1.cell
  show jj G kL_law (d + 17) Q rc rs 818 [some (.ref G.2.2.2.2.2), some (.ref (oa 0)), some (.ref (F 9)), some (.ref ot), some (.int (nI (i))), (o5), (o6)] [] M
  refine jj_aload_n (pc := 818) kL_law_d818 rfl ?_
  refine jj_aload_n (pc := 819) kL_law_d819 rfl ?_
  refine jj_iload (pc := 820) kL_law_d820 rfl ?_
  refine jn_iconst (pc := 822) 1 kL_law_d822 (by decide) ?_
  refine jn_iadd (pc := 823) (i + 1) kL_law_d823 (by omega) ?_
  refine jj_sld (pc := 824) (i := i + 1) kL_law_d824 hs rfl rfl (by omega) ?_
  refine jj_aload_n (pc := 825) kL_law_d825 rfl ?_
  refine jj_iload (pc := 826) kL_law_d826 rfl ?_
  refine jn_iconst (pc := 828) 2 kL_law_d828 (by decide) ?_
  refine jn_iadd (pc := 829) (i + 2) kL_law_d829 (by omega) ?_
  refine jj_sld (pc := 830) (i := i + 2) kL_law_d830 hs rfl rfl (by omega) ?_
  refine jj_aload_n (pc := 831) kL_law_d831 rfl ?_
  refine jj_callS (pc := 832) (As := [.ref (oa 0), .int (xs (i + 1)), .int (xs (i + 2)), .ref ot]) kL_law_d832 (kvL_L_kernel hG) rfl rfl rfl (Nat.le_of_ble_eq_true rfl) (Nat.le_of_ble_eq_true rfl) (jj_bare0 rfl) ?_
  refine lm_kernel hG hJ hH (fun M1 cd v σ1 rc1 rs1 hs1 hW hcd hot => ?_)
  show jj G kL_law (d + 17) Q rc1 rs1 835 [some (.ref G.2.2.2.2.2), some (.ref (oa 0)), some (.ref (F 9)), some (.ref ot), some (.int (nI (i))), (o5), (o6)] [.int (nI (cd))] M1
  refine jj_istore (pc := 835) kL_law_d835 (Nat.le_of_ble_eq_true rfl) ?_
  show jj G kL_law (d + 17) Q rc1 rs1 837 [some (.ref G.2.2.2.2.2), some (.ref (oa 0)), some (.ref (F 9)), some (.ref ot), some (.int (nI (i))), some (.int (nI (cd))), (o6)] [] M1
  refine jj_aload_n (pc := 837) kL_law_d837 rfl ?_
  refine jj_aload_n (pc := 838) kL_law_d838 rfl ?_
  refine jj_iload (pc := 839) kL_law_d839 rfl ?_
  refine jn_iconst (pc := 841) 1 kL_law_d841 (by decide) ?_
  refine jn_iadd (pc := 842) (i + 1) kL_law_d842 (by omega) ?_
  refine jj_sld (pc := 843) (i := i + 1) kL_law_d843 hs rfl rfl (by omega) ?_
  refine jj_aload_n (pc := 844) kL_law_d844 rfl ?_
  refine jj_iload (pc := 845) kL_law_d845 rfl ?_
  refine jn_iconst (pc := 847) 2 kL_law_d847 (by decide) ?_
  refine jn_iadd (pc := 848) (i + 2) kL_law_d848 (by omega) ?_
  refine jj_sld (pc := 849) (i := i + 2) kL_law_d849 hs rfl rfl (by omega) ?_
  refine jj_callV (pc := 850) (b := (F 9)) (As := [.int (xs (i + 1)), .int (xs (i + 2))]) kL_law_d850 (kvL_R_kernel hG) (kG_cl hG rfl) rfl hW.2.1.cell rfl rfl rfl (Nat.le_of_ble_eq_true rfl) (Nat.le_of_ble_eq_true rfl) (jj_bare0 rfl) ?_
  refine rp_kernel hG rfl hW.2.1 hW.2.2.1 (fun M2 cd2 v2 σ2 rc2 rs2 hs2 hL2 hT2 hF2 => ?_)
  obtain ⟨ec, ev, es⟩ := semKer_det hH.2.2.1 hs1 hs2
  subst ec ev es
  obtain ⟨hW2, hot2⟩ := hW.ref hT2 hF2 hL2
  show jj G kL_law (d + 17) Q rc2 rs2 853 [some (.ref G.2.2.2.2.2), some (.ref (oa 0)), some (.ref (F 9)), some (.ref ot), some (.int (nI (i))), some (.int (nI (cd))), (o6)] [.int (nI (v))] M2
  refine jj_istore (pc := 853) kL_law_d853 (Nat.le_of_ble_eq_true rfl) ?_
  show jj G kL_law (d + 17) Q rc2 rs2 855 [some (.ref G.2.2.2.2.2), some (.ref (oa 0)), some (.ref (F 9)), some (.ref ot), some (.int (nI (i))), some (.int (nI (cd))), some (.int (nI (v)))] [] M2
  refine jj_aload_n (pc := 855) kL_law_d855 rfl ?_
  refine jj_callV (pc := 856) (b := (F 9)) (As := []) kL_law_d856 (kvL_R_thrown hG) (kG_cl hG rfl) rfl hT2.cell rfl rfl rfl (Nat.le_of_ble_eq_true rfl) (Nat.le_of_ble_eq_true rfl) (jj_bare0 rfl) ?_
  refine rp_thrown hG rfl hT2 ?_
  show jj G kL_law (d + 17) Q rc2 rs2 859 [some (.ref G.2.2.2.2.2), some (.ref (oa 0)), some (.ref (F 9)), some (.ref ot), some (.int (nI (i))), some (.int (nI (cd))), some (.int (nI (v)))] [.int (nI (cd))] M2
  refine jj_iload (pc := 859) kL_law_d859 rfl ?_
  refine jn_icmp_eq (pc := 861) (tgt := 866) kL_law_d861 (by decide) (by omega) (by omega) (fun _ => ?_) (fun c => by exfalso; omega)
  refine jj_iload (pc := 866) kL_law_d866 rfl ?_
  refine jn_if_ne (pc := 868) (tgt := 883) kL_law_d868 (by decide) (by omega) (fun c2 => ?_) (fun c2 => ?_)
  · skip
    refine jj_goto (pc := 883) (tgt := 1699) kL_law_d883 (by decide) ?_
    show jj G kL_law (d + 17) Q rc2 rs2 1699 [some (.ref G.2.2.2.2.2), some (.ref (oa 0)), some (.ref (F 9)), some (.ref ot), some (.int (nI (i))), some (.int (nI (cd))), some (.int (nI (v)))] [] M2
    exact K M2 σ1 (nI cd) rc2 rs2 _ _ hW2
  · skip
    have ecd : cd = 0 := by omega
    have hot3 := hot2.trans (hot ecd)
    refine jj_aload_n (pc := 871) kL_law_d871 rfl ?_
    refine jn_iconst (pc := 872) 0 kL_law_d872 (by decide) ?_
    refine jj_lald (pc := 873) (j := 1) (i := 0) kL_law_d873 (kG_t hG rfl) hot3 rfl (show 1 < 2 ^ 31 by decide) rfl ?_
    refine jj_iload (pc := 874) kL_law_d874 rfl ?_
    refine jj_i2l (pc := 876) kL_law_d876 ?_
    refine jj_lcmp (pc := 877) kL_law_d877 ?_
    refine jn_top (.int (nI (0))) (by rw [lgc_self]; rfl) ?_
    refine jn_if_eq (pc := 878) (tgt := 883) kL_law_d878 (by decide) (by omega) (fun _ => ?_) (fun c => by exfalso; omega)
    refine jj_goto (pc := 883) (tgt := 1699) kL_law_d883 (by decide) ?_
    show jj G kL_law (d + 17) Q rc2 rs2 1699 [some (.ref G.2.2.2.2.2), some (.ref (oa 0)), some (.ref (F 9)), some (.ref ot), some (.int (nI (i))), some (.int (nI (cd))), some (.int (nI (v)))] [] M2
    exact K M2 σ1 (nI cd) rc2 rs2 _ _ hW2
theorem law_solve {o5 o6 : Option Value} (hG : kG G) (hs : jj_scr G N xs) (hi8 : i + 8 ≤ N) (hN : N ≤ 4096) (hJ : XJ wa la capx oa eu dv hi lo) (hH : HW M wa la oa F eu dv hi lo ot σ σ code (X + 6) (Z + 1) rc rs) (K : ∀ (M' : mheap) (σ' : rst) (code' : Int32) (rc' rs' : Nat) (p5 p6 : Option Value), HW M' wa la oa F eu dv hi lo ot σ' σ' code' X Z rc' rs' → jj G kL_law (d + 17) Q rc' rs' 1699 [some (.ref G.2.2.2.2.2), some (.ref (oa 0)), some (.ref (F 9)), some (.ref ot), some (.int (nI (i))), p5, p6] [] M') : jj G kL_law (d + 17) Q rc rs 886 [some (.ref G.2.2.2.2.2), some (.ref (oa 0)), some (.ref (F 9)), some (.ref ot), some (.int (nI (i))), o5, o6] [] M := by
  have hcell := hH.2.1.cell
  show jj G kL_law (d + 17) Q rc rs 886 [some (.ref G.2.2.2.2.2), some (.ref (oa 0)), some (.ref (F 9)), some (.ref ot), some (.int (nI (i))), (o5), (o6)] [] M
  refine jj_aload_n (pc := 886) kL_law_d886 rfl ?_
  refine jj_aload_n (pc := 887) kL_law_d887 rfl ?_
  refine jj_iload (pc := 888) kL_law_d888 rfl ?_
  refine jn_iconst (pc := 890) 1 kL_law_d890 (by decide) ?_
  refine jn_iadd (pc := 891) (i + 1) kL_law_d891 (by omega) ?_
  refine jj_sld (pc := 892) (i := i + 1) kL_law_d892 hs rfl rfl (by omega) ?_
  refine jj_aload_n (pc := 893) kL_law_d893 rfl ?_
  refine jj_iload (pc := 894) kL_law_d894 rfl ?_
  refine jn_iconst (pc := 896) 2 kL_law_d896 (by decide) ?_
  refine jn_iadd (pc := 897) (i + 2) kL_law_d897 (by omega) ?_
  refine jj_sld (pc := 898) (i := i + 2) kL_law_d898 hs rfl rfl (by omega) ?_
  refine jj_aload_n (pc := 899) kL_law_d899 rfl ?_
  refine jj_iload (pc := 900) kL_law_d900 rfl ?_
  refine jn_iconst (pc := 902) 3 kL_law_d902 (by decide) ?_
  refine jn_iadd (pc := 903) (i + 3) kL_law_d903 (by omega) ?_
  refine jj_sld (pc := 904) (i := i + 3) kL_law_d904 hs rfl rfl (by omega) ?_
  refine jj_aload_n (pc := 905) kL_law_d905 rfl ?_
  refine jj_callS (pc := 906) (As := [.ref (oa 0), .int (xs (i + 1)), .int (xs (i + 2)), .int (xs (i + 3)), .ref ot]) kL_law_d906 (kvL_L_solve hG) rfl rfl rfl (Nat.le_of_ble_eq_true rfl) (Nat.le_of_ble_eq_true rfl) (jj_bare0 rfl) ?_
  refine lm_solve hG hJ hH (fun M1 cd v σ1 rc1 rs1 hs1 hW hcd hot => ?_)
  show jj G kL_law (d + 17) Q rc1 rs1 909 [some (.ref G.2.2.2.2.2), some (.ref (oa 0)), some (.ref (F 9)), some (.ref ot), some (.int (nI (i))), (o5), (o6)] [.int (nI (cd))] M1
  refine jj_istore (pc := 909) kL_law_d909 (Nat.le_of_ble_eq_true rfl) ?_
  show jj G kL_law (d + 17) Q rc1 rs1 911 [some (.ref G.2.2.2.2.2), some (.ref (oa 0)), some (.ref (F 9)), some (.ref ot), some (.int (nI (i))), some (.int (nI (cd))), (o6)] [] M1
  refine jj_aload_n (pc := 911) kL_law_d911 rfl ?_
  refine jj_aload_n (pc := 912) kL_law_d912 rfl ?_
  refine jj_iload (pc := 913) kL_law_d913 rfl ?_
  refine jn_iconst (pc := 915) 1 kL_law_d915 (by decide) ?_
  refine jn_iadd (pc := 916) (i + 1) kL_law_d916 (by omega) ?_
  refine jj_sld (pc := 917) (i := i + 1) kL_law_d917 hs rfl rfl (by omega) ?_
  refine jj_aload_n (pc := 918) kL_law_d918 rfl ?_
  refine jj_iload (pc := 919) kL_law_d919 rfl ?_
  refine jn_iconst (pc := 921) 2 kL_law_d921 (by decide) ?_
  refine jn_iadd (pc := 922) (i + 2) kL_law_d922 (by omega) ?_
  refine jj_sld (pc := 923) (i := i + 2) kL_law_d923 hs rfl rfl (by omega) ?_
  refine jj_aload_n (pc := 924) kL_law_d924 rfl ?_
  refine jj_iload (pc := 925) kL_law_d925 rfl ?_
  refine jn_iconst (pc := 927) 3 kL_law_d927 (by decide) ?_
  refine jn_iadd (pc := 928) (i + 3) kL_law_d928 (by omega) ?_
  refine jj_sld (pc := 929) (i := i + 3) kL_law_d929 hs rfl rfl (by omega) ?_
  refine jj_callV (pc := 930) (b := (F 9)) (As := [.int (xs (i + 1)), .int (xs (i + 2)), .int (xs (i + 3))]) kL_law_d930 (kvL_R_solve hG) (kG_cl hG rfl) rfl hW.2.1.cell rfl rfl rfl (Nat.le_of_ble_eq_true rfl) (Nat.le_of_ble_eq_true rfl) (jj_bare0 rfl) ?_
  refine rp_solve hG rfl hW.2.1 hW.2.2.1 (fun M2 cd2 v2 σ2 rc2 rs2 hs2 hL2 hT2 hF2 => ?_)
  obtain ⟨ec, ev, es⟩ := semSolve_det hH.2.2.1 hs1 hs2
  subst ec ev es
  obtain ⟨hW2, hot2⟩ := hW.ref hT2 hF2 hL2
  show jj G kL_law (d + 17) Q rc2 rs2 933 [some (.ref G.2.2.2.2.2), some (.ref (oa 0)), some (.ref (F 9)), some (.ref ot), some (.int (nI (i))), some (.int (nI (cd))), (o6)] [.int (nI (v))] M2
  refine jj_istore (pc := 933) kL_law_d933 (Nat.le_of_ble_eq_true rfl) ?_
  show jj G kL_law (d + 17) Q rc2 rs2 935 [some (.ref G.2.2.2.2.2), some (.ref (oa 0)), some (.ref (F 9)), some (.ref ot), some (.int (nI (i))), some (.int (nI (cd))), some (.int (nI (v)))] [] M2
  refine jj_aload_n (pc := 935) kL_law_d935 rfl ?_
  refine jj_callV (pc := 936) (b := (F 9)) (As := []) kL_law_d936 (kvL_R_thrown hG) (kG_cl hG rfl) rfl hT2.cell rfl rfl rfl (Nat.le_of_ble_eq_true rfl) (Nat.le_of_ble_eq_true rfl) (jj_bare0 rfl) ?_
  refine rp_thrown hG rfl hT2 ?_
  show jj G kL_law (d + 17) Q rc2 rs2 939 [some (.ref G.2.2.2.2.2), some (.ref (oa 0)), some (.ref (F 9)), some (.ref ot), some (.int (nI (i))), some (.int (nI (cd))), some (.int (nI (v)))] [.int (nI (cd))] M2
  refine jj_iload (pc := 939) kL_law_d939 rfl ?_
  refine jn_icmp_eq (pc := 941) (tgt := 946) kL_law_d941 (by decide) (by omega) (by omega) (fun _ => ?_) (fun c => by exfalso; omega)
  refine jj_iload (pc := 946) kL_law_d946 rfl ?_
  refine jn_if_ne (pc := 948) (tgt := 970) kL_law_d948 (by decide) (by omega) (fun c2 => ?_) (fun c2 => ?_)
  · skip
    refine jj_goto (pc := 970) (tgt := 1699) kL_law_d970 (by decide) ?_
    show jj G kL_law (d + 17) Q rc2 rs2 1699 [some (.ref G.2.2.2.2.2), some (.ref (oa 0)), some (.ref (F 9)), some (.ref ot), some (.int (nI (i))), some (.int (nI (cd))), some (.int (nI (v)))] [] M2
    exact K M2 σ1 (nI cd) rc2 rs2 _ _ hW2
  · skip
    have ecd : cd = 0 := by omega
    have hot3 := hot2.trans (hot ecd)
    refine jj_aload_n (pc := 951) kL_law_d951 rfl ?_
    refine jn_iconst (pc := 952) 0 kL_law_d952 (by decide) ?_
    refine jj_lald (pc := 953) (j := 1) (i := 0) kL_law_d953 (kG_t hG rfl) hot3 rfl (show 1 < 2 ^ 31 by decide) rfl ?_
    refine jj_iload (pc := 954) kL_law_d954 rfl ?_
    have hv1 := semSolve_v hs1
    refine jn_if_eq (pc := 956) (tgt := 963) kL_law_d956 (by decide) (by omega) (fun c3 => ?_) (fun c3 => ?_)
    · skip
      have ev0 : v = 0 := by omega
      subst ev0
      show jj G kL_law (d + 17) Q rc2 rs2 963 [some (.ref G.2.2.2.2.2), some (.ref (oa 0)), some (.ref (F 9)), some (.ref ot), some (.int (nI (i))), some (.int (nI (cd))), some (.int (nI (0)))] [.long (lN (0))] M2
      refine jj_lconst (pc := 963) (v := lN 0) kL_law_d963 (by decide) ?_
      refine jj_lcmp (pc := 964) kL_law_d964 ?_
      refine jn_top (.int (nI (0))) (by rw [lgc_self]; rfl) ?_
      refine jn_if_eq (pc := 965) (tgt := 970) kL_law_d965 (by decide) (by omega) (fun _ => ?_) (fun c => by exfalso; omega)
      refine jj_goto (pc := 970) (tgt := 1699) kL_law_d970 (by decide) ?_
      show jj G kL_law (d + 17) Q rc2 rs2 1699 [some (.ref G.2.2.2.2.2), some (.ref (oa 0)), some (.ref (F 9)), some (.ref ot), some (.int (nI (i))), some (.int (nI (cd))), some (.int (nI (0)))] [] M2
      exact K M2 σ1 (nI cd) rc2 rs2 _ _ hW2
    · skip
      have ev0 : v = 1 := by omega
      subst ev0
      show jj G kL_law (d + 17) Q rc2 rs2 959 [some (.ref G.2.2.2.2.2), some (.ref (oa 0)), some (.ref (F 9)), some (.ref ot), some (.int (nI (i))), some (.int (nI (cd))), some (.int (nI (1)))] [.long (lN (1))] M2
      refine jj_lconst (pc := 959) (v := lN 1) kL_law_d959 (by decide) ?_
      refine jj_goto (pc := 960) (tgt := 964) kL_law_d960 (by decide) ?_
      refine jj_lcmp (pc := 964) kL_law_d964 ?_
      refine jn_top (.int (nI (0))) (by rw [lgc_self]; rfl) ?_
      refine jn_if_eq (pc := 965) (tgt := 970) kL_law_d965 (by decide) (by omega) (fun _ => ?_) (fun c => by exfalso; omega)
      refine jj_goto (pc := 970) (tgt := 1699) kL_law_d970 (by decide) ?_
      show jj G kL_law (d + 17) Q rc2 rs2 1699 [some (.ref G.2.2.2.2.2), some (.ref (oa 0)), some (.ref (F 9)), some (.ref ot), some (.int (nI (i))), some (.int (nI (cd))), some (.int (nI (1)))] [] M2
      exact K M2 σ1 (nI cd) rc2 rs2 _ _ hW2
theorem law_invert {o5 o6 : Option Value} (hG : kG G) (hs : jj_scr G N xs) (hi8 : i + 8 ≤ N) (hN : N ≤ 4096) (hJ : XJ wa la capx oa eu dv hi lo) (hH : HW M wa la oa F eu dv hi lo ot σ σ code (X + 6) (Z + 1) rc rs) (K : ∀ (M' : mheap) (σ' : rst) (code' : Int32) (rc' rs' : Nat) (p5 p6 : Option Value), HW M' wa la oa F eu dv hi lo ot σ' σ' code' X Z rc' rs' → jj G kL_law (d + 17) Q rc' rs' 1699 [some (.ref G.2.2.2.2.2), some (.ref (oa 0)), some (.ref (F 9)), some (.ref ot), some (.int (nI (i))), p5, p6] [] M') : jj G kL_law (d + 17) Q rc rs 973 [some (.ref G.2.2.2.2.2), some (.ref (oa 0)), some (.ref (F 9)), some (.ref ot), some (.int (nI (i))), o5, o6] [] M := by
  have hcell := hH.2.1.cell
  show jj G kL_law (d + 17) Q rc rs 973 [some (.ref G.2.2.2.2.2), some (.ref (oa 0)), some (.ref (F 9)), some (.ref ot), some (.int (nI (i))), (o5), (o6)] [] M
  refine jj_aload_n (pc := 973) kL_law_d973 rfl ?_
  refine jj_aload_n (pc := 974) kL_law_d974 rfl ?_
  refine jj_iload (pc := 975) kL_law_d975 rfl ?_
  refine jn_iconst (pc := 977) 1 kL_law_d977 (by decide) ?_
  refine jn_iadd (pc := 978) (i + 1) kL_law_d978 (by omega) ?_
  refine jj_sld (pc := 979) (i := i + 1) kL_law_d979 hs rfl rfl (by omega) ?_
  refine jj_aload_n (pc := 980) kL_law_d980 rfl ?_
  refine jj_iload (pc := 981) kL_law_d981 rfl ?_
  refine jn_iconst (pc := 983) 2 kL_law_d983 (by decide) ?_
  refine jn_iadd (pc := 984) (i + 2) kL_law_d984 (by omega) ?_
  refine jj_sld (pc := 985) (i := i + 2) kL_law_d985 hs rfl rfl (by omega) ?_
  refine jj_aload_n (pc := 986) kL_law_d986 rfl ?_
  refine jj_callS (pc := 987) (As := [.ref (oa 0), .int (xs (i + 1)), .int (xs (i + 2)), .ref ot]) kL_law_d987 (kvL_L_invert hG) rfl rfl rfl (Nat.le_of_ble_eq_true rfl) (Nat.le_of_ble_eq_true rfl) (jj_bare0 rfl) ?_
  refine lm_invert hG hJ hH (fun M1 cd v σ1 rc1 rs1 hs1 hW hcd hot => ?_)
  show jj G kL_law (d + 17) Q rc1 rs1 990 [some (.ref G.2.2.2.2.2), some (.ref (oa 0)), some (.ref (F 9)), some (.ref ot), some (.int (nI (i))), (o5), (o6)] [.int (nI (cd))] M1
  refine jj_istore (pc := 990) kL_law_d990 (Nat.le_of_ble_eq_true rfl) ?_
  show jj G kL_law (d + 17) Q rc1 rs1 992 [some (.ref G.2.2.2.2.2), some (.ref (oa 0)), some (.ref (F 9)), some (.ref ot), some (.int (nI (i))), some (.int (nI (cd))), (o6)] [] M1
  refine jj_aload_n (pc := 992) kL_law_d992 rfl ?_
  refine jj_aload_n (pc := 993) kL_law_d993 rfl ?_
  refine jj_iload (pc := 994) kL_law_d994 rfl ?_
  refine jn_iconst (pc := 996) 1 kL_law_d996 (by decide) ?_
  refine jn_iadd (pc := 997) (i + 1) kL_law_d997 (by omega) ?_
  refine jj_sld (pc := 998) (i := i + 1) kL_law_d998 hs rfl rfl (by omega) ?_
  refine jj_aload_n (pc := 999) kL_law_d999 rfl ?_
  refine jj_iload (pc := 1000) kL_law_d1000 rfl ?_
  refine jn_iconst (pc := 1002) 2 kL_law_d1002 (by decide) ?_
  refine jn_iadd (pc := 1003) (i + 2) kL_law_d1003 (by omega) ?_
  refine jj_sld (pc := 1004) (i := i + 2) kL_law_d1004 hs rfl rfl (by omega) ?_
  refine jj_callV (pc := 1005) (b := (F 9)) (As := [.int (xs (i + 1)), .int (xs (i + 2))]) kL_law_d1005 (kvL_R_invert hG) (kG_cl hG rfl) rfl hW.2.1.cell rfl rfl rfl (Nat.le_of_ble_eq_true rfl) (Nat.le_of_ble_eq_true rfl) (jj_bare0 rfl) ?_
  refine rp_invert hG rfl hW.2.1 hW.2.2.1 (fun M2 cd2 v2 σ2 rc2 rs2 hs2 hL2 hT2 hF2 => ?_)
  obtain ⟨ec, ev, es⟩ := semInv_det hH.2.2.1 hs1 hs2
  subst ec ev es
  obtain ⟨hW2, hot2⟩ := hW.ref hT2 hF2 hL2
  show jj G kL_law (d + 17) Q rc2 rs2 1008 [some (.ref G.2.2.2.2.2), some (.ref (oa 0)), some (.ref (F 9)), some (.ref ot), some (.int (nI (i))), some (.int (nI (cd))), (o6)] [.int (nI (v))] M2
  refine jj_istore (pc := 1008) kL_law_d1008 (Nat.le_of_ble_eq_true rfl) ?_
  show jj G kL_law (d + 17) Q rc2 rs2 1010 [some (.ref G.2.2.2.2.2), some (.ref (oa 0)), some (.ref (F 9)), some (.ref ot), some (.int (nI (i))), some (.int (nI (cd))), some (.int (nI (v)))] [] M2
  refine jj_aload_n (pc := 1010) kL_law_d1010 rfl ?_
  refine jj_callV (pc := 1011) (b := (F 9)) (As := []) kL_law_d1011 (kvL_R_thrown hG) (kG_cl hG rfl) rfl hT2.cell rfl rfl rfl (Nat.le_of_ble_eq_true rfl) (Nat.le_of_ble_eq_true rfl) (jj_bare0 rfl) ?_
  refine rp_thrown hG rfl hT2 ?_
  show jj G kL_law (d + 17) Q rc2 rs2 1014 [some (.ref G.2.2.2.2.2), some (.ref (oa 0)), some (.ref (F 9)), some (.ref ot), some (.int (nI (i))), some (.int (nI (cd))), some (.int (nI (v)))] [.int (nI (cd))] M2
  refine jj_iload (pc := 1014) kL_law_d1014 rfl ?_
  refine jn_icmp_eq (pc := 1016) (tgt := 1021) kL_law_d1016 (by decide) (by omega) (by omega) (fun _ => ?_) (fun c => by exfalso; omega)
  refine jj_iload (pc := 1021) kL_law_d1021 rfl ?_
  refine jn_if_ne (pc := 1023) (tgt := 1045) kL_law_d1023 (by decide) (by omega) (fun c2 => ?_) (fun c2 => ?_)
  · skip
    refine jj_goto (pc := 1045) (tgt := 1699) kL_law_d1045 (by decide) ?_
    show jj G kL_law (d + 17) Q rc2 rs2 1699 [some (.ref G.2.2.2.2.2), some (.ref (oa 0)), some (.ref (F 9)), some (.ref ot), some (.int (nI (i))), some (.int (nI (cd))), some (.int (nI (v)))] [] M2
    exact K M2 σ1 (nI cd) rc2 rs2 _ _ hW2
  · skip
    have ecd : cd = 0 := by omega
    have hot3 := hot2.trans (hot ecd)
    refine jj_aload_n (pc := 1026) kL_law_d1026 rfl ?_
    refine jn_iconst (pc := 1027) 0 kL_law_d1027 (by decide) ?_
    refine jj_lald (pc := 1028) (j := 1) (i := 0) kL_law_d1028 (kG_t hG rfl) hot3 rfl (show 1 < 2 ^ 31 by decide) rfl ?_
    refine jj_iload (pc := 1029) kL_law_d1029 rfl ?_
    have hv1 := semInv_v hs1
    refine jn_if_eq (pc := 1031) (tgt := 1038) kL_law_d1031 (by decide) (by omega) (fun c3 => ?_) (fun c3 => ?_)
    · skip
      have ev0 : v = 0 := by omega
      subst ev0
      show jj G kL_law (d + 17) Q rc2 rs2 1038 [some (.ref G.2.2.2.2.2), some (.ref (oa 0)), some (.ref (F 9)), some (.ref ot), some (.int (nI (i))), some (.int (nI (cd))), some (.int (nI (0)))] [.long (lN (0))] M2
      refine jj_lconst (pc := 1038) (v := lN 0) kL_law_d1038 (by decide) ?_
      refine jj_lcmp (pc := 1039) kL_law_d1039 ?_
      refine jn_top (.int (nI (0))) (by rw [lgc_self]; rfl) ?_
      refine jn_if_eq (pc := 1040) (tgt := 1045) kL_law_d1040 (by decide) (by omega) (fun _ => ?_) (fun c => by exfalso; omega)
      refine jj_goto (pc := 1045) (tgt := 1699) kL_law_d1045 (by decide) ?_
      show jj G kL_law (d + 17) Q rc2 rs2 1699 [some (.ref G.2.2.2.2.2), some (.ref (oa 0)), some (.ref (F 9)), some (.ref ot), some (.int (nI (i))), some (.int (nI (cd))), some (.int (nI (0)))] [] M2
      exact K M2 σ1 (nI cd) rc2 rs2 _ _ hW2
    · skip
      have ev0 : v = 1 := by omega
      subst ev0
      show jj G kL_law (d + 17) Q rc2 rs2 1034 [some (.ref G.2.2.2.2.2), some (.ref (oa 0)), some (.ref (F 9)), some (.ref ot), some (.int (nI (i))), some (.int (nI (cd))), some (.int (nI (1)))] [.long (lN (1))] M2
      refine jj_lconst (pc := 1034) (v := lN 1) kL_law_d1034 (by decide) ?_
      refine jj_goto (pc := 1035) (tgt := 1039) kL_law_d1035 (by decide) ?_
      refine jj_lcmp (pc := 1039) kL_law_d1039 ?_
      refine jn_top (.int (nI (0))) (by rw [lgc_self]; rfl) ?_
      refine jn_if_eq (pc := 1040) (tgt := 1045) kL_law_d1040 (by decide) (by omega) (fun _ => ?_) (fun c => by exfalso; omega)
      refine jj_goto (pc := 1045) (tgt := 1699) kL_law_d1045 (by decide) ?_
      show jj G kL_law (d + 17) Q rc2 rs2 1699 [some (.ref G.2.2.2.2.2), some (.ref (oa 0)), some (.ref (F 9)), some (.ref ot), some (.int (nI (i))), some (.int (nI (cd))), some (.int (nI (1)))] [] M2
      exact K M2 σ1 (nI cd) rc2 rs2 _ _ hW2
theorem law_determinant {o5 o6 : Option Value} (hG : kG G) (hs : jj_scr G N xs) (hi8 : i + 8 ≤ N) (hN : N ≤ 4096) (hJ : XJ wa la capx oa eu dv hi lo) (hH : HW M wa la oa F eu dv hi lo ot σ σ code (X + 6) (Z + 1) rc rs) (K : ∀ (M' : mheap) (σ' : rst) (code' : Int32) (rc' rs' : Nat) (p5 p6 : Option Value), HW M' wa la oa F eu dv hi lo ot σ' σ' code' X Z rc' rs' → jj G kL_law (d + 17) Q rc' rs' 1699 [some (.ref G.2.2.2.2.2), some (.ref (oa 0)), some (.ref (F 9)), some (.ref ot), some (.int (nI (i))), p5, p6] [] M') : jj G kL_law (d + 17) Q rc rs 1048 [some (.ref G.2.2.2.2.2), some (.ref (oa 0)), some (.ref (F 9)), some (.ref ot), some (.int (nI (i))), o5, o6] [] M := by
  have hcell := hH.2.1.cell
  show jj G kL_law (d + 17) Q rc rs 1048 [some (.ref G.2.2.2.2.2), some (.ref (oa 0)), some (.ref (F 9)), some (.ref ot), some (.int (nI (i))), (o5), (o6)] [] M
  refine jj_aload_n (pc := 1048) kL_law_d1048 rfl ?_
  refine jj_aload_n (pc := 1049) kL_law_d1049 rfl ?_
  refine jj_iload (pc := 1050) kL_law_d1050 rfl ?_
  refine jn_iconst (pc := 1052) 1 kL_law_d1052 (by decide) ?_
  refine jn_iadd (pc := 1053) (i + 1) kL_law_d1053 (by omega) ?_
  refine jj_sld (pc := 1054) (i := i + 1) kL_law_d1054 hs rfl rfl (by omega) ?_
  refine jj_aload_n (pc := 1055) kL_law_d1055 rfl ?_
  refine jj_iload (pc := 1056) kL_law_d1056 rfl ?_
  refine jn_iconst (pc := 1058) 2 kL_law_d1058 (by decide) ?_
  refine jn_iadd (pc := 1059) (i + 2) kL_law_d1059 (by omega) ?_
  refine jj_sld (pc := 1060) (i := i + 2) kL_law_d1060 hs rfl rfl (by omega) ?_
  refine jj_callS (pc := 1061) (As := [.ref (oa 0), .int (xs (i + 1)), .int (xs (i + 2))]) kL_law_d1061 (kvL_L_determinant hG) rfl rfl rfl (Nat.le_of_ble_eq_true rfl) (Nat.le_of_ble_eq_true rfl) (jj_bare0 rfl) ?_
  refine lm_determinant hG hJ hH (fun M1 cd σ1 rc1 rs1 hs1 hW hcd => ?_)
  show jj G kL_law (d + 17) Q rc1 rs1 1064 [some (.ref G.2.2.2.2.2), some (.ref (oa 0)), some (.ref (F 9)), some (.ref ot), some (.int (nI (i))), (o5), (o6)] [.int (nI (cd))] M1
  refine jj_istore (pc := 1064) kL_law_d1064 (Nat.le_of_ble_eq_true rfl) ?_
  show jj G kL_law (d + 17) Q rc1 rs1 1066 [some (.ref G.2.2.2.2.2), some (.ref (oa 0)), some (.ref (F 9)), some (.ref ot), some (.int (nI (i))), some (.int (nI (cd))), (o6)] [] M1
  refine jj_aload_n (pc := 1066) kL_law_d1066 rfl ?_
  refine jj_aload_n (pc := 1067) kL_law_d1067 rfl ?_
  refine jj_iload (pc := 1068) kL_law_d1068 rfl ?_
  refine jn_iconst (pc := 1070) 1 kL_law_d1070 (by decide) ?_
  refine jn_iadd (pc := 1071) (i + 1) kL_law_d1071 (by omega) ?_
  refine jj_sld (pc := 1072) (i := i + 1) kL_law_d1072 hs rfl rfl (by omega) ?_
  refine jj_aload_n (pc := 1073) kL_law_d1073 rfl ?_
  refine jj_iload (pc := 1074) kL_law_d1074 rfl ?_
  refine jn_iconst (pc := 1076) 2 kL_law_d1076 (by decide) ?_
  refine jn_iadd (pc := 1077) (i + 2) kL_law_d1077 (by omega) ?_
  refine jj_sld (pc := 1078) (i := i + 2) kL_law_d1078 hs rfl rfl (by omega) ?_
  refine jj_callV (pc := 1079) (b := (F 9)) (As := [.int (xs (i + 1)), .int (xs (i + 2))]) kL_law_d1079 (kvL_R_determinant hG) (kG_cl hG rfl) rfl hW.2.1.cell rfl rfl rfl (Nat.le_of_ble_eq_true rfl) (Nat.le_of_ble_eq_true rfl) (jj_bare0 rfl) ?_
  refine rp_determinant hG rfl hW.2.1 hW.2.2.1 (fun M2 cd2 σ2 rc2 rs2 hs2 hL2 hT2 hF2 => ?_)
  obtain ⟨ec, es⟩ := semDet_det hs1 hs2
  subst ec es
  obtain ⟨hW2, hot2⟩ := hW.ref hT2 hF2 hL2
  show jj G kL_law (d + 17) Q rc2 rs2 1082 [some (.ref G.2.2.2.2.2), some (.ref (oa 0)), some (.ref (F 9)), some (.ref ot), some (.int (nI (i))), some (.int (nI (cd))), (o6)] [] M2
  refine jj_aload_n (pc := 1082) kL_law_d1082 rfl ?_
  refine jj_callV (pc := 1083) (b := (F 9)) (As := []) kL_law_d1083 (kvL_R_thrown hG) (kG_cl hG rfl) rfl hT2.cell rfl rfl rfl (Nat.le_of_ble_eq_true rfl) (Nat.le_of_ble_eq_true rfl) (jj_bare0 rfl) ?_
  refine rp_thrown hG rfl hT2 ?_
  show jj G kL_law (d + 17) Q rc2 rs2 1086 [some (.ref G.2.2.2.2.2), some (.ref (oa 0)), some (.ref (F 9)), some (.ref ot), some (.int (nI (i))), some (.int (nI (cd))), (o6)] [.int (nI (cd))] M2
  refine jj_iload (pc := 1086) kL_law_d1086 rfl ?_
  refine jn_icmp_eq (pc := 1088) (tgt := 1093) kL_law_d1088 (by decide) (by omega) (by omega) (fun _ => ?_) (fun c => by exfalso; omega)
  refine jj_goto (pc := 1093) (tgt := 1699) kL_law_d1093 (by decide) ?_
  show jj G kL_law (d + 17) Q rc2 rs2 1699 [some (.ref G.2.2.2.2.2), some (.ref (oa 0)), some (.ref (F 9)), some (.ref ot), some (.int (nI (i))), some (.int (nI (cd))), (o6)] [] M2
  exact K M2 σ1 (nI cd) rc2 rs2 _ _ hW2
theorem law_hermite {o5 o6 : Option Value} (hG : kG G) (hs : jj_scr G N xs) (hi8 : i + 8 ≤ N) (hN : N ≤ 4096) (hJ : XJ wa la capx oa eu dv hi lo) (hH : HW M wa la oa F eu dv hi lo ot σ σ code (X + 6) (Z + 1) rc rs) (K : ∀ (M' : mheap) (σ' : rst) (code' : Int32) (rc' rs' : Nat) (p5 p6 : Option Value), HW M' wa la oa F eu dv hi lo ot σ' σ' code' X Z rc' rs' → jj G kL_law (d + 17) Q rc' rs' 1699 [some (.ref G.2.2.2.2.2), some (.ref (oa 0)), some (.ref (F 9)), some (.ref ot), some (.int (nI (i))), p5, p6] [] M') : jj G kL_law (d + 17) Q rc rs 1096 [some (.ref G.2.2.2.2.2), some (.ref (oa 0)), some (.ref (F 9)), some (.ref ot), some (.int (nI (i))), o5, o6] [] M := by
  have hcell := hH.2.1.cell
  show jj G kL_law (d + 17) Q rc rs 1096 [some (.ref G.2.2.2.2.2), some (.ref (oa 0)), some (.ref (F 9)), some (.ref ot), some (.int (nI (i))), (o5), (o6)] [] M
  refine jj_aload_n (pc := 1096) kL_law_d1096 rfl ?_
  refine jj_aload_n (pc := 1097) kL_law_d1097 rfl ?_
  refine jj_iload (pc := 1098) kL_law_d1098 rfl ?_
  refine jn_iconst (pc := 1100) 1 kL_law_d1100 (by decide) ?_
  refine jn_iadd (pc := 1101) (i + 1) kL_law_d1101 (by omega) ?_
  refine jj_sld (pc := 1102) (i := i + 1) kL_law_d1102 hs rfl rfl (by omega) ?_
  refine jj_aload_n (pc := 1103) kL_law_d1103 rfl ?_
  refine jj_iload (pc := 1104) kL_law_d1104 rfl ?_
  refine jn_iconst (pc := 1106) 2 kL_law_d1106 (by decide) ?_
  refine jn_iadd (pc := 1107) (i + 2) kL_law_d1107 (by omega) ?_
  refine jj_sld (pc := 1108) (i := i + 2) kL_law_d1108 hs rfl rfl (by omega) ?_
  refine jj_aload_n (pc := 1109) kL_law_d1109 rfl ?_
  refine jj_callS (pc := 1110) (As := [.ref (oa 0), .int (xs (i + 1)), .int (xs (i + 2)), .ref ot]) kL_law_d1110 (kvL_L_hermite hG) rfl rfl rfl (Nat.le_of_ble_eq_true rfl) (Nat.le_of_ble_eq_true rfl) (jj_bare0 rfl) ?_
  refine lm_hermite hG hJ hH (fun M1 cd v σ1 rc1 rs1 hs1 hW hcd hot => ?_)
  show jj G kL_law (d + 17) Q rc1 rs1 1113 [some (.ref G.2.2.2.2.2), some (.ref (oa 0)), some (.ref (F 9)), some (.ref ot), some (.int (nI (i))), (o5), (o6)] [.int (nI (cd))] M1
  refine jj_istore (pc := 1113) kL_law_d1113 (Nat.le_of_ble_eq_true rfl) ?_
  show jj G kL_law (d + 17) Q rc1 rs1 1115 [some (.ref G.2.2.2.2.2), some (.ref (oa 0)), some (.ref (F 9)), some (.ref ot), some (.int (nI (i))), some (.int (nI (cd))), (o6)] [] M1
  refine jj_aload_n (pc := 1115) kL_law_d1115 rfl ?_
  refine jj_aload_n (pc := 1116) kL_law_d1116 rfl ?_
  refine jj_iload (pc := 1117) kL_law_d1117 rfl ?_
  refine jn_iconst (pc := 1119) 1 kL_law_d1119 (by decide) ?_
  refine jn_iadd (pc := 1120) (i + 1) kL_law_d1120 (by omega) ?_
  refine jj_sld (pc := 1121) (i := i + 1) kL_law_d1121 hs rfl rfl (by omega) ?_
  refine jj_aload_n (pc := 1122) kL_law_d1122 rfl ?_
  refine jj_iload (pc := 1123) kL_law_d1123 rfl ?_
  refine jn_iconst (pc := 1125) 2 kL_law_d1125 (by decide) ?_
  refine jn_iadd (pc := 1126) (i + 2) kL_law_d1126 (by omega) ?_
  refine jj_sld (pc := 1127) (i := i + 2) kL_law_d1127 hs rfl rfl (by omega) ?_
  refine jj_callV (pc := 1128) (b := (F 9)) (As := [.int (xs (i + 1)), .int (xs (i + 2))]) kL_law_d1128 (kvL_R_hermite hG) (kG_cl hG rfl) rfl hW.2.1.cell rfl rfl rfl (Nat.le_of_ble_eq_true rfl) (Nat.le_of_ble_eq_true rfl) (jj_bare0 rfl) ?_
  refine rp_hermite hG rfl hW.2.1 hW.2.2.1 (fun M2 cd2 v2 σ2 rc2 rs2 hs2 hL2 hT2 hF2 => ?_)
  obtain ⟨ec, ev, es⟩ := semHerm_det hH.2.2.1 hs1 hs2
  subst ec ev es
  obtain ⟨hW2, hot2⟩ := hW.ref hT2 hF2 hL2
  show jj G kL_law (d + 17) Q rc2 rs2 1131 [some (.ref G.2.2.2.2.2), some (.ref (oa 0)), some (.ref (F 9)), some (.ref ot), some (.int (nI (i))), some (.int (nI (cd))), (o6)] [.int (nI (v))] M2
  refine jj_istore (pc := 1131) kL_law_d1131 (Nat.le_of_ble_eq_true rfl) ?_
  show jj G kL_law (d + 17) Q rc2 rs2 1133 [some (.ref G.2.2.2.2.2), some (.ref (oa 0)), some (.ref (F 9)), some (.ref ot), some (.int (nI (i))), some (.int (nI (cd))), some (.int (nI (v)))] [] M2
  refine jj_aload_n (pc := 1133) kL_law_d1133 rfl ?_
  refine jj_callV (pc := 1134) (b := (F 9)) (As := []) kL_law_d1134 (kvL_R_thrown hG) (kG_cl hG rfl) rfl hT2.cell rfl rfl rfl (Nat.le_of_ble_eq_true rfl) (Nat.le_of_ble_eq_true rfl) (jj_bare0 rfl) ?_
  refine rp_thrown hG rfl hT2 ?_
  show jj G kL_law (d + 17) Q rc2 rs2 1137 [some (.ref G.2.2.2.2.2), some (.ref (oa 0)), some (.ref (F 9)), some (.ref ot), some (.int (nI (i))), some (.int (nI (cd))), some (.int (nI (v)))] [.int (nI (cd))] M2
  refine jj_iload (pc := 1137) kL_law_d1137 rfl ?_
  refine jn_icmp_eq (pc := 1139) (tgt := 1144) kL_law_d1139 (by decide) (by omega) (by omega) (fun _ => ?_) (fun c => by exfalso; omega)
  refine jj_iload (pc := 1144) kL_law_d1144 rfl ?_
  refine jn_if_ne (pc := 1146) (tgt := 1161) kL_law_d1146 (by decide) (by omega) (fun c2 => ?_) (fun c2 => ?_)
  · skip
    refine jj_goto (pc := 1161) (tgt := 1699) kL_law_d1161 (by decide) ?_
    show jj G kL_law (d + 17) Q rc2 rs2 1699 [some (.ref G.2.2.2.2.2), some (.ref (oa 0)), some (.ref (F 9)), some (.ref ot), some (.int (nI (i))), some (.int (nI (cd))), some (.int (nI (v)))] [] M2
    exact K M2 σ1 (nI cd) rc2 rs2 _ _ hW2
  · skip
    have ecd : cd = 0 := by omega
    have hot3 := hot2.trans (hot ecd)
    refine jj_aload_n (pc := 1149) kL_law_d1149 rfl ?_
    refine jn_iconst (pc := 1150) 0 kL_law_d1150 (by decide) ?_
    refine jj_lald (pc := 1151) (j := 1) (i := 0) kL_law_d1151 (kG_t hG rfl) hot3 rfl (show 1 < 2 ^ 31 by decide) rfl ?_
    refine jj_iload (pc := 1152) kL_law_d1152 rfl ?_
    refine jj_i2l (pc := 1154) kL_law_d1154 ?_
    refine jj_lcmp (pc := 1155) kL_law_d1155 ?_
    refine jn_top (.int (nI (0))) (by rw [lgc_self]; rfl) ?_
    refine jn_if_eq (pc := 1156) (tgt := 1161) kL_law_d1156 (by decide) (by omega) (fun _ => ?_) (fun c => by exfalso; omega)
    refine jj_goto (pc := 1161) (tgt := 1699) kL_law_d1161 (by decide) ?_
    show jj G kL_law (d + 17) Q rc2 rs2 1699 [some (.ref G.2.2.2.2.2), some (.ref (oa 0)), some (.ref (F 9)), some (.ref ot), some (.int (nI (i))), some (.int (nI (cd))), some (.int (nI (v)))] [] M2
    exact K M2 σ1 (nI cd) rc2 rs2 _ _ hW2
theorem law_smith {o5 o6 : Option Value} (hG : kG G) (hs : jj_scr G N xs) (hi8 : i + 8 ≤ N) (hN : N ≤ 4096) (hJ : XJ wa la capx oa eu dv hi lo) (hH : HW M wa la oa F eu dv hi lo ot σ σ code (X + 6) (Z + 1) rc rs) (K : ∀ (M' : mheap) (σ' : rst) (code' : Int32) (rc' rs' : Nat) (p5 p6 : Option Value), HW M' wa la oa F eu dv hi lo ot σ' σ' code' X Z rc' rs' → jj G kL_law (d + 17) Q rc' rs' 1699 [some (.ref G.2.2.2.2.2), some (.ref (oa 0)), some (.ref (F 9)), some (.ref ot), some (.int (nI (i))), p5, p6] [] M') : jj G kL_law (d + 17) Q rc rs 1164 [some (.ref G.2.2.2.2.2), some (.ref (oa 0)), some (.ref (F 9)), some (.ref ot), some (.int (nI (i))), o5, o6] [] M := by
  have hcell := hH.2.1.cell
  show jj G kL_law (d + 17) Q rc rs 1164 [some (.ref G.2.2.2.2.2), some (.ref (oa 0)), some (.ref (F 9)), some (.ref ot), some (.int (nI (i))), (o5), (o6)] [] M
  refine jj_aload_n (pc := 1164) kL_law_d1164 rfl ?_
  refine jj_aload_n (pc := 1165) kL_law_d1165 rfl ?_
  refine jj_iload (pc := 1166) kL_law_d1166 rfl ?_
  refine jn_iconst (pc := 1168) 1 kL_law_d1168 (by decide) ?_
  refine jn_iadd (pc := 1169) (i + 1) kL_law_d1169 (by omega) ?_
  refine jj_sld (pc := 1170) (i := i + 1) kL_law_d1170 hs rfl rfl (by omega) ?_
  refine jj_aload_n (pc := 1171) kL_law_d1171 rfl ?_
  refine jj_iload (pc := 1172) kL_law_d1172 rfl ?_
  refine jn_iconst (pc := 1174) 2 kL_law_d1174 (by decide) ?_
  refine jn_iadd (pc := 1175) (i + 2) kL_law_d1175 (by omega) ?_
  refine jj_sld (pc := 1176) (i := i + 2) kL_law_d1176 hs rfl rfl (by omega) ?_
  refine jj_aload_n (pc := 1177) kL_law_d1177 rfl ?_
  refine jj_callS (pc := 1178) (As := [.ref (oa 0), .int (xs (i + 1)), .int (xs (i + 2)), .ref ot]) kL_law_d1178 (kvL_L_smith hG) rfl rfl rfl (Nat.le_of_ble_eq_true rfl) (Nat.le_of_ble_eq_true rfl) (jj_bare0 rfl) ?_
  refine lm_smith hG hJ hH (fun M1 cd v σ1 rc1 rs1 hs1 hW hcd hot => ?_)
  show jj G kL_law (d + 17) Q rc1 rs1 1181 [some (.ref G.2.2.2.2.2), some (.ref (oa 0)), some (.ref (F 9)), some (.ref ot), some (.int (nI (i))), (o5), (o6)] [.int (nI (cd))] M1
  refine jj_istore (pc := 1181) kL_law_d1181 (Nat.le_of_ble_eq_true rfl) ?_
  show jj G kL_law (d + 17) Q rc1 rs1 1183 [some (.ref G.2.2.2.2.2), some (.ref (oa 0)), some (.ref (F 9)), some (.ref ot), some (.int (nI (i))), some (.int (nI (cd))), (o6)] [] M1
  refine jj_aload_n (pc := 1183) kL_law_d1183 rfl ?_
  refine jj_aload_n (pc := 1184) kL_law_d1184 rfl ?_
  refine jj_iload (pc := 1185) kL_law_d1185 rfl ?_
  refine jn_iconst (pc := 1187) 1 kL_law_d1187 (by decide) ?_
  refine jn_iadd (pc := 1188) (i + 1) kL_law_d1188 (by omega) ?_
  refine jj_sld (pc := 1189) (i := i + 1) kL_law_d1189 hs rfl rfl (by omega) ?_
  refine jj_aload_n (pc := 1190) kL_law_d1190 rfl ?_
  refine jj_iload (pc := 1191) kL_law_d1191 rfl ?_
  refine jn_iconst (pc := 1193) 2 kL_law_d1193 (by decide) ?_
  refine jn_iadd (pc := 1194) (i + 2) kL_law_d1194 (by omega) ?_
  refine jj_sld (pc := 1195) (i := i + 2) kL_law_d1195 hs rfl rfl (by omega) ?_
  refine jj_callV (pc := 1196) (b := (F 9)) (As := [.int (xs (i + 1)), .int (xs (i + 2))]) kL_law_d1196 (kvL_R_smith hG) (kG_cl hG rfl) rfl hW.2.1.cell rfl rfl rfl (Nat.le_of_ble_eq_true rfl) (Nat.le_of_ble_eq_true rfl) (jj_bare0 rfl) ?_
  refine rp_smith hG rfl hW.2.1 hW.2.2.1 (fun M2 cd2 v2 σ2 rc2 rs2 hs2 hL2 hT2 hF2 => ?_)
  obtain ⟨ec, ev, es⟩ := semSmith_det hH.2.2.1 hs1 hs2
  subst ec ev es
  obtain ⟨hW2, hot2⟩ := hW.ref hT2 hF2 hL2
  show jj G kL_law (d + 17) Q rc2 rs2 1199 [some (.ref G.2.2.2.2.2), some (.ref (oa 0)), some (.ref (F 9)), some (.ref ot), some (.int (nI (i))), some (.int (nI (cd))), (o6)] [.int (nI (v))] M2
  refine jj_istore (pc := 1199) kL_law_d1199 (Nat.le_of_ble_eq_true rfl) ?_
  show jj G kL_law (d + 17) Q rc2 rs2 1201 [some (.ref G.2.2.2.2.2), some (.ref (oa 0)), some (.ref (F 9)), some (.ref ot), some (.int (nI (i))), some (.int (nI (cd))), some (.int (nI (v)))] [] M2
  refine jj_aload_n (pc := 1201) kL_law_d1201 rfl ?_
  refine jj_callV (pc := 1202) (b := (F 9)) (As := []) kL_law_d1202 (kvL_R_thrown hG) (kG_cl hG rfl) rfl hT2.cell rfl rfl rfl (Nat.le_of_ble_eq_true rfl) (Nat.le_of_ble_eq_true rfl) (jj_bare0 rfl) ?_
  refine rp_thrown hG rfl hT2 ?_
  show jj G kL_law (d + 17) Q rc2 rs2 1205 [some (.ref G.2.2.2.2.2), some (.ref (oa 0)), some (.ref (F 9)), some (.ref ot), some (.int (nI (i))), some (.int (nI (cd))), some (.int (nI (v)))] [.int (nI (cd))] M2
  refine jj_iload (pc := 1205) kL_law_d1205 rfl ?_
  refine jn_icmp_eq (pc := 1207) (tgt := 1212) kL_law_d1207 (by decide) (by omega) (by omega) (fun _ => ?_) (fun c => by exfalso; omega)
  refine jj_iload (pc := 1212) kL_law_d1212 rfl ?_
  refine jn_if_ne (pc := 1214) (tgt := 1229) kL_law_d1214 (by decide) (by omega) (fun c2 => ?_) (fun c2 => ?_)
  · skip
    refine jj_goto (pc := 1229) (tgt := 1699) kL_law_d1229 (by decide) ?_
    show jj G kL_law (d + 17) Q rc2 rs2 1699 [some (.ref G.2.2.2.2.2), some (.ref (oa 0)), some (.ref (F 9)), some (.ref ot), some (.int (nI (i))), some (.int (nI (cd))), some (.int (nI (v)))] [] M2
    exact K M2 σ1 (nI cd) rc2 rs2 _ _ hW2
  · skip
    have ecd : cd = 0 := by omega
    have hot3 := hot2.trans (hot ecd)
    refine jj_aload_n (pc := 1217) kL_law_d1217 rfl ?_
    refine jn_iconst (pc := 1218) 0 kL_law_d1218 (by decide) ?_
    refine jj_lald (pc := 1219) (j := 1) (i := 0) kL_law_d1219 (kG_t hG rfl) hot3 rfl (show 1 < 2 ^ 31 by decide) rfl ?_
    refine jj_iload (pc := 1220) kL_law_d1220 rfl ?_
    refine jj_i2l (pc := 1222) kL_law_d1222 ?_
    refine jj_lcmp (pc := 1223) kL_law_d1223 ?_
    refine jn_top (.int (nI (0))) (by rw [lgc_self]; rfl) ?_
    refine jn_if_eq (pc := 1224) (tgt := 1229) kL_law_d1224 (by decide) (by omega) (fun _ => ?_) (fun c => by exfalso; omega)
    refine jj_goto (pc := 1229) (tgt := 1699) kL_law_d1229 (by decide) ?_
    show jj G kL_law (d + 17) Q rc2 rs2 1699 [some (.ref G.2.2.2.2.2), some (.ref (oa 0)), some (.ref (F 9)), some (.ref ot), some (.int (nI (i))), some (.int (nI (cd))), some (.int (nI (v)))] [] M2
    exact K M2 σ1 (nI cd) rc2 rs2 _ _ hW2
theorem law_size {o5 o6 : Option Value} (hG : kG G) (hs : jj_scr G N xs) (hi8 : i + 8 ≤ N) (hN : N ≤ 4096) (hJ : XJ wa la capx oa eu dv hi lo) (hH : HW M wa la oa F eu dv hi lo ot σ σ code (X + 6) (Z + 1) rc rs) (K : ∀ (M' : mheap) (σ' : rst) (code' : Int32) (rc' rs' : Nat) (p5 p6 : Option Value), HW M' wa la oa F eu dv hi lo ot σ' σ' code' X Z rc' rs' → jj G kL_law (d + 17) Q rc' rs' 1699 [some (.ref G.2.2.2.2.2), some (.ref (oa 0)), some (.ref (F 9)), some (.ref ot), some (.int (nI (i))), p5, p6] [] M') : jj G kL_law (d + 17) Q rc rs 1232 [some (.ref G.2.2.2.2.2), some (.ref (oa 0)), some (.ref (F 9)), some (.ref ot), some (.int (nI (i))), o5, o6] [] M := by
  have hcell := hH.2.1.cell
  show jj G kL_law (d + 17) Q rc rs 1232 [some (.ref G.2.2.2.2.2), some (.ref (oa 0)), some (.ref (F 9)), some (.ref ot), some (.int (nI (i))), (o5), (o6)] [] M
  refine jj_aload_n (pc := 1232) kL_law_d1232 rfl ?_
  refine jj_aload_n (pc := 1233) kL_law_d1233 rfl ?_
  refine jj_iload (pc := 1234) kL_law_d1234 rfl ?_
  refine jn_iconst (pc := 1236) 1 kL_law_d1236 (by decide) ?_
  refine jn_iadd (pc := 1237) (i + 1) kL_law_d1237 (by omega) ?_
  refine jj_sld (pc := 1238) (i := i + 1) kL_law_d1238 hs rfl rfl (by omega) ?_
  refine jj_aload_n (pc := 1239) kL_law_d1239 rfl ?_
  refine jj_iload (pc := 1240) kL_law_d1240 rfl ?_
  refine jn_iconst (pc := 1242) 2 kL_law_d1242 (by decide) ?_
  refine jn_iadd (pc := 1243) (i + 2) kL_law_d1243 (by omega) ?_
  refine jj_sld (pc := 1244) (i := i + 2) kL_law_d1244 hs rfl rfl (by omega) ?_
  refine jj_if_eq (pc := 1245) (tgt := 1252) kL_law_d1245 (by decide) (fun c1 => ?_) (fun c1 => ?_)
  · skip
    refine jn_iconst (pc := 1252) 0 kL_law_d1252 (by decide) ?_
    refine jj_aload_n (pc := 1253) kL_law_d1253 rfl ?_
    refine jj_callS (pc := 1254) (As := [.ref (oa 0), .int (xs (i + 1)), .int (nI (0)), .ref ot]) kL_law_d1254 (kvL_L_size hG) rfl rfl rfl (Nat.le_of_ble_eq_true rfl) (Nat.le_of_ble_eq_true rfl) (jj_bare0 rfl) ?_
    refine lm_size hG hJ hH (fun M1 cd v rc1 rs1 hs1 hW hcd hot => ?_)
    show jj G kL_law (d + 17) Q rc1 rs1 1257 [some (.ref G.2.2.2.2.2), some (.ref (oa 0)), some (.ref (F 9)), some (.ref ot), some (.int (nI (i))), (o5), (o6)] [.int (nI (cd))] M1
    refine jj_istore (pc := 1257) kL_law_d1257 (Nat.le_of_ble_eq_true rfl) ?_
    show jj G kL_law (d + 17) Q rc1 rs1 1259 [some (.ref G.2.2.2.2.2), some (.ref (oa 0)), some (.ref (F 9)), some (.ref ot), some (.int (nI (i))), some (.int (nI (cd))), (o6)] [] M1
    refine jj_aload_n (pc := 1259) kL_law_d1259 rfl ?_
    refine jj_aload_n (pc := 1260) kL_law_d1260 rfl ?_
    refine jj_iload (pc := 1261) kL_law_d1261 rfl ?_
    refine jn_iconst (pc := 1263) 1 kL_law_d1263 (by decide) ?_
    refine jn_iadd (pc := 1264) (i + 1) kL_law_d1264 (by omega) ?_
    refine jj_sld (pc := 1265) (i := i + 1) kL_law_d1265 hs rfl rfl (by omega) ?_
    refine jj_aload_n (pc := 1266) kL_law_d1266 rfl ?_
    refine jj_iload (pc := 1267) kL_law_d1267 rfl ?_
    refine jn_iconst (pc := 1269) 2 kL_law_d1269 (by decide) ?_
    refine jn_iadd (pc := 1270) (i + 2) kL_law_d1270 (by omega) ?_
    refine jj_sld (pc := 1271) (i := i + 2) kL_law_d1271 hs rfl rfl (by omega) ?_
    refine jj_if_eq (pc := 1272) (tgt := 1279) kL_law_d1272 (by decide) (fun _ => ?_) (fun c => absurd c (fun h => h c1))
    refine jn_iconst (pc := 1279) 0 kL_law_d1279 (by decide) ?_
    refine jj_callV (pc := 1280) (b := (F 9)) (As := [.int (xs (i + 1)), .int (nI (0))]) kL_law_d1280 (kvL_R_size hG) (kG_cl hG rfl) rfl hW.2.1.cell rfl rfl rfl (Nat.le_of_ble_eq_true rfl) (Nat.le_of_ble_eq_true rfl) (jj_bare0 rfl) ?_
    refine rp_size hG rfl hW.2.1 hW.2.2.1 (fun M2 cd2 v2 rc2 rs2 hs2 hT2 hF2 => ?_)
    obtain ⟨ec, ev⟩ := semSize_det hs1 hs2
    subst ec ev
    obtain ⟨hW2, hot2⟩ := hW.ref hT2 hF2 hH.2.2.1
    show jj G kL_law (d + 17) Q rc2 rs2 1283 [some (.ref G.2.2.2.2.2), some (.ref (oa 0)), some (.ref (F 9)), some (.ref ot), some (.int (nI (i))), some (.int (nI (cd))), (o6)] [.int (nI (v))] M2
    refine jj_istore (pc := 1283) kL_law_d1283 (Nat.le_of_ble_eq_true rfl) ?_
    show jj G kL_law (d + 17) Q rc2 rs2 1285 [some (.ref G.2.2.2.2.2), some (.ref (oa 0)), some (.ref (F 9)), some (.ref ot), some (.int (nI (i))), some (.int (nI (cd))), some (.int (nI (v)))] [] M2
    refine jj_aload_n (pc := 1285) kL_law_d1285 rfl ?_
    refine jj_callV (pc := 1286) (b := (F 9)) (As := []) kL_law_d1286 (kvL_R_thrown hG) (kG_cl hG rfl) rfl hT2.cell rfl rfl rfl (Nat.le_of_ble_eq_true rfl) (Nat.le_of_ble_eq_true rfl) (jj_bare0 rfl) ?_
    refine rp_thrown hG rfl hT2 ?_
    show jj G kL_law (d + 17) Q rc2 rs2 1289 [some (.ref G.2.2.2.2.2), some (.ref (oa 0)), some (.ref (F 9)), some (.ref ot), some (.int (nI (i))), some (.int (nI (cd))), some (.int (nI (v)))] [.int (nI (cd))] M2
    refine jj_iload (pc := 1289) kL_law_d1289 rfl ?_
    refine jn_icmp_eq (pc := 1291) (tgt := 1296) kL_law_d1291 (by decide) (by omega) (by omega) (fun _ => ?_) (fun c => by exfalso; omega)
    refine jj_iload (pc := 1296) kL_law_d1296 rfl ?_
    refine jn_if_ne (pc := 1298) (tgt := 1313) kL_law_d1298 (by decide) (by omega) (fun c2 => ?_) (fun c2 => ?_)
    · skip
      refine jj_goto (pc := 1313) (tgt := 1699) kL_law_d1313 (by decide) ?_
      show jj G kL_law (d + 17) Q rc2 rs2 1699 [some (.ref G.2.2.2.2.2), some (.ref (oa 0)), some (.ref (F 9)), some (.ref ot), some (.int (nI (i))), some (.int (nI (cd))), some (.int (nI (v)))] [] M2
      exact K M2 σ (nI cd) rc2 rs2 _ _ hW2
    · skip
      have ecd : cd = 0 := by omega
      have hot3 := hot2.trans (hot ecd)
      refine jj_aload_n (pc := 1301) kL_law_d1301 rfl ?_
      refine jn_iconst (pc := 1302) 0 kL_law_d1302 (by decide) ?_
      refine jj_lald (pc := 1303) (j := 1) (i := 0) kL_law_d1303 (kG_t hG rfl) hot3 rfl (show 1 < 2 ^ 31 by decide) rfl ?_
      refine jj_iload (pc := 1304) kL_law_d1304 rfl ?_
      refine jj_i2l (pc := 1306) kL_law_d1306 ?_
      refine jj_lcmp (pc := 1307) kL_law_d1307 ?_
      refine jn_top (.int (nI (0))) (by rw [lgc_self]; rfl) ?_
      refine jn_if_eq (pc := 1308) (tgt := 1313) kL_law_d1308 (by decide) (by omega) (fun _ => ?_) (fun c => by exfalso; omega)
      refine jj_goto (pc := 1313) (tgt := 1699) kL_law_d1313 (by decide) ?_
      show jj G kL_law (d + 17) Q rc2 rs2 1699 [some (.ref G.2.2.2.2.2), some (.ref (oa 0)), some (.ref (F 9)), some (.ref ot), some (.int (nI (i))), some (.int (nI (cd))), some (.int (nI (v)))] [] M2
      exact K M2 σ (nI cd) rc2 rs2 _ _ hW2
  · skip
    refine jn_iconst (pc := 1248) 1 kL_law_d1248 (by decide) ?_
    refine jj_goto (pc := 1249) (tgt := 1253) kL_law_d1249 (by decide) ?_
    refine jj_aload_n (pc := 1253) kL_law_d1253 rfl ?_
    refine jj_callS (pc := 1254) (As := [.ref (oa 0), .int (xs (i + 1)), .int (nI (1)), .ref ot]) kL_law_d1254 (kvL_L_size hG) rfl rfl rfl (Nat.le_of_ble_eq_true rfl) (Nat.le_of_ble_eq_true rfl) (jj_bare0 rfl) ?_
    refine lm_size hG hJ hH (fun M1 cd v rc1 rs1 hs1 hW hcd hot => ?_)
    show jj G kL_law (d + 17) Q rc1 rs1 1257 [some (.ref G.2.2.2.2.2), some (.ref (oa 0)), some (.ref (F 9)), some (.ref ot), some (.int (nI (i))), (o5), (o6)] [.int (nI (cd))] M1
    refine jj_istore (pc := 1257) kL_law_d1257 (Nat.le_of_ble_eq_true rfl) ?_
    show jj G kL_law (d + 17) Q rc1 rs1 1259 [some (.ref G.2.2.2.2.2), some (.ref (oa 0)), some (.ref (F 9)), some (.ref ot), some (.int (nI (i))), some (.int (nI (cd))), (o6)] [] M1
    refine jj_aload_n (pc := 1259) kL_law_d1259 rfl ?_
    refine jj_aload_n (pc := 1260) kL_law_d1260 rfl ?_
    refine jj_iload (pc := 1261) kL_law_d1261 rfl ?_
    refine jn_iconst (pc := 1263) 1 kL_law_d1263 (by decide) ?_
    refine jn_iadd (pc := 1264) (i + 1) kL_law_d1264 (by omega) ?_
    refine jj_sld (pc := 1265) (i := i + 1) kL_law_d1265 hs rfl rfl (by omega) ?_
    refine jj_aload_n (pc := 1266) kL_law_d1266 rfl ?_
    refine jj_iload (pc := 1267) kL_law_d1267 rfl ?_
    refine jn_iconst (pc := 1269) 2 kL_law_d1269 (by decide) ?_
    refine jn_iadd (pc := 1270) (i + 2) kL_law_d1270 (by omega) ?_
    refine jj_sld (pc := 1271) (i := i + 2) kL_law_d1271 hs rfl rfl (by omega) ?_
    refine jj_if_eq (pc := 1272) (tgt := 1279) kL_law_d1272 (by decide) (fun c => absurd c (c1)) (fun _ => ?_)
    refine jn_iconst (pc := 1275) 1 kL_law_d1275 (by decide) ?_
    refine jj_goto (pc := 1276) (tgt := 1280) kL_law_d1276 (by decide) ?_
    refine jj_callV (pc := 1280) (b := (F 9)) (As := [.int (xs (i + 1)), .int (nI (1))]) kL_law_d1280 (kvL_R_size hG) (kG_cl hG rfl) rfl hW.2.1.cell rfl rfl rfl (Nat.le_of_ble_eq_true rfl) (Nat.le_of_ble_eq_true rfl) (jj_bare0 rfl) ?_
    refine rp_size hG rfl hW.2.1 hW.2.2.1 (fun M2 cd2 v2 rc2 rs2 hs2 hT2 hF2 => ?_)
    obtain ⟨ec, ev⟩ := semSize_det hs1 hs2
    subst ec ev
    obtain ⟨hW2, hot2⟩ := hW.ref hT2 hF2 hH.2.2.1
    show jj G kL_law (d + 17) Q rc2 rs2 1283 [some (.ref G.2.2.2.2.2), some (.ref (oa 0)), some (.ref (F 9)), some (.ref ot), some (.int (nI (i))), some (.int (nI (cd))), (o6)] [.int (nI (v))] M2
    refine jj_istore (pc := 1283) kL_law_d1283 (Nat.le_of_ble_eq_true rfl) ?_
    show jj G kL_law (d + 17) Q rc2 rs2 1285 [some (.ref G.2.2.2.2.2), some (.ref (oa 0)), some (.ref (F 9)), some (.ref ot), some (.int (nI (i))), some (.int (nI (cd))), some (.int (nI (v)))] [] M2
    refine jj_aload_n (pc := 1285) kL_law_d1285 rfl ?_
    refine jj_callV (pc := 1286) (b := (F 9)) (As := []) kL_law_d1286 (kvL_R_thrown hG) (kG_cl hG rfl) rfl hT2.cell rfl rfl rfl (Nat.le_of_ble_eq_true rfl) (Nat.le_of_ble_eq_true rfl) (jj_bare0 rfl) ?_
    refine rp_thrown hG rfl hT2 ?_
    show jj G kL_law (d + 17) Q rc2 rs2 1289 [some (.ref G.2.2.2.2.2), some (.ref (oa 0)), some (.ref (F 9)), some (.ref ot), some (.int (nI (i))), some (.int (nI (cd))), some (.int (nI (v)))] [.int (nI (cd))] M2
    refine jj_iload (pc := 1289) kL_law_d1289 rfl ?_
    refine jn_icmp_eq (pc := 1291) (tgt := 1296) kL_law_d1291 (by decide) (by omega) (by omega) (fun _ => ?_) (fun c => by exfalso; omega)
    refine jj_iload (pc := 1296) kL_law_d1296 rfl ?_
    refine jn_if_ne (pc := 1298) (tgt := 1313) kL_law_d1298 (by decide) (by omega) (fun c2 => ?_) (fun c2 => ?_)
    · skip
      refine jj_goto (pc := 1313) (tgt := 1699) kL_law_d1313 (by decide) ?_
      show jj G kL_law (d + 17) Q rc2 rs2 1699 [some (.ref G.2.2.2.2.2), some (.ref (oa 0)), some (.ref (F 9)), some (.ref ot), some (.int (nI (i))), some (.int (nI (cd))), some (.int (nI (v)))] [] M2
      exact K M2 σ (nI cd) rc2 rs2 _ _ hW2
    · skip
      have ecd : cd = 0 := by omega
      have hot3 := hot2.trans (hot ecd)
      refine jj_aload_n (pc := 1301) kL_law_d1301 rfl ?_
      refine jn_iconst (pc := 1302) 0 kL_law_d1302 (by decide) ?_
      refine jj_lald (pc := 1303) (j := 1) (i := 0) kL_law_d1303 (kG_t hG rfl) hot3 rfl (show 1 < 2 ^ 31 by decide) rfl ?_
      refine jj_iload (pc := 1304) kL_law_d1304 rfl ?_
      refine jj_i2l (pc := 1306) kL_law_d1306 ?_
      refine jj_lcmp (pc := 1307) kL_law_d1307 ?_
      refine jn_top (.int (nI (0))) (by rw [lgc_self]; rfl) ?_
      refine jn_if_eq (pc := 1308) (tgt := 1313) kL_law_d1308 (by decide) (by omega) (fun _ => ?_) (fun c => by exfalso; omega)
      refine jj_goto (pc := 1313) (tgt := 1699) kL_law_d1313 (by decide) ?_
      show jj G kL_law (d + 17) Q rc2 rs2 1699 [some (.ref G.2.2.2.2.2), some (.ref (oa 0)), some (.ref (F 9)), some (.ref ot), some (.int (nI (i))), some (.int (nI (cd))), some (.int (nI (v)))] [] M2
      exact K M2 σ (nI cd) rc2 rs2 _ _ hW2
theorem law_sign {o5 o6 : Option Value} (hG : kG G) (hs : jj_scr G N xs) (hi8 : i + 8 ≤ N) (hN : N ≤ 4096) (hJ : XJ wa la capx oa eu dv hi lo) (hH : HW M wa la oa F eu dv hi lo ot σ σ code (X + 6) (Z + 1) rc rs) (K : ∀ (M' : mheap) (σ' : rst) (code' : Int32) (rc' rs' : Nat) (p5 p6 : Option Value), HW M' wa la oa F eu dv hi lo ot σ' σ' code' X Z rc' rs' → jj G kL_law (d + 17) Q rc' rs' 1699 [some (.ref G.2.2.2.2.2), some (.ref (oa 0)), some (.ref (F 9)), some (.ref ot), some (.int (nI (i))), p5, p6] [] M') : jj G kL_law (d + 17) Q rc rs 1316 [some (.ref G.2.2.2.2.2), some (.ref (oa 0)), some (.ref (F 9)), some (.ref ot), some (.int (nI (i))), o5, o6] [] M := by
  have hcell := hH.2.1.cell
  show jj G kL_law (d + 17) Q rc rs 1316 [some (.ref G.2.2.2.2.2), some (.ref (oa 0)), some (.ref (F 9)), some (.ref ot), some (.int (nI (i))), (o5), (o6)] [] M
  refine jj_aload_n (pc := 1316) kL_law_d1316 rfl ?_
  refine jj_aload_n (pc := 1317) kL_law_d1317 rfl ?_
  refine jj_iload (pc := 1318) kL_law_d1318 rfl ?_
  refine jn_iconst (pc := 1320) 1 kL_law_d1320 (by decide) ?_
  refine jn_iadd (pc := 1321) (i + 1) kL_law_d1321 (by omega) ?_
  refine jj_sld (pc := 1322) (i := i + 1) kL_law_d1322 hs rfl rfl (by omega) ?_
  refine jj_aload_n (pc := 1323) kL_law_d1323 rfl ?_
  refine jj_iload (pc := 1324) kL_law_d1324 rfl ?_
  refine jn_iconst (pc := 1326) 2 kL_law_d1326 (by decide) ?_
  refine jn_iadd (pc := 1327) (i + 2) kL_law_d1327 (by omega) ?_
  refine jj_sld (pc := 1328) (i := i + 2) kL_law_d1328 hs rfl rfl (by omega) ?_
  refine jj_aload_n (pc := 1329) kL_law_d1329 rfl ?_
  refine jj_iload (pc := 1330) kL_law_d1330 rfl ?_
  refine jn_iconst (pc := 1332) 3 kL_law_d1332 (by decide) ?_
  refine jn_iadd (pc := 1333) (i + 3) kL_law_d1333 (by omega) ?_
  refine jj_sld (pc := 1334) (i := i + 3) kL_law_d1334 hs rfl rfl (by omega) ?_
  refine jj_aload_n (pc := 1335) kL_law_d1335 rfl ?_
  refine jj_callS (pc := 1336) (As := [.ref (oa 0), .int (xs (i + 1)), .int (xs (i + 2)), .int (xs (i + 3)), .ref ot]) kL_law_d1336 (kvL_L_sign hG) rfl rfl rfl (Nat.le_of_ble_eq_true rfl) (Nat.le_of_ble_eq_true rfl) (jj_bare0 rfl) ?_
  refine lm_sign hG hJ hH (fun M1 cd v rc1 rs1 hs1 hW hcd hot => ?_)
  show jj G kL_law (d + 17) Q rc1 rs1 1339 [some (.ref G.2.2.2.2.2), some (.ref (oa 0)), some (.ref (F 9)), some (.ref ot), some (.int (nI (i))), (o5), (o6)] [.int (nI (cd))] M1
  refine jj_istore (pc := 1339) kL_law_d1339 (Nat.le_of_ble_eq_true rfl) ?_
  show jj G kL_law (d + 17) Q rc1 rs1 1341 [some (.ref G.2.2.2.2.2), some (.ref (oa 0)), some (.ref (F 9)), some (.ref ot), some (.int (nI (i))), some (.int (nI (cd))), (o6)] [] M1
  refine jj_aload_n (pc := 1341) kL_law_d1341 rfl ?_
  refine jj_aload_n (pc := 1342) kL_law_d1342 rfl ?_
  refine jj_iload (pc := 1343) kL_law_d1343 rfl ?_
  refine jn_iconst (pc := 1345) 1 kL_law_d1345 (by decide) ?_
  refine jn_iadd (pc := 1346) (i + 1) kL_law_d1346 (by omega) ?_
  refine jj_sld (pc := 1347) (i := i + 1) kL_law_d1347 hs rfl rfl (by omega) ?_
  refine jj_aload_n (pc := 1348) kL_law_d1348 rfl ?_
  refine jj_iload (pc := 1349) kL_law_d1349 rfl ?_
  refine jn_iconst (pc := 1351) 2 kL_law_d1351 (by decide) ?_
  refine jn_iadd (pc := 1352) (i + 2) kL_law_d1352 (by omega) ?_
  refine jj_sld (pc := 1353) (i := i + 2) kL_law_d1353 hs rfl rfl (by omega) ?_
  refine jj_aload_n (pc := 1354) kL_law_d1354 rfl ?_
  refine jj_iload (pc := 1355) kL_law_d1355 rfl ?_
  refine jn_iconst (pc := 1357) 3 kL_law_d1357 (by decide) ?_
  refine jn_iadd (pc := 1358) (i + 3) kL_law_d1358 (by omega) ?_
  refine jj_sld (pc := 1359) (i := i + 3) kL_law_d1359 hs rfl rfl (by omega) ?_
  refine jj_callV (pc := 1360) (b := (F 9)) (As := [.int (xs (i + 1)), .int (xs (i + 2)), .int (xs (i + 3))]) kL_law_d1360 (kvL_R_sign hG) (kG_cl hG rfl) rfl hW.2.1.cell rfl rfl rfl (Nat.le_of_ble_eq_true rfl) (Nat.le_of_ble_eq_true rfl) (jj_bare0 rfl) ?_
  refine rp_sign hG rfl hW.2.1 hW.2.2.1 (fun M2 cd2 v2 rc2 rs2 hs2 hT2 hF2 => ?_)
  obtain ⟨ec, ev⟩ := semSign_det hH.2.2.1 hs1 hs2
  subst ec ev
  obtain ⟨hW2, hot2⟩ := hW.ref hT2 hF2 hH.2.2.1
  show jj G kL_law (d + 17) Q rc2 rs2 1363 [some (.ref G.2.2.2.2.2), some (.ref (oa 0)), some (.ref (F 9)), some (.ref ot), some (.int (nI (i))), some (.int (nI (cd))), (o6)] [.int (v)] M2
  refine jj_istore (pc := 1363) kL_law_d1363 (Nat.le_of_ble_eq_true rfl) ?_
  show jj G kL_law (d + 17) Q rc2 rs2 1365 [some (.ref G.2.2.2.2.2), some (.ref (oa 0)), some (.ref (F 9)), some (.ref ot), some (.int (nI (i))), some (.int (nI (cd))), some (.int (v))] [] M2
  refine jj_aload_n (pc := 1365) kL_law_d1365 rfl ?_
  refine jj_callV (pc := 1366) (b := (F 9)) (As := []) kL_law_d1366 (kvL_R_thrown hG) (kG_cl hG rfl) rfl hT2.cell rfl rfl rfl (Nat.le_of_ble_eq_true rfl) (Nat.le_of_ble_eq_true rfl) (jj_bare0 rfl) ?_
  refine rp_thrown hG rfl hT2 ?_
  show jj G kL_law (d + 17) Q rc2 rs2 1369 [some (.ref G.2.2.2.2.2), some (.ref (oa 0)), some (.ref (F 9)), some (.ref ot), some (.int (nI (i))), some (.int (nI (cd))), some (.int (v))] [.int (nI (cd))] M2
  refine jj_iload (pc := 1369) kL_law_d1369 rfl ?_
  refine jn_icmp_eq (pc := 1371) (tgt := 1376) kL_law_d1371 (by decide) (by omega) (by omega) (fun _ => ?_) (fun c => by exfalso; omega)
  refine jj_iload (pc := 1376) kL_law_d1376 rfl ?_
  refine jn_if_ne (pc := 1378) (tgt := 1393) kL_law_d1378 (by decide) (by omega) (fun c2 => ?_) (fun c2 => ?_)
  · skip
    refine jj_goto (pc := 1393) (tgt := 1699) kL_law_d1393 (by decide) ?_
    show jj G kL_law (d + 17) Q rc2 rs2 1699 [some (.ref G.2.2.2.2.2), some (.ref (oa 0)), some (.ref (F 9)), some (.ref ot), some (.int (nI (i))), some (.int (nI (cd))), some (.int (v))] [] M2
    exact K M2 σ (nI cd) rc2 rs2 _ _ hW2
  · skip
    have ecd : cd = 0 := by omega
    have hot3 := hot2.trans (hot ecd)
    refine jj_aload_n (pc := 1381) kL_law_d1381 rfl ?_
    refine jn_iconst (pc := 1382) 0 kL_law_d1382 (by decide) ?_
    refine jj_lald (pc := 1383) (j := 1) (i := 0) kL_law_d1383 (kG_t hG rfl) hot3 rfl (show 1 < 2 ^ 31 by decide) rfl ?_
    refine jj_iload (pc := 1384) kL_law_d1384 rfl ?_
    refine jj_i2l (pc := 1386) kL_law_d1386 ?_
    refine jj_lcmp (pc := 1387) kL_law_d1387 ?_
    refine jn_top (.int (nI (0))) (by rw [lgc_self]; rfl) ?_
    refine jn_if_eq (pc := 1388) (tgt := 1393) kL_law_d1388 (by decide) (by omega) (fun _ => ?_) (fun c => by exfalso; omega)
    refine jj_goto (pc := 1393) (tgt := 1699) kL_law_d1393 (by decide) ?_
    show jj G kL_law (d + 17) Q rc2 rs2 1699 [some (.ref G.2.2.2.2.2), some (.ref (oa 0)), some (.ref (F 9)), some (.ref ot), some (.int (nI (i))), some (.int (nI (cd))), some (.int (v))] [] M2
    exact K M2 σ (nI cd) rc2 rs2 _ _ hW2
theorem law_length {o5 o6 : Option Value} (hG : kG G) (hs : jj_scr G N xs) (hi8 : i + 8 ≤ N) (hN : N ≤ 4096) (hJ : XJ wa la capx oa eu dv hi lo) (hH : HW M wa la oa F eu dv hi lo ot σ σ code (X + 6) (Z + 1) rc rs) (K : ∀ (M' : mheap) (σ' : rst) (code' : Int32) (rc' rs' : Nat) (p5 p6 : Option Value), HW M' wa la oa F eu dv hi lo ot σ' σ' code' X Z rc' rs' → jj G kL_law (d + 17) Q rc' rs' 1699 [some (.ref G.2.2.2.2.2), some (.ref (oa 0)), some (.ref (F 9)), some (.ref ot), some (.int (nI (i))), p5, p6] [] M') : jj G kL_law (d + 17) Q rc rs 1396 [some (.ref G.2.2.2.2.2), some (.ref (oa 0)), some (.ref (F 9)), some (.ref ot), some (.int (nI (i))), o5, o6] [] M := by
  have hcell := hH.2.1.cell
  show jj G kL_law (d + 17) Q rc rs 1396 [some (.ref G.2.2.2.2.2), some (.ref (oa 0)), some (.ref (F 9)), some (.ref ot), some (.int (nI (i))), (o5), (o6)] [] M
  refine jj_aload_n (pc := 1396) kL_law_d1396 rfl ?_
  refine jj_aload_n (pc := 1397) kL_law_d1397 rfl ?_
  refine jj_iload (pc := 1398) kL_law_d1398 rfl ?_
  refine jn_iconst (pc := 1400) 1 kL_law_d1400 (by decide) ?_
  refine jn_iadd (pc := 1401) (i + 1) kL_law_d1401 (by omega) ?_
  refine jj_sld (pc := 1402) (i := i + 1) kL_law_d1402 hs rfl rfl (by omega) ?_
  refine jj_aload_n (pc := 1403) kL_law_d1403 rfl ?_
  refine jj_iload (pc := 1404) kL_law_d1404 rfl ?_
  refine jn_iconst (pc := 1406) 2 kL_law_d1406 (by decide) ?_
  refine jn_iadd (pc := 1407) (i + 2) kL_law_d1407 (by omega) ?_
  refine jj_sld (pc := 1408) (i := i + 2) kL_law_d1408 hs rfl rfl (by omega) ?_
  refine jj_aload_n (pc := 1409) kL_law_d1409 rfl ?_
  refine jj_iload (pc := 1410) kL_law_d1410 rfl ?_
  refine jn_iconst (pc := 1412) 3 kL_law_d1412 (by decide) ?_
  refine jn_iadd (pc := 1413) (i + 3) kL_law_d1413 (by omega) ?_
  refine jj_sld (pc := 1414) (i := i + 3) kL_law_d1414 hs rfl rfl (by omega) ?_
  refine jj_aload_n (pc := 1415) kL_law_d1415 rfl ?_
  refine jj_iload (pc := 1416) kL_law_d1416 rfl ?_
  refine jn_iconst (pc := 1418) 4 kL_law_d1418 (by decide) ?_
  refine jn_iadd (pc := 1419) (i + 4) kL_law_d1419 (by omega) ?_
  refine jj_sld (pc := 1420) (i := i + 4) kL_law_d1420 hs rfl rfl (by omega) ?_
  refine jj_if_eq (pc := 1421) (tgt := 1428) kL_law_d1421 (by decide) (fun c1 => ?_) (fun c1 => ?_)
  · skip
    refine jn_iconst (pc := 1428) 0 kL_law_d1428 (by decide) ?_
    refine jj_aload_n (pc := 1429) kL_law_d1429 rfl ?_
    refine jj_callS (pc := 1430) (As := [.ref (oa 0), .int (xs (i + 1)), .int (xs (i + 2)), .int (xs (i + 3)), .int (nI (0)), .ref ot]) kL_law_d1430 (kvL_L_length hG) rfl rfl rfl (Nat.le_of_ble_eq_true rfl) (Nat.le_of_ble_eq_true rfl) (jj_bare0 rfl) ?_
    refine lm_length hG hJ hH (fun M1 cd v rc1 rs1 hs1 hW hcd hot => ?_)
    show jj G kL_law (d + 17) Q rc1 rs1 1433 [some (.ref G.2.2.2.2.2), some (.ref (oa 0)), some (.ref (F 9)), some (.ref ot), some (.int (nI (i))), (o5), (o6)] [.int (nI (cd))] M1
    refine jj_istore (pc := 1433) kL_law_d1433 (Nat.le_of_ble_eq_true rfl) ?_
    show jj G kL_law (d + 17) Q rc1 rs1 1435 [some (.ref G.2.2.2.2.2), some (.ref (oa 0)), some (.ref (F 9)), some (.ref ot), some (.int (nI (i))), some (.int (nI (cd))), (o6)] [] M1
    refine jj_aload_n (pc := 1435) kL_law_d1435 rfl ?_
    refine jj_aload_n (pc := 1436) kL_law_d1436 rfl ?_
    refine jj_iload (pc := 1437) kL_law_d1437 rfl ?_
    refine jn_iconst (pc := 1439) 1 kL_law_d1439 (by decide) ?_
    refine jn_iadd (pc := 1440) (i + 1) kL_law_d1440 (by omega) ?_
    refine jj_sld (pc := 1441) (i := i + 1) kL_law_d1441 hs rfl rfl (by omega) ?_
    refine jj_aload_n (pc := 1442) kL_law_d1442 rfl ?_
    refine jj_iload (pc := 1443) kL_law_d1443 rfl ?_
    refine jn_iconst (pc := 1445) 2 kL_law_d1445 (by decide) ?_
    refine jn_iadd (pc := 1446) (i + 2) kL_law_d1446 (by omega) ?_
    refine jj_sld (pc := 1447) (i := i + 2) kL_law_d1447 hs rfl rfl (by omega) ?_
    refine jj_aload_n (pc := 1448) kL_law_d1448 rfl ?_
    refine jj_iload (pc := 1449) kL_law_d1449 rfl ?_
    refine jn_iconst (pc := 1451) 3 kL_law_d1451 (by decide) ?_
    refine jn_iadd (pc := 1452) (i + 3) kL_law_d1452 (by omega) ?_
    refine jj_sld (pc := 1453) (i := i + 3) kL_law_d1453 hs rfl rfl (by omega) ?_
    refine jj_aload_n (pc := 1454) kL_law_d1454 rfl ?_
    refine jj_iload (pc := 1455) kL_law_d1455 rfl ?_
    refine jn_iconst (pc := 1457) 4 kL_law_d1457 (by decide) ?_
    refine jn_iadd (pc := 1458) (i + 4) kL_law_d1458 (by omega) ?_
    refine jj_sld (pc := 1459) (i := i + 4) kL_law_d1459 hs rfl rfl (by omega) ?_
    refine jj_if_eq (pc := 1460) (tgt := 1467) kL_law_d1460 (by decide) (fun _ => ?_) (fun c => absurd c (fun h => h c1))
    refine jn_iconst (pc := 1467) 0 kL_law_d1467 (by decide) ?_
    refine jj_callV (pc := 1468) (b := (F 9)) (As := [.int (xs (i + 1)), .int (xs (i + 2)), .int (xs (i + 3)), .int (nI (0))]) kL_law_d1468 (kvL_R_length hG) (kG_cl hG rfl) rfl hW.2.1.cell rfl rfl rfl (Nat.le_of_ble_eq_true rfl) (Nat.le_of_ble_eq_true rfl) (jj_bare0 rfl) ?_
    refine rp_length hG rfl hW.2.1 hW.2.2.1 (fun M2 cd2 v2 rc2 rs2 hs2 hT2 hF2 => ?_)
    obtain ⟨ec, ev⟩ := semLen_det hH.2.2.1 hs1 hs2
    subst ec ev
    obtain ⟨hW2, hot2⟩ := hW.ref hT2 hF2 hH.2.2.1
    show jj G kL_law (d + 17) Q rc2 rs2 1471 [some (.ref G.2.2.2.2.2), some (.ref (oa 0)), some (.ref (F 9)), some (.ref ot), some (.int (nI (i))), some (.int (nI (cd))), (o6)] [.int (nI (v))] M2
    refine jj_istore (pc := 1471) kL_law_d1471 (Nat.le_of_ble_eq_true rfl) ?_
    show jj G kL_law (d + 17) Q rc2 rs2 1473 [some (.ref G.2.2.2.2.2), some (.ref (oa 0)), some (.ref (F 9)), some (.ref ot), some (.int (nI (i))), some (.int (nI (cd))), some (.int (nI (v)))] [] M2
    refine jj_aload_n (pc := 1473) kL_law_d1473 rfl ?_
    refine jj_callV (pc := 1474) (b := (F 9)) (As := []) kL_law_d1474 (kvL_R_thrown hG) (kG_cl hG rfl) rfl hT2.cell rfl rfl rfl (Nat.le_of_ble_eq_true rfl) (Nat.le_of_ble_eq_true rfl) (jj_bare0 rfl) ?_
    refine rp_thrown hG rfl hT2 ?_
    show jj G kL_law (d + 17) Q rc2 rs2 1477 [some (.ref G.2.2.2.2.2), some (.ref (oa 0)), some (.ref (F 9)), some (.ref ot), some (.int (nI (i))), some (.int (nI (cd))), some (.int (nI (v)))] [.int (nI (cd))] M2
    refine jj_iload (pc := 1477) kL_law_d1477 rfl ?_
    refine jn_icmp_eq (pc := 1479) (tgt := 1484) kL_law_d1479 (by decide) (by omega) (by omega) (fun _ => ?_) (fun c => by exfalso; omega)
    refine jj_iload (pc := 1484) kL_law_d1484 rfl ?_
    refine jn_if_ne (pc := 1486) (tgt := 1501) kL_law_d1486 (by decide) (by omega) (fun c2 => ?_) (fun c2 => ?_)
    · skip
      refine jj_goto (pc := 1501) (tgt := 1699) kL_law_d1501 (by decide) ?_
      show jj G kL_law (d + 17) Q rc2 rs2 1699 [some (.ref G.2.2.2.2.2), some (.ref (oa 0)), some (.ref (F 9)), some (.ref ot), some (.int (nI (i))), some (.int (nI (cd))), some (.int (nI (v)))] [] M2
      exact K M2 σ (nI cd) rc2 rs2 _ _ hW2
    · skip
      have ecd : cd = 0 := by omega
      have hot3 := hot2.trans (hot ecd)
      refine jj_aload_n (pc := 1489) kL_law_d1489 rfl ?_
      refine jn_iconst (pc := 1490) 0 kL_law_d1490 (by decide) ?_
      refine jj_lald (pc := 1491) (j := 1) (i := 0) kL_law_d1491 (kG_t hG rfl) hot3 rfl (show 1 < 2 ^ 31 by decide) rfl ?_
      refine jj_iload (pc := 1492) kL_law_d1492 rfl ?_
      refine jj_i2l (pc := 1494) kL_law_d1494 ?_
      refine jj_lcmp (pc := 1495) kL_law_d1495 ?_
      refine jn_top (.int (nI (0))) (by rw [lgc_self]; rfl) ?_
      refine jn_if_eq (pc := 1496) (tgt := 1501) kL_law_d1496 (by decide) (by omega) (fun _ => ?_) (fun c => by exfalso; omega)
      refine jj_goto (pc := 1501) (tgt := 1699) kL_law_d1501 (by decide) ?_
      show jj G kL_law (d + 17) Q rc2 rs2 1699 [some (.ref G.2.2.2.2.2), some (.ref (oa 0)), some (.ref (F 9)), some (.ref ot), some (.int (nI (i))), some (.int (nI (cd))), some (.int (nI (v)))] [] M2
      exact K M2 σ (nI cd) rc2 rs2 _ _ hW2
  · skip
    refine jn_iconst (pc := 1424) 1 kL_law_d1424 (by decide) ?_
    refine jj_goto (pc := 1425) (tgt := 1429) kL_law_d1425 (by decide) ?_
    refine jj_aload_n (pc := 1429) kL_law_d1429 rfl ?_
    refine jj_callS (pc := 1430) (As := [.ref (oa 0), .int (xs (i + 1)), .int (xs (i + 2)), .int (xs (i + 3)), .int (nI (1)), .ref ot]) kL_law_d1430 (kvL_L_length hG) rfl rfl rfl (Nat.le_of_ble_eq_true rfl) (Nat.le_of_ble_eq_true rfl) (jj_bare0 rfl) ?_
    refine lm_length hG hJ hH (fun M1 cd v rc1 rs1 hs1 hW hcd hot => ?_)
    show jj G kL_law (d + 17) Q rc1 rs1 1433 [some (.ref G.2.2.2.2.2), some (.ref (oa 0)), some (.ref (F 9)), some (.ref ot), some (.int (nI (i))), (o5), (o6)] [.int (nI (cd))] M1
    refine jj_istore (pc := 1433) kL_law_d1433 (Nat.le_of_ble_eq_true rfl) ?_
    show jj G kL_law (d + 17) Q rc1 rs1 1435 [some (.ref G.2.2.2.2.2), some (.ref (oa 0)), some (.ref (F 9)), some (.ref ot), some (.int (nI (i))), some (.int (nI (cd))), (o6)] [] M1
    refine jj_aload_n (pc := 1435) kL_law_d1435 rfl ?_
    refine jj_aload_n (pc := 1436) kL_law_d1436 rfl ?_
    refine jj_iload (pc := 1437) kL_law_d1437 rfl ?_
    refine jn_iconst (pc := 1439) 1 kL_law_d1439 (by decide) ?_
    refine jn_iadd (pc := 1440) (i + 1) kL_law_d1440 (by omega) ?_
    refine jj_sld (pc := 1441) (i := i + 1) kL_law_d1441 hs rfl rfl (by omega) ?_
    refine jj_aload_n (pc := 1442) kL_law_d1442 rfl ?_
    refine jj_iload (pc := 1443) kL_law_d1443 rfl ?_
    refine jn_iconst (pc := 1445) 2 kL_law_d1445 (by decide) ?_
    refine jn_iadd (pc := 1446) (i + 2) kL_law_d1446 (by omega) ?_
    refine jj_sld (pc := 1447) (i := i + 2) kL_law_d1447 hs rfl rfl (by omega) ?_
    refine jj_aload_n (pc := 1448) kL_law_d1448 rfl ?_
    refine jj_iload (pc := 1449) kL_law_d1449 rfl ?_
    refine jn_iconst (pc := 1451) 3 kL_law_d1451 (by decide) ?_
    refine jn_iadd (pc := 1452) (i + 3) kL_law_d1452 (by omega) ?_
    refine jj_sld (pc := 1453) (i := i + 3) kL_law_d1453 hs rfl rfl (by omega) ?_
    refine jj_aload_n (pc := 1454) kL_law_d1454 rfl ?_
    refine jj_iload (pc := 1455) kL_law_d1455 rfl ?_
    refine jn_iconst (pc := 1457) 4 kL_law_d1457 (by decide) ?_
    refine jn_iadd (pc := 1458) (i + 4) kL_law_d1458 (by omega) ?_
    refine jj_sld (pc := 1459) (i := i + 4) kL_law_d1459 hs rfl rfl (by omega) ?_
    refine jj_if_eq (pc := 1460) (tgt := 1467) kL_law_d1460 (by decide) (fun c => absurd c (c1)) (fun _ => ?_)
    refine jn_iconst (pc := 1463) 1 kL_law_d1463 (by decide) ?_
    refine jj_goto (pc := 1464) (tgt := 1468) kL_law_d1464 (by decide) ?_
    refine jj_callV (pc := 1468) (b := (F 9)) (As := [.int (xs (i + 1)), .int (xs (i + 2)), .int (xs (i + 3)), .int (nI (1))]) kL_law_d1468 (kvL_R_length hG) (kG_cl hG rfl) rfl hW.2.1.cell rfl rfl rfl (Nat.le_of_ble_eq_true rfl) (Nat.le_of_ble_eq_true rfl) (jj_bare0 rfl) ?_
    refine rp_length hG rfl hW.2.1 hW.2.2.1 (fun M2 cd2 v2 rc2 rs2 hs2 hT2 hF2 => ?_)
    obtain ⟨ec, ev⟩ := semLen_det hH.2.2.1 hs1 hs2
    subst ec ev
    obtain ⟨hW2, hot2⟩ := hW.ref hT2 hF2 hH.2.2.1
    show jj G kL_law (d + 17) Q rc2 rs2 1471 [some (.ref G.2.2.2.2.2), some (.ref (oa 0)), some (.ref (F 9)), some (.ref ot), some (.int (nI (i))), some (.int (nI (cd))), (o6)] [.int (nI (v))] M2
    refine jj_istore (pc := 1471) kL_law_d1471 (Nat.le_of_ble_eq_true rfl) ?_
    show jj G kL_law (d + 17) Q rc2 rs2 1473 [some (.ref G.2.2.2.2.2), some (.ref (oa 0)), some (.ref (F 9)), some (.ref ot), some (.int (nI (i))), some (.int (nI (cd))), some (.int (nI (v)))] [] M2
    refine jj_aload_n (pc := 1473) kL_law_d1473 rfl ?_
    refine jj_callV (pc := 1474) (b := (F 9)) (As := []) kL_law_d1474 (kvL_R_thrown hG) (kG_cl hG rfl) rfl hT2.cell rfl rfl rfl (Nat.le_of_ble_eq_true rfl) (Nat.le_of_ble_eq_true rfl) (jj_bare0 rfl) ?_
    refine rp_thrown hG rfl hT2 ?_
    show jj G kL_law (d + 17) Q rc2 rs2 1477 [some (.ref G.2.2.2.2.2), some (.ref (oa 0)), some (.ref (F 9)), some (.ref ot), some (.int (nI (i))), some (.int (nI (cd))), some (.int (nI (v)))] [.int (nI (cd))] M2
    refine jj_iload (pc := 1477) kL_law_d1477 rfl ?_
    refine jn_icmp_eq (pc := 1479) (tgt := 1484) kL_law_d1479 (by decide) (by omega) (by omega) (fun _ => ?_) (fun c => by exfalso; omega)
    refine jj_iload (pc := 1484) kL_law_d1484 rfl ?_
    refine jn_if_ne (pc := 1486) (tgt := 1501) kL_law_d1486 (by decide) (by omega) (fun c2 => ?_) (fun c2 => ?_)
    · skip
      refine jj_goto (pc := 1501) (tgt := 1699) kL_law_d1501 (by decide) ?_
      show jj G kL_law (d + 17) Q rc2 rs2 1699 [some (.ref G.2.2.2.2.2), some (.ref (oa 0)), some (.ref (F 9)), some (.ref ot), some (.int (nI (i))), some (.int (nI (cd))), some (.int (nI (v)))] [] M2
      exact K M2 σ (nI cd) rc2 rs2 _ _ hW2
    · skip
      have ecd : cd = 0 := by omega
      have hot3 := hot2.trans (hot ecd)
      refine jj_aload_n (pc := 1489) kL_law_d1489 rfl ?_
      refine jn_iconst (pc := 1490) 0 kL_law_d1490 (by decide) ?_
      refine jj_lald (pc := 1491) (j := 1) (i := 0) kL_law_d1491 (kG_t hG rfl) hot3 rfl (show 1 < 2 ^ 31 by decide) rfl ?_
      refine jj_iload (pc := 1492) kL_law_d1492 rfl ?_
      refine jj_i2l (pc := 1494) kL_law_d1494 ?_
      refine jj_lcmp (pc := 1495) kL_law_d1495 ?_
      refine jn_top (.int (nI (0))) (by rw [lgc_self]; rfl) ?_
      refine jn_if_eq (pc := 1496) (tgt := 1501) kL_law_d1496 (by decide) (by omega) (fun _ => ?_) (fun c => by exfalso; omega)
      refine jj_goto (pc := 1501) (tgt := 1699) kL_law_d1501 (by decide) ?_
      show jj G kL_law (d + 17) Q rc2 rs2 1699 [some (.ref G.2.2.2.2.2), some (.ref (oa 0)), some (.ref (F 9)), some (.ref ot), some (.int (nI (i))), some (.int (nI (cd))), some (.int (nI (v)))] [] M2
      exact K M2 σ (nI cd) rc2 rs2 _ _ hW2
theorem law_limb {o5 o6 : Option Value} (hG : kG G) (hs : jj_scr G N xs) (hi8 : i + 8 ≤ N) (hN : N ≤ 4096) (hJ : XJ wa la capx oa eu dv hi lo) (hH : HW M wa la oa F eu dv hi lo ot σ σ code (X + 6) (Z + 1) rc rs) (K : ∀ (M' : mheap) (σ' : rst) (code' : Int32) (rc' rs' : Nat) (p5 p6 : Option Value), HW M' wa la oa F eu dv hi lo ot σ' σ' code' X Z rc' rs' → jj G kL_law (d + 17) Q rc' rs' 1699 [some (.ref G.2.2.2.2.2), some (.ref (oa 0)), some (.ref (F 9)), some (.ref ot), some (.int (nI (i))), p5, p6] [] M') : jj G kL_law (d + 17) Q rc rs 1504 [some (.ref G.2.2.2.2.2), some (.ref (oa 0)), some (.ref (F 9)), some (.ref ot), some (.int (nI (i))), o5, o6] [] M := by
  have hcell := hH.2.1.cell
  show jj G kL_law (d + 17) Q rc rs 1504 [some (.ref G.2.2.2.2.2), some (.ref (oa 0)), some (.ref (F 9)), some (.ref ot), some (.int (nI (i))), (o5), (o6)] [] M
  refine jj_aload_n (pc := 1504) kL_law_d1504 rfl ?_
  refine jj_aload_n (pc := 1505) kL_law_d1505 rfl ?_
  refine jj_iload (pc := 1506) kL_law_d1506 rfl ?_
  refine jn_iconst (pc := 1508) 1 kL_law_d1508 (by decide) ?_
  refine jn_iadd (pc := 1509) (i + 1) kL_law_d1509 (by omega) ?_
  refine jj_sld (pc := 1510) (i := i + 1) kL_law_d1510 hs rfl rfl (by omega) ?_
  refine jj_aload_n (pc := 1511) kL_law_d1511 rfl ?_
  refine jj_iload (pc := 1512) kL_law_d1512 rfl ?_
  refine jn_iconst (pc := 1514) 2 kL_law_d1514 (by decide) ?_
  refine jn_iadd (pc := 1515) (i + 2) kL_law_d1515 (by omega) ?_
  refine jj_sld (pc := 1516) (i := i + 2) kL_law_d1516 hs rfl rfl (by omega) ?_
  refine jj_aload_n (pc := 1517) kL_law_d1517 rfl ?_
  refine jj_iload (pc := 1518) kL_law_d1518 rfl ?_
  refine jn_iconst (pc := 1520) 3 kL_law_d1520 (by decide) ?_
  refine jn_iadd (pc := 1521) (i + 3) kL_law_d1521 (by omega) ?_
  refine jj_sld (pc := 1522) (i := i + 3) kL_law_d1522 hs rfl rfl (by omega) ?_
  refine jj_aload_n (pc := 1523) kL_law_d1523 rfl ?_
  refine jj_iload (pc := 1524) kL_law_d1524 rfl ?_
  refine jn_iconst (pc := 1526) 4 kL_law_d1526 (by decide) ?_
  refine jn_iadd (pc := 1527) (i + 4) kL_law_d1527 (by omega) ?_
  refine jj_sld (pc := 1528) (i := i + 4) kL_law_d1528 hs rfl rfl (by omega) ?_
  refine jj_if_eq (pc := 1529) (tgt := 1536) kL_law_d1529 (by decide) (fun c1 => ?_) (fun c1 => ?_)
  · skip
    refine jn_iconst (pc := 1536) 0 kL_law_d1536 (by decide) ?_
    refine jj_aload_n (pc := 1537) kL_law_d1537 rfl ?_
    refine jj_iload (pc := 1538) kL_law_d1538 rfl ?_
    refine jn_iconst (pc := 1540) 5 kL_law_d1540 (by decide) ?_
    refine jn_iadd (pc := 1541) (i + 5) kL_law_d1541 (by omega) ?_
    refine jj_sld (pc := 1542) (i := i + 5) kL_law_d1542 hs rfl rfl (by omega) ?_
    refine jj_aload_n (pc := 1543) kL_law_d1543 rfl ?_
    refine jj_callS (pc := 1544) (As := [.ref (oa 0), .int (xs (i + 1)), .int (xs (i + 2)), .int (xs (i + 3)), .int (nI (0)), .int (xs (i + 5)), .ref ot]) kL_law_d1544 (kvL_L_limb hG) rfl rfl rfl (Nat.le_of_ble_eq_true rfl) (Nat.le_of_ble_eq_true rfl) (jj_bare0 rfl) ?_
    refine lm_limb hG hJ hH (fun M1 cd v rc1 rs1 hs1 hW hcd hot => ?_)
    show jj G kL_law (d + 17) Q rc1 rs1 1547 [some (.ref G.2.2.2.2.2), some (.ref (oa 0)), some (.ref (F 9)), some (.ref ot), some (.int (nI (i))), (o5), (o6)] [.int (nI (cd))] M1
    refine jj_istore (pc := 1547) kL_law_d1547 (Nat.le_of_ble_eq_true rfl) ?_
    show jj G kL_law (d + 17) Q rc1 rs1 1549 [some (.ref G.2.2.2.2.2), some (.ref (oa 0)), some (.ref (F 9)), some (.ref ot), some (.int (nI (i))), some (.int (nI (cd))), (o6)] [] M1
    refine jj_aload_n (pc := 1549) kL_law_d1549 rfl ?_
    refine jj_aload_n (pc := 1550) kL_law_d1550 rfl ?_
    refine jj_iload (pc := 1551) kL_law_d1551 rfl ?_
    refine jn_iconst (pc := 1553) 1 kL_law_d1553 (by decide) ?_
    refine jn_iadd (pc := 1554) (i + 1) kL_law_d1554 (by omega) ?_
    refine jj_sld (pc := 1555) (i := i + 1) kL_law_d1555 hs rfl rfl (by omega) ?_
    refine jj_aload_n (pc := 1556) kL_law_d1556 rfl ?_
    refine jj_iload (pc := 1557) kL_law_d1557 rfl ?_
    refine jn_iconst (pc := 1559) 2 kL_law_d1559 (by decide) ?_
    refine jn_iadd (pc := 1560) (i + 2) kL_law_d1560 (by omega) ?_
    refine jj_sld (pc := 1561) (i := i + 2) kL_law_d1561 hs rfl rfl (by omega) ?_
    refine jj_aload_n (pc := 1562) kL_law_d1562 rfl ?_
    refine jj_iload (pc := 1563) kL_law_d1563 rfl ?_
    refine jn_iconst (pc := 1565) 3 kL_law_d1565 (by decide) ?_
    refine jn_iadd (pc := 1566) (i + 3) kL_law_d1566 (by omega) ?_
    refine jj_sld (pc := 1567) (i := i + 3) kL_law_d1567 hs rfl rfl (by omega) ?_
    refine jj_aload_n (pc := 1568) kL_law_d1568 rfl ?_
    refine jj_iload (pc := 1569) kL_law_d1569 rfl ?_
    refine jn_iconst (pc := 1571) 4 kL_law_d1571 (by decide) ?_
    refine jn_iadd (pc := 1572) (i + 4) kL_law_d1572 (by omega) ?_
    refine jj_sld (pc := 1573) (i := i + 4) kL_law_d1573 hs rfl rfl (by omega) ?_
    refine jj_if_eq (pc := 1574) (tgt := 1581) kL_law_d1574 (by decide) (fun _ => ?_) (fun c => absurd c (fun h => h c1))
    refine jn_iconst (pc := 1581) 0 kL_law_d1581 (by decide) ?_
    refine jj_aload_n (pc := 1582) kL_law_d1582 rfl ?_
    refine jj_iload (pc := 1583) kL_law_d1583 rfl ?_
    refine jn_iconst (pc := 1585) 5 kL_law_d1585 (by decide) ?_
    refine jn_iadd (pc := 1586) (i + 5) kL_law_d1586 (by omega) ?_
    refine jj_sld (pc := 1587) (i := i + 5) kL_law_d1587 hs rfl rfl (by omega) ?_
    refine jj_callV (pc := 1588) (b := (F 9)) (As := [.int (xs (i + 1)), .int (xs (i + 2)), .int (xs (i + 3)), .int (nI (0)), .int (xs (i + 5))]) kL_law_d1588 (kvL_R_limb hG) (kG_cl hG rfl) rfl hW.2.1.cell rfl rfl rfl (Nat.le_of_ble_eq_true rfl) (Nat.le_of_ble_eq_true rfl) (jj_bare0 rfl) ?_
    refine rp_limb hG rfl hW.2.1 hW.2.2.1 (fun M2 cd2 v2 rc2 rs2 hs2 hT2 hF2 => ?_)
    obtain ⟨ec, ev⟩ := semLimb_det hH.2.2.1 hs1 hs2
    subst ec ev
    obtain ⟨hW2, hot2⟩ := hW.ref hT2 hF2 hH.2.2.1
    show jj G kL_law (d + 17) Q rc2 rs2 1591 [some (.ref G.2.2.2.2.2), some (.ref (oa 0)), some (.ref (F 9)), some (.ref ot), some (.int (nI (i))), some (.int (nI (cd))), (o6)] [.int (v)] M2
    refine jj_istore (pc := 1591) kL_law_d1591 (Nat.le_of_ble_eq_true rfl) ?_
    show jj G kL_law (d + 17) Q rc2 rs2 1593 [some (.ref G.2.2.2.2.2), some (.ref (oa 0)), some (.ref (F 9)), some (.ref ot), some (.int (nI (i))), some (.int (nI (cd))), some (.int (v))] [] M2
    refine jj_aload_n (pc := 1593) kL_law_d1593 rfl ?_
    refine jj_callV (pc := 1594) (b := (F 9)) (As := []) kL_law_d1594 (kvL_R_thrown hG) (kG_cl hG rfl) rfl hT2.cell rfl rfl rfl (Nat.le_of_ble_eq_true rfl) (Nat.le_of_ble_eq_true rfl) (jj_bare0 rfl) ?_
    refine rp_thrown hG rfl hT2 ?_
    show jj G kL_law (d + 17) Q rc2 rs2 1597 [some (.ref G.2.2.2.2.2), some (.ref (oa 0)), some (.ref (F 9)), some (.ref ot), some (.int (nI (i))), some (.int (nI (cd))), some (.int (v))] [.int (nI (cd))] M2
    refine jj_iload (pc := 1597) kL_law_d1597 rfl ?_
    refine jn_icmp_eq (pc := 1599) (tgt := 1604) kL_law_d1599 (by decide) (by omega) (by omega) (fun _ => ?_) (fun c => by exfalso; omega)
    refine jj_iload (pc := 1604) kL_law_d1604 rfl ?_
    refine jn_if_ne (pc := 1606) (tgt := 1621) kL_law_d1606 (by decide) (by omega) (fun c2 => ?_) (fun c2 => ?_)
    · skip
      refine jj_goto (pc := 1621) (tgt := 1699) kL_law_d1621 (by decide) ?_
      show jj G kL_law (d + 17) Q rc2 rs2 1699 [some (.ref G.2.2.2.2.2), some (.ref (oa 0)), some (.ref (F 9)), some (.ref ot), some (.int (nI (i))), some (.int (nI (cd))), some (.int (v))] [] M2
      exact K M2 σ (nI cd) rc2 rs2 _ _ hW2
    · skip
      have ecd : cd = 0 := by omega
      have hot3 := hot2.trans (hot ecd)
      refine jj_aload_n (pc := 1609) kL_law_d1609 rfl ?_
      refine jn_iconst (pc := 1610) 0 kL_law_d1610 (by decide) ?_
      refine jj_lald (pc := 1611) (j := 1) (i := 0) kL_law_d1611 (kG_t hG rfl) hot3 rfl (show 1 < 2 ^ 31 by decide) rfl ?_
      refine jj_iload (pc := 1612) kL_law_d1612 rfl ?_
      refine jj_i2l (pc := 1614) kL_law_d1614 ?_
      refine jj_lcmp (pc := 1615) kL_law_d1615 ?_
      refine jn_top (.int (nI (0))) (by rw [lgc_self]; rfl) ?_
      refine jn_if_eq (pc := 1616) (tgt := 1621) kL_law_d1616 (by decide) (by omega) (fun _ => ?_) (fun c => by exfalso; omega)
      refine jj_goto (pc := 1621) (tgt := 1699) kL_law_d1621 (by decide) ?_
      show jj G kL_law (d + 17) Q rc2 rs2 1699 [some (.ref G.2.2.2.2.2), some (.ref (oa 0)), some (.ref (F 9)), some (.ref ot), some (.int (nI (i))), some (.int (nI (cd))), some (.int (v))] [] M2
      exact K M2 σ (nI cd) rc2 rs2 _ _ hW2
  · skip
    refine jn_iconst (pc := 1532) 1 kL_law_d1532 (by decide) ?_
    refine jj_goto (pc := 1533) (tgt := 1537) kL_law_d1533 (by decide) ?_
    refine jj_aload_n (pc := 1537) kL_law_d1537 rfl ?_
    refine jj_iload (pc := 1538) kL_law_d1538 rfl ?_
    refine jn_iconst (pc := 1540) 5 kL_law_d1540 (by decide) ?_
    refine jn_iadd (pc := 1541) (i + 5) kL_law_d1541 (by omega) ?_
    refine jj_sld (pc := 1542) (i := i + 5) kL_law_d1542 hs rfl rfl (by omega) ?_
    refine jj_aload_n (pc := 1543) kL_law_d1543 rfl ?_
    refine jj_callS (pc := 1544) (As := [.ref (oa 0), .int (xs (i + 1)), .int (xs (i + 2)), .int (xs (i + 3)), .int (nI (1)), .int (xs (i + 5)), .ref ot]) kL_law_d1544 (kvL_L_limb hG) rfl rfl rfl (Nat.le_of_ble_eq_true rfl) (Nat.le_of_ble_eq_true rfl) (jj_bare0 rfl) ?_
    refine lm_limb hG hJ hH (fun M1 cd v rc1 rs1 hs1 hW hcd hot => ?_)
    show jj G kL_law (d + 17) Q rc1 rs1 1547 [some (.ref G.2.2.2.2.2), some (.ref (oa 0)), some (.ref (F 9)), some (.ref ot), some (.int (nI (i))), (o5), (o6)] [.int (nI (cd))] M1
    refine jj_istore (pc := 1547) kL_law_d1547 (Nat.le_of_ble_eq_true rfl) ?_
    show jj G kL_law (d + 17) Q rc1 rs1 1549 [some (.ref G.2.2.2.2.2), some (.ref (oa 0)), some (.ref (F 9)), some (.ref ot), some (.int (nI (i))), some (.int (nI (cd))), (o6)] [] M1
    refine jj_aload_n (pc := 1549) kL_law_d1549 rfl ?_
    refine jj_aload_n (pc := 1550) kL_law_d1550 rfl ?_
    refine jj_iload (pc := 1551) kL_law_d1551 rfl ?_
    refine jn_iconst (pc := 1553) 1 kL_law_d1553 (by decide) ?_
    refine jn_iadd (pc := 1554) (i + 1) kL_law_d1554 (by omega) ?_
    refine jj_sld (pc := 1555) (i := i + 1) kL_law_d1555 hs rfl rfl (by omega) ?_
    refine jj_aload_n (pc := 1556) kL_law_d1556 rfl ?_
    refine jj_iload (pc := 1557) kL_law_d1557 rfl ?_
    refine jn_iconst (pc := 1559) 2 kL_law_d1559 (by decide) ?_
    refine jn_iadd (pc := 1560) (i + 2) kL_law_d1560 (by omega) ?_
    refine jj_sld (pc := 1561) (i := i + 2) kL_law_d1561 hs rfl rfl (by omega) ?_
    refine jj_aload_n (pc := 1562) kL_law_d1562 rfl ?_
    refine jj_iload (pc := 1563) kL_law_d1563 rfl ?_
    refine jn_iconst (pc := 1565) 3 kL_law_d1565 (by decide) ?_
    refine jn_iadd (pc := 1566) (i + 3) kL_law_d1566 (by omega) ?_
    refine jj_sld (pc := 1567) (i := i + 3) kL_law_d1567 hs rfl rfl (by omega) ?_
    refine jj_aload_n (pc := 1568) kL_law_d1568 rfl ?_
    refine jj_iload (pc := 1569) kL_law_d1569 rfl ?_
    refine jn_iconst (pc := 1571) 4 kL_law_d1571 (by decide) ?_
    refine jn_iadd (pc := 1572) (i + 4) kL_law_d1572 (by omega) ?_
    refine jj_sld (pc := 1573) (i := i + 4) kL_law_d1573 hs rfl rfl (by omega) ?_
    refine jj_if_eq (pc := 1574) (tgt := 1581) kL_law_d1574 (by decide) (fun c => absurd c (c1)) (fun _ => ?_)
    refine jn_iconst (pc := 1577) 1 kL_law_d1577 (by decide) ?_
    refine jj_goto (pc := 1578) (tgt := 1582) kL_law_d1578 (by decide) ?_
    refine jj_aload_n (pc := 1582) kL_law_d1582 rfl ?_
    refine jj_iload (pc := 1583) kL_law_d1583 rfl ?_
    refine jn_iconst (pc := 1585) 5 kL_law_d1585 (by decide) ?_
    refine jn_iadd (pc := 1586) (i + 5) kL_law_d1586 (by omega) ?_
    refine jj_sld (pc := 1587) (i := i + 5) kL_law_d1587 hs rfl rfl (by omega) ?_
    refine jj_callV (pc := 1588) (b := (F 9)) (As := [.int (xs (i + 1)), .int (xs (i + 2)), .int (xs (i + 3)), .int (nI (1)), .int (xs (i + 5))]) kL_law_d1588 (kvL_R_limb hG) (kG_cl hG rfl) rfl hW.2.1.cell rfl rfl rfl (Nat.le_of_ble_eq_true rfl) (Nat.le_of_ble_eq_true rfl) (jj_bare0 rfl) ?_
    refine rp_limb hG rfl hW.2.1 hW.2.2.1 (fun M2 cd2 v2 rc2 rs2 hs2 hT2 hF2 => ?_)
    obtain ⟨ec, ev⟩ := semLimb_det hH.2.2.1 hs1 hs2
    subst ec ev
    obtain ⟨hW2, hot2⟩ := hW.ref hT2 hF2 hH.2.2.1
    show jj G kL_law (d + 17) Q rc2 rs2 1591 [some (.ref G.2.2.2.2.2), some (.ref (oa 0)), some (.ref (F 9)), some (.ref ot), some (.int (nI (i))), some (.int (nI (cd))), (o6)] [.int (v)] M2
    refine jj_istore (pc := 1591) kL_law_d1591 (Nat.le_of_ble_eq_true rfl) ?_
    show jj G kL_law (d + 17) Q rc2 rs2 1593 [some (.ref G.2.2.2.2.2), some (.ref (oa 0)), some (.ref (F 9)), some (.ref ot), some (.int (nI (i))), some (.int (nI (cd))), some (.int (v))] [] M2
    refine jj_aload_n (pc := 1593) kL_law_d1593 rfl ?_
    refine jj_callV (pc := 1594) (b := (F 9)) (As := []) kL_law_d1594 (kvL_R_thrown hG) (kG_cl hG rfl) rfl hT2.cell rfl rfl rfl (Nat.le_of_ble_eq_true rfl) (Nat.le_of_ble_eq_true rfl) (jj_bare0 rfl) ?_
    refine rp_thrown hG rfl hT2 ?_
    show jj G kL_law (d + 17) Q rc2 rs2 1597 [some (.ref G.2.2.2.2.2), some (.ref (oa 0)), some (.ref (F 9)), some (.ref ot), some (.int (nI (i))), some (.int (nI (cd))), some (.int (v))] [.int (nI (cd))] M2
    refine jj_iload (pc := 1597) kL_law_d1597 rfl ?_
    refine jn_icmp_eq (pc := 1599) (tgt := 1604) kL_law_d1599 (by decide) (by omega) (by omega) (fun _ => ?_) (fun c => by exfalso; omega)
    refine jj_iload (pc := 1604) kL_law_d1604 rfl ?_
    refine jn_if_ne (pc := 1606) (tgt := 1621) kL_law_d1606 (by decide) (by omega) (fun c2 => ?_) (fun c2 => ?_)
    · skip
      refine jj_goto (pc := 1621) (tgt := 1699) kL_law_d1621 (by decide) ?_
      show jj G kL_law (d + 17) Q rc2 rs2 1699 [some (.ref G.2.2.2.2.2), some (.ref (oa 0)), some (.ref (F 9)), some (.ref ot), some (.int (nI (i))), some (.int (nI (cd))), some (.int (v))] [] M2
      exact K M2 σ (nI cd) rc2 rs2 _ _ hW2
    · skip
      have ecd : cd = 0 := by omega
      have hot3 := hot2.trans (hot ecd)
      refine jj_aload_n (pc := 1609) kL_law_d1609 rfl ?_
      refine jn_iconst (pc := 1610) 0 kL_law_d1610 (by decide) ?_
      refine jj_lald (pc := 1611) (j := 1) (i := 0) kL_law_d1611 (kG_t hG rfl) hot3 rfl (show 1 < 2 ^ 31 by decide) rfl ?_
      refine jj_iload (pc := 1612) kL_law_d1612 rfl ?_
      refine jj_i2l (pc := 1614) kL_law_d1614 ?_
      refine jj_lcmp (pc := 1615) kL_law_d1615 ?_
      refine jn_top (.int (nI (0))) (by rw [lgc_self]; rfl) ?_
      refine jn_if_eq (pc := 1616) (tgt := 1621) kL_law_d1616 (by decide) (by omega) (fun _ => ?_) (fun c => by exfalso; omega)
      refine jj_goto (pc := 1621) (tgt := 1699) kL_law_d1621 (by decide) ?_
      show jj G kL_law (d + 17) Q rc2 rs2 1699 [some (.ref G.2.2.2.2.2), some (.ref (oa 0)), some (.ref (F 9)), some (.ref ot), some (.int (nI (i))), some (.int (nI (cd))), some (.int (v))] [] M2
      exact K M2 σ (nI cd) rc2 rs2 _ _ hW2
theorem law_same {o5 o6 : Option Value} (hG : kG G) (hs : jj_scr G N xs) (hi8 : i + 8 ≤ N) (hN : N ≤ 4096) (hJ : XJ wa la capx oa eu dv hi lo) (hH : HW M wa la oa F eu dv hi lo ot σ σ code (X + 6) (Z + 1) rc rs) (K : ∀ (M' : mheap) (σ' : rst) (code' : Int32) (rc' rs' : Nat) (p5 p6 : Option Value), HW M' wa la oa F eu dv hi lo ot σ' σ' code' X Z rc' rs' → jj G kL_law (d + 17) Q rc' rs' 1699 [some (.ref G.2.2.2.2.2), some (.ref (oa 0)), some (.ref (F 9)), some (.ref ot), some (.int (nI (i))), p5, p6] [] M') : jj G kL_law (d + 17) Q rc rs 1624 [some (.ref G.2.2.2.2.2), some (.ref (oa 0)), some (.ref (F 9)), some (.ref ot), some (.int (nI (i))), o5, o6] [] M := by
  have hcell := hH.2.1.cell
  show jj G kL_law (d + 17) Q rc rs 1624 [some (.ref G.2.2.2.2.2), some (.ref (oa 0)), some (.ref (F 9)), some (.ref ot), some (.int (nI (i))), (o5), (o6)] [] M
  refine jj_aload_n (pc := 1624) kL_law_d1624 rfl ?_
  refine jj_aload_n (pc := 1625) kL_law_d1625 rfl ?_
  refine jj_iload (pc := 1626) kL_law_d1626 rfl ?_
  refine jn_iconst (pc := 1628) 1 kL_law_d1628 (by decide) ?_
  refine jn_iadd (pc := 1629) (i + 1) kL_law_d1629 (by omega) ?_
  refine jj_sld (pc := 1630) (i := i + 1) kL_law_d1630 hs rfl rfl (by omega) ?_
  refine jj_aload_n (pc := 1631) kL_law_d1631 rfl ?_
  refine jj_iload (pc := 1632) kL_law_d1632 rfl ?_
  refine jn_iconst (pc := 1634) 2 kL_law_d1634 (by decide) ?_
  refine jn_iadd (pc := 1635) (i + 2) kL_law_d1635 (by omega) ?_
  refine jj_sld (pc := 1636) (i := i + 2) kL_law_d1636 hs rfl rfl (by omega) ?_
  refine jj_aload_n (pc := 1637) kL_law_d1637 rfl ?_
  refine jj_callS (pc := 1638) (As := [.ref (oa 0), .int (xs (i + 1)), .int (xs (i + 2)), .ref ot]) kL_law_d1638 (kvL_L_same hG) rfl rfl rfl (Nat.le_of_ble_eq_true rfl) (Nat.le_of_ble_eq_true rfl) (jj_bare0 rfl) ?_
  refine lm_same hG hJ hH (fun M1 cd v rc1 rs1 hs1 hW hcd hot => ?_)
  show jj G kL_law (d + 17) Q rc1 rs1 1641 [some (.ref G.2.2.2.2.2), some (.ref (oa 0)), some (.ref (F 9)), some (.ref ot), some (.int (nI (i))), (o5), (o6)] [.int (nI (cd))] M1
  refine jj_istore (pc := 1641) kL_law_d1641 (Nat.le_of_ble_eq_true rfl) ?_
  show jj G kL_law (d + 17) Q rc1 rs1 1643 [some (.ref G.2.2.2.2.2), some (.ref (oa 0)), some (.ref (F 9)), some (.ref ot), some (.int (nI (i))), some (.int (nI (cd))), (o6)] [] M1
  refine jj_aload_n (pc := 1643) kL_law_d1643 rfl ?_
  refine jj_aload_n (pc := 1644) kL_law_d1644 rfl ?_
  refine jj_iload (pc := 1645) kL_law_d1645 rfl ?_
  refine jn_iconst (pc := 1647) 1 kL_law_d1647 (by decide) ?_
  refine jn_iadd (pc := 1648) (i + 1) kL_law_d1648 (by omega) ?_
  refine jj_sld (pc := 1649) (i := i + 1) kL_law_d1649 hs rfl rfl (by omega) ?_
  refine jj_aload_n (pc := 1650) kL_law_d1650 rfl ?_
  refine jj_iload (pc := 1651) kL_law_d1651 rfl ?_
  refine jn_iconst (pc := 1653) 2 kL_law_d1653 (by decide) ?_
  refine jn_iadd (pc := 1654) (i + 2) kL_law_d1654 (by omega) ?_
  refine jj_sld (pc := 1655) (i := i + 2) kL_law_d1655 hs rfl rfl (by omega) ?_
  refine jj_callV (pc := 1656) (b := (F 9)) (As := [.int (xs (i + 1)), .int (xs (i + 2))]) kL_law_d1656 (kvL_R_same hG) (kG_cl hG rfl) rfl hW.2.1.cell rfl rfl rfl (Nat.le_of_ble_eq_true rfl) (Nat.le_of_ble_eq_true rfl) (jj_bare0 rfl) ?_
  refine rp_same hG rfl hW.2.1 hW.2.2.1 (fun M2 cd2 v2 rc2 rs2 hs2 hT2 hF2 => ?_)
  obtain ⟨ec, ev⟩ := semSame_det hs1 hs2
  subst ec ev
  obtain ⟨hW2, hot2⟩ := hW.ref hT2 hF2 hH.2.2.1
  show jj G kL_law (d + 17) Q rc2 rs2 1659 [some (.ref G.2.2.2.2.2), some (.ref (oa 0)), some (.ref (F 9)), some (.ref ot), some (.int (nI (i))), some (.int (nI (cd))), (o6)] [.int (nI (v))] M2
  refine jj_istore (pc := 1659) kL_law_d1659 (Nat.le_of_ble_eq_true rfl) ?_
  show jj G kL_law (d + 17) Q rc2 rs2 1661 [some (.ref G.2.2.2.2.2), some (.ref (oa 0)), some (.ref (F 9)), some (.ref ot), some (.int (nI (i))), some (.int (nI (cd))), some (.int (nI (v)))] [] M2
  refine jj_aload_n (pc := 1661) kL_law_d1661 rfl ?_
  refine jj_callV (pc := 1662) (b := (F 9)) (As := []) kL_law_d1662 (kvL_R_thrown hG) (kG_cl hG rfl) rfl hT2.cell rfl rfl rfl (Nat.le_of_ble_eq_true rfl) (Nat.le_of_ble_eq_true rfl) (jj_bare0 rfl) ?_
  refine rp_thrown hG rfl hT2 ?_
  show jj G kL_law (d + 17) Q rc2 rs2 1665 [some (.ref G.2.2.2.2.2), some (.ref (oa 0)), some (.ref (F 9)), some (.ref ot), some (.int (nI (i))), some (.int (nI (cd))), some (.int (nI (v)))] [.int (nI (cd))] M2
  refine jj_iload (pc := 1665) kL_law_d1665 rfl ?_
  refine jn_icmp_eq (pc := 1667) (tgt := 1672) kL_law_d1667 (by decide) (by omega) (by omega) (fun _ => ?_) (fun c => by exfalso; omega)
  refine jj_iload (pc := 1672) kL_law_d1672 rfl ?_
  refine jn_if_ne (pc := 1674) (tgt := 1696) kL_law_d1674 (by decide) (by omega) (fun c2 => ?_) (fun c2 => ?_)
  · skip
    refine jj_goto (pc := 1696) (tgt := 1699) kL_law_d1696 (by decide) ?_
    show jj G kL_law (d + 17) Q rc2 rs2 1699 [some (.ref G.2.2.2.2.2), some (.ref (oa 0)), some (.ref (F 9)), some (.ref ot), some (.int (nI (i))), some (.int (nI (cd))), some (.int (nI (v)))] [] M2
    exact K M2 σ (nI cd) rc2 rs2 _ _ hW2
  · skip
    have ecd : cd = 0 := by omega
    have hot3 := hot2.trans (hot ecd)
    refine jj_aload_n (pc := 1677) kL_law_d1677 rfl ?_
    refine jn_iconst (pc := 1678) 0 kL_law_d1678 (by decide) ?_
    refine jj_lald (pc := 1679) (j := 1) (i := 0) kL_law_d1679 (kG_t hG rfl) hot3 rfl (show 1 < 2 ^ 31 by decide) rfl ?_
    refine jj_iload (pc := 1680) kL_law_d1680 rfl ?_
    have hv1 := semSame_v hs1
    refine jn_if_eq (pc := 1682) (tgt := 1689) kL_law_d1682 (by decide) (by omega) (fun c3 => ?_) (fun c3 => ?_)
    · skip
      have ev0 : v = 0 := by omega
      subst ev0
      show jj G kL_law (d + 17) Q rc2 rs2 1689 [some (.ref G.2.2.2.2.2), some (.ref (oa 0)), some (.ref (F 9)), some (.ref ot), some (.int (nI (i))), some (.int (nI (cd))), some (.int (nI (0)))] [.long (lN (0))] M2
      refine jj_lconst (pc := 1689) (v := lN 0) kL_law_d1689 (by decide) ?_
      refine jj_lcmp (pc := 1690) kL_law_d1690 ?_
      refine jn_top (.int (nI (0))) (by rw [lgc_self]; rfl) ?_
      refine jn_if_eq (pc := 1691) (tgt := 1696) kL_law_d1691 (by decide) (by omega) (fun _ => ?_) (fun c => by exfalso; omega)
      refine jj_goto (pc := 1696) (tgt := 1699) kL_law_d1696 (by decide) ?_
      show jj G kL_law (d + 17) Q rc2 rs2 1699 [some (.ref G.2.2.2.2.2), some (.ref (oa 0)), some (.ref (F 9)), some (.ref ot), some (.int (nI (i))), some (.int (nI (cd))), some (.int (nI (0)))] [] M2
      exact K M2 σ (nI cd) rc2 rs2 _ _ hW2
    · skip
      have ev0 : v = 1 := by omega
      subst ev0
      show jj G kL_law (d + 17) Q rc2 rs2 1685 [some (.ref G.2.2.2.2.2), some (.ref (oa 0)), some (.ref (F 9)), some (.ref ot), some (.int (nI (i))), some (.int (nI (cd))), some (.int (nI (1)))] [.long (lN (1))] M2
      refine jj_lconst (pc := 1685) (v := lN 1) kL_law_d1685 (by decide) ?_
      refine jj_goto (pc := 1686) (tgt := 1690) kL_law_d1686 (by decide) ?_
      refine jj_lcmp (pc := 1690) kL_law_d1690 ?_
      refine jn_top (.int (nI (0))) (by rw [lgc_self]; rfl) ?_
      refine jn_if_eq (pc := 1691) (tgt := 1696) kL_law_d1691 (by decide) (by omega) (fun _ => ?_) (fun c => by exfalso; omega)
      refine jj_goto (pc := 1696) (tgt := 1699) kL_law_d1696 (by decide) ?_
      show jj G kL_law (d + 17) Q rc2 rs2 1699 [some (.ref G.2.2.2.2.2), some (.ref (oa 0)), some (.ref (F 9)), some (.ref ot), some (.int (nI (i))), some (.int (nI (cd))), some (.int (nI (1)))] [] M2
      exact K M2 σ (nI cd) rc2 rs2 _ _ hW2
end LW4
