/-! ThirtyThreeBelowModel.ofBody -/
noncomputable def f_X12_ofBody (s0 : SS) (a0 : Int32) (a1 : Int32) : Option Int32 := (b1 (f_X12_isBody s0 a0) fun r1 => (if r1 = (0 : Int32) then some (-2000000000) else (if a1 = (0 : Int32) then (gd (inB a0 120) (some (zI s0 62 (a0.toInt.toNat)))) else (b1 (f_X12_isHole s0 a0) fun r4 => (if r4 = (0 : Int32) then (gd (inB a0 120) (if (zI s0 62 (a0.toInt.toNat)) = (6 : Int32) then (if a1 = (1 : Int32) then some (zS s0 59 22) else (if a1 = (2 : Int32) then some (zS s0 59 23) else (if a1 = (3 : Int32) then some (zS s0 59 24) else (if a1 = (4 : Int32) then (if (zS s0 59 25) = (0 : Int32) then some 0 else some 1) else some (-2000000000))))) else (gd (inB a0 120) (if (zI s0 62 (a0.toInt.toNat)) = (7 : Int32) then (if a1 = (1 : Int32) then (gd (inB a0 120) (some (zI s0 74 (a0.toInt.toNat)))) else (if a1 = (2 : Int32) then (gd (inB a0 120) (some (zI s0 75 (a0.toInt.toNat)))) else (if a1 = (3 : Int32) then (gd (inB a0 120) (some (zI s0 76 (a0.toInt.toNat)))) else (if a1 = (4 : Int32) then (gd (inB a0 120) (if (zI s0 77 (a0.toInt.toNat)) = (0 : Int32) then some 0 else some 1)) else some (-2000000000))))) else some (-2000000000))))) else (if a1 = 1 then (gd (inB a0 120) (some (zI s0 63 (a0.toInt.toNat)))) else (if a1 = 2 then (gd (inB a0 120) (some (zI s0 64 (a0.toInt.toNat)))) else (if a1 = 3 then (gd (inB a0 120) (some (zI s0 67 (a0.toInt.toNat)))) else (if a1 = 4 then (gd (inB a0 120) (some (zI s0 65 (a0.toInt.toNat)))) else (if a1 = 5 then (gd (inB a0 120) (if (0 : Int32) < (zI s0 69 (a0.toInt.toNat)) then some 1 else some 0)) else (if a1 = 6 then (gd (inB a0 120) (some (zI s0 68 (a0.toInt.toNat)))) else (if a1 = 7 then (gd (inB a0 120) (some (zI s0 66 (a0.toInt.toNat)))) else some (-2000000000)))))))))))))
set_option maxRecDepth 4000 in
theorem t_X12_ofBody {r9 : Int32} {s0 : SS} {h0 : List aE} {a0 : Int32} {a1 : Int32} (H0 : HH s0 h0) (hf : f_X12_ofBody s0 a0 a1 = some r9) : AM mX12_ofBody (3) [.ref 67, .int a0, .int a1] h0 0 0 (PI fun r' h' => r9 = r' ∧ h0 = h') := by
  unfold f_X12_ofBody at hf
  refine am_of (lv := [some (.ref 67), some (.int a0), some (.int a1)]) rfl (Nat.le_of_ble_eq_true rfl) rfl ?_
  refine aw_aload_n (pc' := 1) dX12_ofBody_0 rfl rfl rfl ?_
  refine aw_iload_n (pc' := 2) dX12_ofBody_1 rfl rfl ?_
  obtain ⟨r1, ec1, hf⟩ := b1_e hf
  refine aw_callVi (M' := mX12_isBody) (nc' := 0) (ns' := 0) (pc' := 5) dX12_ofBody_2 rfl ml_RX12_245 kX12_isBody (t_X12_isBody H0 ec1) (H0.ob (H0.fo rfl rfl) (by decide)) rfl rfl rfl (Nat.le_of_ble_eq_true rfl) (rokD (by omega) (Nat.le_of_ble_eq_true rfl) (Nat.le_of_ble_eq_true rfl) (Nat.le_of_ble_eq_true rfl)) rfl rfl (fun _ h1 q1 => ?_)
  obtain ⟨rfl, rfl, zb1⟩ := q1
  refine aw_if_ne (tgt := 12) (pc' := 8) dX12_ofBody_5 rfl rfl (fun c2 => ?_) (fun c2 => ?_)
  · replace hf := ifn c2 hf
    refine aw_iload_n (pc' := 13) dX12_ofBody_12 rfl rfl ?_
    refine aw_if_ne (tgt := 23) (pc' := 16) dX12_ofBody_13 rfl rfl (fun c3 => ?_) (fun c3 => ?_)
    · replace hf := ifn c3 hf
      refine aw_aload_n (pc' := 24) dX12_ofBody_23 rfl rfl rfl ?_
      refine aw_iload_n (pc' := 25) dX12_ofBody_24 rfl rfl ?_
      obtain ⟨r4, ec4, hf⟩ := b1_e hf
      refine aw_callVi (M' := mX12_isHole) (nc' := 0) (ns' := 0) (pc' := 28) dX12_ofBody_25 rfl ml_RX12_268 kX12_isHole (t_X12_isHole H0 ec4) (H0.ob (H0.fo rfl rfl) (by decide)) rfl rfl rfl (Nat.le_of_ble_eq_true rfl) (rokD (by omega) (Nat.le_of_ble_eq_true rfl) (Nat.le_of_ble_eq_true rfl) (Nat.le_of_ble_eq_true rfl)) rfl rfl (fun _ h4 q4 => ?_)
      obtain ⟨rfl, rfl, zb4⟩ := q4
      refine aw_if_eq (tgt := 137) (pc' := 31) dX12_ofBody_28 rfl rfl (fun c5 => ?_) (fun c5 => ?_)
      · replace hf := ifp c5 hf
        refine aw_aload_n (pc' := 138) dX12_ofBody_137 rfl rfl rfl ?_
        refine aw_gr (q := 59) (e := 7) (v := .ref 70) (pc' := 141) H0 (H0.fo rfl rfl) (l13 rfl) rfl rfl dX12_ofBody_138 rfl fl_RX12_17 ?_
        refine aw_iload_n (pc' := 142) dX12_ofBody_141 rfl rfl ?_
        obtain ⟨g6, hf⟩ := gd_e hf
        refine aw_ia (q := 62) (pc' := 143) H0 (H0.fa rfl rfl rfl) g6 dX12_ofBody_142 rfl ?_
        refine aw_bipush (v := 6) (pc' := 145) dX12_ofBody_143 rfl bp_6 ?_
        refine aw_icmp_ne (tgt := 208) (pc' := 148) dX12_ofBody_145 rfl rfl (fun c7 => ?_) (fun c7 => ?_)
        · replace hf := ifn c7 hf
          refine aw_aload_n (pc' := 209) dX12_ofBody_208 rfl rfl rfl ?_
          refine aw_gr (q := 59) (e := 7) (v := .ref 70) (pc' := 212) H0 (H0.fo rfl rfl) (l13 rfl) rfl rfl dX12_ofBody_209 rfl fl_RX12_17 ?_
          refine aw_iload_n (pc' := 213) dX12_ofBody_212 rfl rfl ?_
          obtain ⟨g8, hf⟩ := gd_e hf
          refine aw_ia (q := 62) (pc' := 214) H0 (H0.fa rfl rfl rfl) g8 dX12_ofBody_213 rfl ?_
          refine aw_bipush (v := 7) (pc' := 216) dX12_ofBody_214 rfl bp_7 ?_
          refine aw_icmp_eq (tgt := 223) (pc' := 219) dX12_ofBody_216 rfl rfl (fun c10 => ?_) (fun c10 => ?_)
          · replace hf := ifp c10 hf
            refine aw_iload_n (pc' := 224) dX12_ofBody_223 rfl rfl ?_
            refine aw_iconst (v := 1) (pc' := 225) dX12_ofBody_224 rfl ic_1 ?_
            refine aw_icmp_ne (tgt := 237) (pc' := 228) dX12_ofBody_225 rfl rfl (fun c11 => ?_) (fun c11 => ?_)
            · replace hf := ifn c11 hf
              refine aw_iload_n (pc' := 238) dX12_ofBody_237 rfl rfl ?_
              refine aw_iconst (v := 2) (pc' := 239) dX12_ofBody_238 rfl ic_2 ?_
              refine aw_icmp_ne (tgt := 251) (pc' := 242) dX12_ofBody_239 rfl rfl (fun c12 => ?_) (fun c12 => ?_)
              · replace hf := ifn c12 hf
                refine aw_iload_n (pc' := 252) dX12_ofBody_251 rfl rfl ?_
                refine aw_iconst (v := 3) (pc' := 253) dX12_ofBody_252 rfl ic_3 ?_
                refine aw_icmp_ne (tgt := 265) (pc' := 256) dX12_ofBody_253 rfl rfl (fun c13 => ?_) (fun c13 => ?_)
                · replace hf := ifn c13 hf
                  refine aw_iload_n (pc' := 266) dX12_ofBody_265 rfl rfl ?_
                  refine aw_iconst (v := 4) (pc' := 267) dX12_ofBody_266 rfl ic_4 ?_
                  refine aw_icmp_ne (tgt := 287) (pc' := 270) dX12_ofBody_267 rfl rfl (fun c14 => ?_) (fun c14 => ?_)
                  · replace hf := ifn c14 hf
                    refine aw_ldcw (pc' := 290) dX12_ofBody_287 rfl ct_RX12_267 ?_
                    obtain rfl := Option.some.inj hf
                    exact aw_ri dX12_ofBody_290 rfl rfl (Nat.le_of_ble_eq_true rfl) (Nat.le_of_ble_eq_true rfl) ⟨rfl, rfl⟩
                  · replace hf := ifp c14 hf
                    refine aw_aload_n (pc' := 271) dX12_ofBody_270 rfl rfl rfl ?_
                    refine aw_gr (q := 59) (e := 37) (v := .ref 85) (pc' := 274) H0 (H0.fo rfl rfl) (l13 rfl) rfl rfl dX12_ofBody_271 rfl fl_RX12_62 ?_
                    refine aw_iload_n (pc' := 275) dX12_ofBody_274 rfl rfl ?_
                    obtain ⟨g15, hf⟩ := gd_e hf
                    refine aw_za (q := 77) (pc' := 276) H0 (H0.fa rfl rfl rfl) g15 dX12_ofBody_275 rfl ?_
                    refine aw_if_eq (tgt := 283) (pc' := 279) dX12_ofBody_276 rfl rfl (fun c16 => ?_) (fun c16 => ?_)
                    · replace hf := ifp c16 hf
                      refine aw_iconst (v := 0) (pc' := 284) dX12_ofBody_283 rfl ic_0 ?_
                      refine aw_goto (tgt := 290) dX12_ofBody_284 rfl ?_
                      obtain rfl := Option.some.inj hf
                      exact aw_ri dX12_ofBody_290 rfl rfl (Nat.le_of_ble_eq_true rfl) (Nat.le_of_ble_eq_true rfl) ⟨rfl, rfl⟩
                    · replace hf := ifn c16 hf
                      refine aw_iconst (v := 1) (pc' := 280) dX12_ofBody_279 rfl ic_1 ?_
                      refine aw_goto (tgt := 290) dX12_ofBody_280 rfl ?_
                      obtain rfl := Option.some.inj hf
                      exact aw_ri dX12_ofBody_290 rfl rfl (Nat.le_of_ble_eq_true rfl) (Nat.le_of_ble_eq_true rfl) ⟨rfl, rfl⟩
                · replace hf := ifp c13 hf
                  refine aw_aload_n (pc' := 257) dX12_ofBody_256 rfl rfl rfl ?_
                  refine aw_gr (q := 59) (e := 35) (v := .ref 84) (pc' := 260) H0 (H0.fo rfl rfl) (l13 rfl) rfl rfl dX12_ofBody_257 rfl fl_RX12_59 ?_
                  refine aw_iload_n (pc' := 261) dX12_ofBody_260 rfl rfl ?_
                  obtain ⟨g17, hf⟩ := gd_e hf
                  refine aw_ia (q := 76) (pc' := 262) H0 (H0.fa rfl rfl rfl) g17 dX12_ofBody_261 rfl ?_
                  refine aw_goto (tgt := 290) dX12_ofBody_262 rfl ?_
                  obtain rfl := Option.some.inj hf
                  exact aw_ri dX12_ofBody_290 rfl rfl (Nat.le_of_ble_eq_true rfl) (Nat.le_of_ble_eq_true rfl) ⟨rfl, rfl⟩
              · replace hf := ifp c12 hf
                refine aw_aload_n (pc' := 243) dX12_ofBody_242 rfl rfl rfl ?_
                refine aw_gr (q := 59) (e := 33) (v := .ref 83) (pc' := 246) H0 (H0.fo rfl rfl) (l13 rfl) rfl rfl dX12_ofBody_243 rfl fl_RX12_56 ?_
                refine aw_iload_n (pc' := 247) dX12_ofBody_246 rfl rfl ?_
                obtain ⟨g18, hf⟩ := gd_e hf
                refine aw_ia (q := 75) (pc' := 248) H0 (H0.fa rfl rfl rfl) g18 dX12_ofBody_247 rfl ?_
                refine aw_goto (tgt := 290) dX12_ofBody_248 rfl ?_
                obtain rfl := Option.some.inj hf
                exact aw_ri dX12_ofBody_290 rfl rfl (Nat.le_of_ble_eq_true rfl) (Nat.le_of_ble_eq_true rfl) ⟨rfl, rfl⟩
            · replace hf := ifp c11 hf
              refine aw_aload_n (pc' := 229) dX12_ofBody_228 rfl rfl rfl ?_
              refine aw_gr (q := 59) (e := 31) (v := .ref 82) (pc' := 232) H0 (H0.fo rfl rfl) (l13 rfl) rfl rfl dX12_ofBody_229 rfl fl_RX12_53 ?_
              refine aw_iload_n (pc' := 233) dX12_ofBody_232 rfl rfl ?_
              obtain ⟨g19, hf⟩ := gd_e hf
              refine aw_ia (q := 74) (pc' := 234) H0 (H0.fa rfl rfl rfl) g19 dX12_ofBody_233 rfl ?_
              refine aw_goto (tgt := 290) dX12_ofBody_234 rfl ?_
              obtain rfl := Option.some.inj hf
              exact aw_ri dX12_ofBody_290 rfl rfl (Nat.le_of_ble_eq_true rfl) (Nat.le_of_ble_eq_true rfl) ⟨rfl, rfl⟩
          · replace hf := ifn c10 hf
            refine aw_ldcw (pc' := 222) dX12_ofBody_219 rfl ct_RX12_267 ?_
            obtain rfl := Option.some.inj hf
            exact aw_ri dX12_ofBody_222 rfl rfl (Nat.le_of_ble_eq_true rfl) (Nat.le_of_ble_eq_true rfl) ⟨rfl, rfl⟩
        · replace hf := ifp c7 hf
          refine aw_iload_n (pc' := 149) dX12_ofBody_148 rfl rfl ?_
          refine aw_iconst (v := 1) (pc' := 150) dX12_ofBody_149 rfl ic_1 ?_
          refine aw_icmp_ne (tgt := 160) (pc' := 153) dX12_ofBody_150 rfl rfl (fun c20 => ?_) (fun c20 => ?_)
          · replace hf := ifn c20 hf
            refine aw_iload_n (pc' := 161) dX12_ofBody_160 rfl rfl ?_
            refine aw_iconst (v := 2) (pc' := 162) dX12_ofBody_161 rfl ic_2 ?_
            refine aw_icmp_ne (tgt := 172) (pc' := 165) dX12_ofBody_162 rfl rfl (fun c21 => ?_) (fun c21 => ?_)
            · replace hf := ifn c21 hf
              refine aw_iload_n (pc' := 173) dX12_ofBody_172 rfl rfl ?_
              refine aw_iconst (v := 3) (pc' := 174) dX12_ofBody_173 rfl ic_3 ?_
              refine aw_icmp_ne (tgt := 184) (pc' := 177) dX12_ofBody_174 rfl rfl (fun c22 => ?_) (fun c22 => ?_)
              · replace hf := ifn c22 hf
                refine aw_iload_n (pc' := 185) dX12_ofBody_184 rfl rfl ?_
                refine aw_iconst (v := 4) (pc' := 186) dX12_ofBody_185 rfl ic_4 ?_
                refine aw_icmp_ne (tgt := 204) (pc' := 189) dX12_ofBody_186 rfl rfl (fun c23 => ?_) (fun c23 => ?_)
                · replace hf := ifn c23 hf
                  refine aw_ldcw (pc' := 207) dX12_ofBody_204 rfl ct_RX12_267 ?_
                  obtain rfl := Option.some.inj hf
                  exact aw_ri dX12_ofBody_207 rfl rfl (Nat.le_of_ble_eq_true rfl) (Nat.le_of_ble_eq_true rfl) ⟨rfl, rfl⟩
                · replace hf := ifp c23 hf
                  refine aw_aload_n (pc' := 190) dX12_ofBody_189 rfl rfl rfl ?_
                  refine aw_gi (q := 59) (pc' := 193) H0 (H0.fo rfl rfl) (l13 rfl) rfl dX12_ofBody_190 rfl fl_RX12_271 ?_
                  refine aw_if_eq (tgt := 200) (pc' := 196) dX12_ofBody_193 rfl rfl (fun c24 => ?_) (fun c24 => ?_)
                  · replace hf := ifp c24 hf
                    refine aw_iconst (v := 0) (pc' := 201) dX12_ofBody_200 rfl ic_0 ?_
                    refine aw_goto (tgt := 207) dX12_ofBody_201 rfl ?_
                    obtain rfl := Option.some.inj hf
                    exact aw_ri dX12_ofBody_207 rfl rfl (Nat.le_of_ble_eq_true rfl) (Nat.le_of_ble_eq_true rfl) ⟨rfl, rfl⟩
                  · replace hf := ifn c24 hf
                    refine aw_iconst (v := 1) (pc' := 197) dX12_ofBody_196 rfl ic_1 ?_
                    refine aw_goto (tgt := 207) dX12_ofBody_197 rfl ?_
                    obtain rfl := Option.some.inj hf
                    exact aw_ri dX12_ofBody_207 rfl rfl (Nat.le_of_ble_eq_true rfl) (Nat.le_of_ble_eq_true rfl) ⟨rfl, rfl⟩
              · replace hf := ifp c22 hf
                refine aw_aload_n (pc' := 178) dX12_ofBody_177 rfl rfl rfl ?_
                refine aw_gi (q := 59) (pc' := 181) H0 (H0.fo rfl rfl) (l13 rfl) rfl dX12_ofBody_178 rfl fl_RX12_264 ?_
                refine aw_goto (tgt := 207) dX12_ofBody_181 rfl ?_
                obtain rfl := Option.some.inj hf
                exact aw_ri dX12_ofBody_207 rfl rfl (Nat.le_of_ble_eq_true rfl) (Nat.le_of_ble_eq_true rfl) ⟨rfl, rfl⟩
            · replace hf := ifp c21 hf
              refine aw_aload_n (pc' := 166) dX12_ofBody_165 rfl rfl rfl ?_
              refine aw_gi (q := 59) (pc' := 169) H0 (H0.fo rfl rfl) (l13 rfl) rfl dX12_ofBody_166 rfl fl_RX12_261 ?_
              refine aw_goto (tgt := 207) dX12_ofBody_169 rfl ?_
              obtain rfl := Option.some.inj hf
              exact aw_ri dX12_ofBody_207 rfl rfl (Nat.le_of_ble_eq_true rfl) (Nat.le_of_ble_eq_true rfl) ⟨rfl, rfl⟩
          · replace hf := ifp c20 hf
            refine aw_aload_n (pc' := 154) dX12_ofBody_153 rfl rfl rfl ?_
            refine aw_gi (q := 59) (pc' := 157) H0 (H0.fo rfl rfl) (l13 rfl) rfl dX12_ofBody_154 rfl fl_RX12_258 ?_
            refine aw_goto (tgt := 207) dX12_ofBody_157 rfl ?_
            obtain rfl := Option.some.inj hf
            exact aw_ri dX12_ofBody_207 rfl rfl (Nat.le_of_ble_eq_true rfl) (Nat.le_of_ble_eq_true rfl) ⟨rfl, rfl⟩
      · replace hf := ifn c5 hf
        refine aw_iload_n (pc' := 32) dX12_ofBody_31 rfl rfl ?_
        rcases Decidable.em (a1 = 1) with c25 | c25
        · replace hf := ifp c25 hf
          refine aw_tabIn (tgt := 76) (off := 44) dX12_ofBody_32 (by rw [c25]; decide) (by rw [c25]; decide) (by rw [c25]; decide) (by decide) ?_
          refine aw_aload_n (pc' := 77) dX12_ofBody_76 rfl rfl rfl ?_
          refine aw_gr (q := 59) (e := 9) (v := .ref 71) (pc' := 80) H0 (H0.fo rfl rfl) (l13 rfl) rfl rfl dX12_ofBody_77 rfl fl_RX12_20 ?_
          refine aw_iload_n (pc' := 81) dX12_ofBody_80 rfl rfl ?_
          obtain ⟨g26, hf⟩ := gd_e hf
          refine aw_ia (q := 63) (pc' := 82) H0 (H0.fa rfl rfl rfl) g26 dX12_ofBody_81 rfl ?_
          obtain rfl := Option.some.inj hf
          exact aw_ri dX12_ofBody_82 rfl rfl (Nat.le_of_ble_eq_true rfl) (Nat.le_of_ble_eq_true rfl) ⟨rfl, rfl⟩
        replace hf := ifn c25 hf
        rcases Decidable.em (a1 = 2) with c27 | c27
        · replace hf := ifp c27 hf
          refine aw_tabIn (tgt := 83) (off := 51) dX12_ofBody_32 (by rw [c27]; decide) (by rw [c27]; decide) (by rw [c27]; decide) (by decide) ?_
          refine aw_aload_n (pc' := 84) dX12_ofBody_83 rfl rfl rfl ?_
          refine aw_gr (q := 59) (e := 11) (v := .ref 72) (pc' := 87) H0 (H0.fo rfl rfl) (l13 rfl) rfl rfl dX12_ofBody_84 rfl fl_RX12_23 ?_
          refine aw_iload_n (pc' := 88) dX12_ofBody_87 rfl rfl ?_
          obtain ⟨g28, hf⟩ := gd_e hf
          refine aw_ia (q := 64) (pc' := 89) H0 (H0.fa rfl rfl rfl) g28 dX12_ofBody_88 rfl ?_
          obtain rfl := Option.some.inj hf
          exact aw_ri dX12_ofBody_89 rfl rfl (Nat.le_of_ble_eq_true rfl) (Nat.le_of_ble_eq_true rfl) ⟨rfl, rfl⟩
        replace hf := ifn c27 hf
        rcases Decidable.em (a1 = 3) with c29 | c29
        · replace hf := ifp c29 hf
          refine aw_tabIn (tgt := 90) (off := 58) dX12_ofBody_32 (by rw [c29]; decide) (by rw [c29]; decide) (by rw [c29]; decide) (by decide) ?_
          refine aw_aload_n (pc' := 91) dX12_ofBody_90 rfl rfl rfl ?_
          refine aw_gr (q := 59) (e := 17) (v := .ref 75) (pc' := 94) H0 (H0.fo rfl rfl) (l13 rfl) rfl rfl dX12_ofBody_91 rfl fl_RX12_32 ?_
          refine aw_iload_n (pc' := 95) dX12_ofBody_94 rfl rfl ?_
          obtain ⟨g30, hf⟩ := gd_e hf
          refine aw_ia (q := 67) (pc' := 96) H0 (H0.fa rfl rfl rfl) g30 dX12_ofBody_95 rfl ?_
          obtain rfl := Option.some.inj hf
          exact aw_ri dX12_ofBody_96 rfl rfl (Nat.le_of_ble_eq_true rfl) (Nat.le_of_ble_eq_true rfl) ⟨rfl, rfl⟩
        replace hf := ifn c29 hf
        rcases Decidable.em (a1 = 4) with c31 | c31
        · replace hf := ifp c31 hf
          refine aw_tabIn (tgt := 97) (off := 65) dX12_ofBody_32 (by rw [c31]; decide) (by rw [c31]; decide) (by rw [c31]; decide) (by decide) ?_
          refine aw_aload_n (pc' := 98) dX12_ofBody_97 rfl rfl rfl ?_
          refine aw_gr (q := 59) (e := 13) (v := .ref 73) (pc' := 101) H0 (H0.fo rfl rfl) (l13 rfl) rfl rfl dX12_ofBody_98 rfl fl_RX12_26 ?_
          refine aw_iload_n (pc' := 102) dX12_ofBody_101 rfl rfl ?_
          obtain ⟨g32, hf⟩ := gd_e hf
          refine aw_ia (q := 65) (pc' := 103) H0 (H0.fa rfl rfl rfl) g32 dX12_ofBody_102 rfl ?_
          obtain rfl := Option.some.inj hf
          exact aw_ri dX12_ofBody_103 rfl rfl (Nat.le_of_ble_eq_true rfl) (Nat.le_of_ble_eq_true rfl) ⟨rfl, rfl⟩
        replace hf := ifn c31 hf
        rcases Decidable.em (a1 = 5) with c33 | c33
        · replace hf := ifp c33 hf
          refine aw_tabIn (tgt := 104) (off := 72) dX12_ofBody_32 (by rw [c33]; decide) (by rw [c33]; decide) (by rw [c33]; decide) (by decide) ?_
          refine aw_aload_n (pc' := 105) dX12_ofBody_104 rfl rfl rfl ?_
          refine aw_gr (q := 59) (e := 21) (v := .ref 77) (pc' := 108) H0 (H0.fo rfl rfl) (l13 rfl) rfl rfl dX12_ofBody_105 rfl fl_RX12_38 ?_
          refine aw_iload_n (pc' := 109) dX12_ofBody_108 rfl rfl ?_
          obtain ⟨g34, hf⟩ := gd_e hf
          refine aw_ia (q := 69) (pc' := 110) H0 (H0.fa rfl rfl rfl) g34 dX12_ofBody_109 rfl ?_
          refine aw_zle (tgt := 117) (pc' := 113) dX12_ofBody_110 rfl rfl (fun c35 => ?_) (fun c35 => ?_)
          · replace hf := ifn c35 hf
            refine aw_iconst (v := 0) (pc' := 118) dX12_ofBody_117 rfl ic_0 ?_
            obtain rfl := Option.some.inj hf
            exact aw_ri dX12_ofBody_118 rfl rfl (Nat.le_of_ble_eq_true rfl) (Nat.le_of_ble_eq_true rfl) ⟨rfl, rfl⟩
          · replace hf := ifp c35 hf
            refine aw_iconst (v := 1) (pc' := 114) dX12_ofBody_113 rfl ic_1 ?_
            refine aw_goto (tgt := 118) dX12_ofBody_114 rfl ?_
            obtain rfl := Option.some.inj hf
            exact aw_ri dX12_ofBody_118 rfl rfl (Nat.le_of_ble_eq_true rfl) (Nat.le_of_ble_eq_true rfl) ⟨rfl, rfl⟩
        replace hf := ifn c33 hf
        rcases Decidable.em (a1 = 6) with c36 | c36
        · replace hf := ifp c36 hf
          refine aw_tabIn (tgt := 119) (off := 87) dX12_ofBody_32 (by rw [c36]; decide) (by rw [c36]; decide) (by rw [c36]; decide) (by decide) ?_
          refine aw_aload_n (pc' := 120) dX12_ofBody_119 rfl rfl rfl ?_
          refine aw_gr (q := 59) (e := 19) (v := .ref 76) (pc' := 123) H0 (H0.fo rfl rfl) (l13 rfl) rfl rfl dX12_ofBody_120 rfl fl_RX12_35 ?_
          refine aw_iload_n (pc' := 124) dX12_ofBody_123 rfl rfl ?_
          obtain ⟨g37, hf⟩ := gd_e hf
          refine aw_ia (q := 68) (pc' := 125) H0 (H0.fa rfl rfl rfl) g37 dX12_ofBody_124 rfl ?_
          obtain rfl := Option.some.inj hf
          exact aw_ri dX12_ofBody_125 rfl rfl (Nat.le_of_ble_eq_true rfl) (Nat.le_of_ble_eq_true rfl) ⟨rfl, rfl⟩
        replace hf := ifn c36 hf
        rcases Decidable.em (a1 = 7) with c38 | c38
        · replace hf := ifp c38 hf
          refine aw_tabIn (tgt := 126) (off := 94) dX12_ofBody_32 (by rw [c38]; decide) (by rw [c38]; decide) (by rw [c38]; decide) (by decide) ?_
          refine aw_aload_n (pc' := 127) dX12_ofBody_126 rfl rfl rfl ?_
          refine aw_gr (q := 59) (e := 15) (v := .ref 74) (pc' := 130) H0 (H0.fo rfl rfl) (l13 rfl) rfl rfl dX12_ofBody_127 rfl fl_RX12_29 ?_
          refine aw_iload_n (pc' := 131) dX12_ofBody_130 rfl rfl ?_
          obtain ⟨g39, hf⟩ := gd_e hf
          refine aw_ia (q := 66) (pc' := 132) H0 (H0.fa rfl rfl rfl) g39 dX12_ofBody_131 rfl ?_
          obtain rfl := Option.some.inj hf
          exact aw_ri dX12_ofBody_132 rfl rfl (Nat.le_of_ble_eq_true rfl) (Nat.le_of_ble_eq_true rfl) ⟨rfl, rfl⟩
        replace hf := ifn c38 hf
        refine aw_tabOut (tgt := 133) dX12_ofBody_32 (by have a0 := tneK (K := 1) (by decide) c25; have a1 := tneK (K := 2) (by decide) c27; have a2 := tneK (K := 3) (by decide) c29; have a3 := tneK (K := 4) (by decide) c31; have a4 := tneK (K := 5) (by decide) c33; have a5 := tneK (K := 6) (by decide) c36; have a6 := tneK (K := 7) (by decide) c38; omega) (by decide) ?_
        refine aw_ldcw (pc' := 136) dX12_ofBody_133 rfl ct_RX12_267 ?_
        obtain rfl := Option.some.inj hf
        exact aw_ri dX12_ofBody_136 rfl rfl (Nat.le_of_ble_eq_true rfl) (Nat.le_of_ble_eq_true rfl) ⟨rfl, rfl⟩
    · replace hf := ifp c3 hf
      refine aw_aload_n (pc' := 17) dX12_ofBody_16 rfl rfl rfl ?_
      refine aw_gr (q := 59) (e := 7) (v := .ref 70) (pc' := 20) H0 (H0.fo rfl rfl) (l13 rfl) rfl rfl dX12_ofBody_17 rfl fl_RX12_17 ?_
      refine aw_iload_n (pc' := 21) dX12_ofBody_20 rfl rfl ?_
      obtain ⟨g40, hf⟩ := gd_e hf
      refine aw_ia (q := 62) (pc' := 22) H0 (H0.fa rfl rfl rfl) g40 dX12_ofBody_21 rfl ?_
      obtain rfl := Option.some.inj hf
      exact aw_ri dX12_ofBody_22 rfl rfl (Nat.le_of_ble_eq_true rfl) (Nat.le_of_ble_eq_true rfl) ⟨rfl, rfl⟩
  · replace hf := ifp c2 hf
    refine aw_ldcw (pc' := 11) dX12_ofBody_8 rfl ct_RX12_267 ?_
    obtain rfl := Option.some.inj hf
    exact aw_ri dX12_ofBody_11 rfl rfl (Nat.le_of_ble_eq_true rfl) (Nat.le_of_ble_eq_true rfl) ⟨rfl, rfl⟩
/-! ThirtyThreeBelowModel.ill -/
noncomputable def f_X12_ill (s0 : SS) (a0 : Int32) (a1 : Int32) : Option (Int32 × SS) := (b1 (f_X12_isMan s0 a0) fun r1 => (if r1 = (0 : Int32) then some ((-1), s0) else (b1 (f_X12_in a1 (0 : Int32) (9 : Int32)) fun r3 => (if r3 = (0 : Int32) then some ((-1), s0) else (gd (inB a0 120) (vl ((zI s0 76 (a0.toInt.toNat))) fun v6 => (gd (inB a0 120) (st (pI s0 76 (a0.toInt.toNat) a1) fun s8 => some (v6, s8)))))))))
set_option maxRecDepth 4000 in
theorem t_X12_ill {r9 : Int32} {s0 s9 : SS} {h0 : List aE} {a0 : Int32} {a1 : Int32} (H0 : HH s0 h0) (hf : f_X12_ill s0 a0 a1 = some (r9, s9)) : AM mX12_ill (3) [.ref 67, .int a0, .int a1] h0 0 0 (PI fun r' h' => r9 = r' ∧ HH s9 h' ∧ Mo s0 s9) := by
  unfold f_X12_ill at hf
  refine am_of (lv := [some (.ref 67), some (.int a0), some (.int a1), none]) rfl (Nat.le_of_ble_eq_true rfl) rfl ?_
  refine aw_aload_n (pc' := 1) dX12_ill_0 rfl rfl rfl ?_
  refine aw_iload_n (pc' := 2) dX12_ill_1 rfl rfl ?_
  obtain ⟨r1, ec1, hf⟩ := b1_e hf
  refine aw_callVi (M' := mX12_isMan) (nc' := 0) (ns' := 0) (pc' := 5) dX12_ill_2 rfl ml_RX12_275 kX12_isMan (t_X12_isMan H0 ec1) (H0.ob (H0.fo rfl rfl) (by decide)) rfl rfl rfl (Nat.le_of_ble_eq_true rfl) (rokD (by omega) (Nat.le_of_ble_eq_true rfl) (Nat.le_of_ble_eq_true rfl) (Nat.le_of_ble_eq_true rfl)) rfl rfl (fun _ h1 q1 => ?_)
  obtain ⟨rfl, rfl, zb1⟩ := q1
  refine aw_if_eq (tgt := 18) (pc' := 8) dX12_ill_5 rfl rfl (fun c2 => ?_) (fun c2 => ?_)
  · replace hf := ifp c2 hf
    refine aw_iconst (v := (-1)) (pc' := 19) dX12_ill_18 rfl ic_m1 ?_
    obtain ⟨rfl, rfl⟩ := so2 hf
    exact aw_ri dX12_ill_19 rfl rfl (Nat.le_of_ble_eq_true rfl) (Nat.le_of_ble_eq_true rfl) ⟨rfl, H0, (Mo.rf _)⟩
  · replace hf := ifn c2 hf
    refine aw_iload_n (pc' := 9) dX12_ill_8 rfl rfl ?_
    refine aw_iconst (v := 0) (pc' := 10) dX12_ill_9 rfl ic_0 ?_
    refine aw_bipush (v := 9) (pc' := 12) dX12_ill_10 rfl bp_9 ?_
    obtain ⟨r3, ec3, hf⟩ := b1_e hf
    refine aw_callSi (M' := mX12_in) (nc' := 0) (ns' := 0) (pc' := 15) dX12_ill_12 rfl ml_RX12_230 kX12_in (t_X12_in ec3) rfl rfl (Nat.le_of_ble_eq_true rfl) (rokD (by omega) (Nat.le_of_ble_eq_true rfl) (Nat.le_of_ble_eq_true rfl) (Nat.le_of_ble_eq_true rfl)) rfl rfl (fun _ h3 q3 => ?_)
    obtain ⟨rfl, rfl, zb3⟩ := q3
    refine aw_if_ne (tgt := 20) (pc' := 18) dX12_ill_15 rfl rfl (fun c4 => ?_) (fun c4 => ?_)
    · replace hf := ifn c4 hf
      refine aw_aload_n (pc' := 21) dX12_ill_20 rfl rfl rfl ?_
      refine aw_gr (q := 59) (e := 35) (v := .ref 84) (pc' := 24) H0 (H0.fo rfl rfl) (l13 rfl) rfl rfl dX12_ill_21 rfl fl_RX12_59 ?_
      refine aw_iload_n (pc' := 25) dX12_ill_24 rfl rfl ?_
      obtain ⟨g5, hf⟩ := gd_e hf
      refine aw_ia (q := 76) (pc' := 26) H0 (H0.fa rfl rfl rfl) g5 dX12_ill_25 rfl ?_
      obtain ⟨v6, ev6, hf⟩ := vl_e hf
      refine aw_topi ev6 ?_
      refine aw_istore_n (lv' := [_, _, _, _]) (pc' := 27) dX12_ill_26 rfl (Nat.le_of_ble_eq_true rfl) rfl ?_
      refine aw_aload_n (pc' := 28) dX12_ill_27 rfl rfl rfl ?_
      refine aw_gr (q := 59) (e := 35) (v := .ref 84) (pc' := 31) H0 (H0.fo rfl rfl) (l13 rfl) rfl rfl dX12_ill_28 rfl fl_RX12_59 ?_
      refine aw_iload_n (pc' := 32) dX12_ill_31 rfl rfl ?_
      refine aw_iload_n (pc' := 33) dX12_ill_32 rfl rfl ?_
      obtain ⟨g7, hf⟩ := gd_e hf
      obtain ⟨s8, es8, hf⟩ := st_e hf
      refine aw_is (q := 76) (pc' := 34) es8 H0 (H0.fa rfl rfl rfl) g7 dX12_ill_33 rfl (fun h8 H8 => ?_)
      have m8 := Mo.ofI es8
      refine aw_iload_n (pc' := 35) dX12_ill_34 rfl rfl ?_
      obtain ⟨rfl, rfl⟩ := so2 hf
      exact aw_ri dX12_ill_35 rfl rfl (Nat.le_of_ble_eq_true rfl) (Nat.le_of_ble_eq_true rfl) ⟨rfl, H8, m8⟩
    · replace hf := ifp c4 hf
      refine aw_iconst (v := (-1)) (pc' := 19) dX12_ill_18 rfl ic_m1 ?_
      obtain ⟨rfl, rfl⟩ := so2 hf
      exact aw_ri dX12_ill_19 rfl rfl (Nat.le_of_ble_eq_true rfl) (Nat.le_of_ble_eq_true rfl) ⟨rfl, H0, (Mo.rf _)⟩
/-! ThirtyThreeBelowModel.menBelow -/
noncomputable def f_X12_menBelow_L4_b (s0 : SS) (rc : Int32 → Int32 → Option Int32) (x1 : Int32) (x2 : Int32) : Option Int32 := (if x2 < (zS s0 59 4) then (gd (inB x2 120) (jn (fun (t3_0 : Int32) => (vl ((x1 + t3_0)) fun v4 => (vl (x2 + 1) fun v5 => (rc v4 v5)))) fun k3 => (if (zI s0 77 (x2.toInt.toNat)) = (0 : Int32) then (k3 0) else (k3 1)))) else some x1)
noncomputable def f_X12_menBelow_L4 (s0 : SS) : Nat → Int32 → Int32 → Option Int32
  | 0, _, _ => none
  | n + 1, x1, x2 => f_X12_menBelow_L4_b s0 (f_X12_menBelow_L4 s0 n) x1 x2
set_option maxRecDepth 4000 in
theorem t_X12_menBelow_L4 {r9 : Int32} {s0 : SS} {h0 : List aE} (H0 : HH s0 h0)  : ∀ (n : Nat) (x1 : Int32) (x2 : Int32), f_X12_menBelow_L4 s0 n x1 x2 = some r9 → AW mX12_menBelow (rmD (0) 0 0) (fin (PI fun r' h' => r9 = r' ∧ h0 = h') 0 0) 4 [some (.ref 67), some (.int x1), some (.int x2)] [] h0 0 0 := by
  intro n
  induction n with
  | zero =>
    intro x1 x2 hf
    cases hf
  | succ n ih =>
    intro x1 x2 hf
    replace hf : f_X12_menBelow_L4_b s0 (f_X12_menBelow_L4 s0 n) x1 x2 = some r9 := hf
    unfold f_X12_menBelow_L4_b at hf
    refine aw_iload_n (pc' := 5) dX12_menBelow_4 rfl rfl ?_
    refine aw_aload_n (pc' := 6) dX12_menBelow_5 rfl rfl rfl ?_
    refine aw_gi (q := 59) (pc' := 9) H0 (H0.fo rfl rfl) (l13 rfl) rfl dX12_menBelow_6 rfl fl_RX12_242 ?_
    refine aw_cge (tgt := 35) (pc' := 12) dX12_menBelow_9 rfl rfl (fun c1 => ?_) (fun c1 => ?_)
    · replace hf := ifn c1 hf
      refine aw_iload_n (pc' := 36) dX12_menBelow_35 rfl rfl ?_
      obtain rfl := Option.some.inj hf
      exact aw_ri dX12_menBelow_36 rfl rfl (Nat.le_of_ble_eq_true rfl) (Nat.le_of_ble_eq_true rfl) ⟨rfl, rfl⟩
    · replace hf := ifp c1 hf
      refine aw_iload_n (pc' := 13) dX12_menBelow_12 rfl rfl ?_
      refine aw_aload_n (pc' := 14) dX12_menBelow_13 rfl rfl rfl ?_
      refine aw_gr (q := 59) (e := 37) (v := .ref 85) (pc' := 17) H0 (H0.fo rfl rfl) (l13 rfl) rfl rfl dX12_menBelow_14 rfl fl_RX12_62 ?_
      refine aw_iload_n (pc' := 18) dX12_menBelow_17 rfl rfl ?_
      obtain ⟨g2, hf⟩ := gd_e hf
      refine aw_za (q := 77) (pc' := 19) H0 (H0.fa rfl rfl rfl) g2 dX12_menBelow_18 rfl ?_
      obtain ⟨k3, ek3, hf⟩ := jn_e hf
      have hk3 : ∀ (t3_0 : Int32), k3 t3_0 = some r9 → AW mX12_menBelow (rmD (0) 0 0) (fin (PI fun r' h' => r9 = r' ∧ h0 = h') 0 0) 27 [some (.ref 67), none, some (.int x2)] [.int t3_0, .int x1] h0 0 0 := by
        intro t3_0 hf
        subst ek3
        refine aw_iadd (pc' := 28) dX12_menBelow_27 rfl ?_
        obtain ⟨v4, ev4, hf⟩ := vl_e hf
        refine aw_topi ev4 ?_
        refine aw_istore_n (lv' := [_, _, _]) (pc' := 29) dX12_menBelow_28 rfl (Nat.le_of_ble_eq_true rfl) rfl ?_
        obtain ⟨v5, ev5, hf⟩ := vl_e hf
        refine aw_iincV (y := v5) (lv' := [_, _, _]) (pc' := 32) dX12_menBelow_29 rfl rfl (Nat.le_of_ble_eq_true rfl) ev5 rfl ?_
        refine aw_goto (tgt := 4) dX12_menBelow_32 rfl ?_
        exact ih _ _ hf
      clear ek3
      refine aw_if_eq (tgt := 26) (pc' := 22) dX12_menBelow_19 rfl rfl (fun c6 => ?_) (fun c6 => ?_)
      · replace hf := ifp c6 hf
        refine aw_iconst (v := 0) (pc' := 27) dX12_menBelow_26 rfl ic_0 ?_
        refine AW.lv_le (lz_k (lz_d (lz_k lz_0))) ?_
        exact hk3 _ hf
      · replace hf := ifn c6 hf
        refine aw_iconst (v := 1) (pc' := 23) dX12_menBelow_22 rfl ic_1 ?_
        refine aw_goto (tgt := 27) dX12_menBelow_23 rfl ?_
        refine AW.lv_le (lz_k (lz_d (lz_k lz_0))) ?_
        exact hk3 _ hf
noncomputable def f_X12_menBelow (s0 : SS)  : Option Int32 := (f_X12_menBelow_L4 s0 4000 0 0)
set_option maxRecDepth 4000 in
theorem t_X12_menBelow {r9 : Int32} {s0 : SS} {h0 : List aE}  (H0 : HH s0 h0) (hf : f_X12_menBelow s0 = some r9) : AM mX12_menBelow (0) [.ref 67] h0 0 0 (PI fun r' h' => r9 = r' ∧ h0 = h') := by
  unfold f_X12_menBelow at hf
  refine am_of (lv := [some (.ref 67), none, none]) rfl (Nat.le_of_ble_eq_true rfl) rfl ?_
  refine aw_iconst (v := 0) (pc' := 1) dX12_menBelow_0 rfl ic_0 ?_
  refine aw_istore_n (lv' := [_, _, _]) (pc' := 2) dX12_menBelow_1 rfl (Nat.le_of_ble_eq_true rfl) rfl ?_
  refine aw_iconst (v := 0) (pc' := 3) dX12_menBelow_2 rfl ic_0 ?_
  refine aw_istore_n (lv' := [_, _, _]) (pc' := 4) dX12_menBelow_3 rfl (Nat.le_of_ble_eq_true rfl) rfl ?_
  refine t_X12_menBelow_L4 H0  4000 _ _ hf
/-! ThirtyThreeBelowModel.isMachine -/
noncomputable def f_X12_isMachine (a0 : Int32) : Option Int32 := (b1 (f_X12_in a0 (0 : Int32) (2 : Int32)) fun r1 => some r1)
set_option maxRecDepth 4000 in
theorem t_X12_isMachine {r9 : Int32} {h0 : List aE} {a0 : Int32}  (hf : f_X12_isMachine a0 = some r9) : AM mX12_isMachine (1) [.int a0] h0 0 0 (PI fun r' h' => r9 = r' ∧ h0 = h' ∧ (r9 = 0 ∨ r9 = 1)) := by
  unfold f_X12_isMachine at hf
  refine am_of (lv := [some (.int a0)]) rfl (Nat.le_of_ble_eq_true rfl) rfl ?_
  refine aw_iload_n (pc' := 1) dX12_isMachine_0 rfl rfl ?_
  refine aw_iconst (v := 0) (pc' := 2) dX12_isMachine_1 rfl ic_0 ?_
  refine aw_iconst (v := 2) (pc' := 3) dX12_isMachine_2 rfl ic_2 ?_
  obtain ⟨r1, ec1, hf⟩ := b1_e hf
  refine aw_callSi (M' := mX12_in) (nc' := 0) (ns' := 0) (pc' := 6) dX12_isMachine_3 rfl ml_RX12_230 kX12_in (t_X12_in ec1) rfl rfl (Nat.le_of_ble_eq_true rfl) (rokD (by omega) (Nat.le_of_ble_eq_true rfl) (Nat.le_of_ble_eq_true rfl) (Nat.le_of_ble_eq_true rfl)) rfl rfl (fun _ h1 q1 => ?_)
  obtain ⟨rfl, rfl, zb1⟩ := q1
  obtain rfl := Option.some.inj hf
  exact aw_ri dX12_isMachine_6 rfl (nz zb1) (Nat.le_of_ble_eq_true rfl) (Nat.le_of_ble_eq_true rfl) ⟨rfl, rfl, zb1⟩
/-! ThirtyThreeBelowModel.speed -/
noncomputable def f_X12_speed (s0 : SS) (a0 : Int32) (a1 : Int32) : Option (Int32 × SS) := (b1 (f_X12_isMachine a0) fun r1 => (if r1 = (0 : Int32) then some ((-1), s0) else (b1 (f_X12_in a1 (10 : Int32) (60 : Int32)) fun r3 => (if r3 = (0 : Int32) then some ((-1), s0) else (gd (inB a0 3) (vl ((zI s0 78 (a0.toInt.toNat))) fun v6 => (gd (inB a0 3) (st (pI s0 78 (a0.toInt.toNat) a1) fun s8 => some (v6, s8)))))))))
set_option maxRecDepth 4000 in
theorem t_X12_speed {r9 : Int32} {s0 s9 : SS} {h0 : List aE} {a0 : Int32} {a1 : Int32} (H0 : HH s0 h0) (hf : f_X12_speed s0 a0 a1 = some (r9, s9)) : AM mX12_speed (2) [.ref 67, .int a0, .int a1] h0 0 0 (PI fun r' h' => r9 = r' ∧ HH s9 h' ∧ Mo s0 s9) := by
  unfold f_X12_speed at hf
  refine am_of (lv := [some (.ref 67), some (.int a0), some (.int a1), none]) rfl (Nat.le_of_ble_eq_true rfl) rfl ?_
  refine aw_iload_n (pc' := 1) dX12_speed_0 rfl rfl ?_
  obtain ⟨r1, ec1, hf⟩ := b1_e hf
  refine aw_callSi (M' := mX12_isMachine) (nc' := 0) (ns' := 0) (pc' := 4) dX12_speed_1 rfl ml_RX12_278 kX12_isMachine (t_X12_isMachine ec1) rfl rfl (Nat.le_of_ble_eq_true rfl) (rokD (by omega) (Nat.le_of_ble_eq_true rfl) (Nat.le_of_ble_eq_true rfl) (Nat.le_of_ble_eq_true rfl)) rfl rfl (fun _ h1 q1 => ?_)
  obtain ⟨rfl, rfl, zb1⟩ := q1
  refine aw_if_eq (tgt := 18) (pc' := 7) dX12_speed_4 rfl rfl (fun c2 => ?_) (fun c2 => ?_)
  · replace hf := ifp c2 hf
    refine aw_iconst (v := (-1)) (pc' := 19) dX12_speed_18 rfl ic_m1 ?_
    obtain ⟨rfl, rfl⟩ := so2 hf
    exact aw_ri dX12_speed_19 rfl rfl (Nat.le_of_ble_eq_true rfl) (Nat.le_of_ble_eq_true rfl) ⟨rfl, H0, (Mo.rf _)⟩
  · replace hf := ifn c2 hf
    refine aw_iload_n (pc' := 8) dX12_speed_7 rfl rfl ?_
    refine aw_bipush (v := 10) (pc' := 10) dX12_speed_8 rfl bp_10 ?_
    refine aw_bipush (v := 60) (pc' := 12) dX12_speed_10 rfl bp_60 ?_
    obtain ⟨r3, ec3, hf⟩ := b1_e hf
    refine aw_callSi (M' := mX12_in) (nc' := 0) (ns' := 0) (pc' := 15) dX12_speed_12 rfl ml_RX12_230 kX12_in (t_X12_in ec3) rfl rfl (Nat.le_of_ble_eq_true rfl) (rokD (by omega) (Nat.le_of_ble_eq_true rfl) (Nat.le_of_ble_eq_true rfl) (Nat.le_of_ble_eq_true rfl)) rfl rfl (fun _ h3 q3 => ?_)
    obtain ⟨rfl, rfl, zb3⟩ := q3
    refine aw_if_ne (tgt := 20) (pc' := 18) dX12_speed_15 rfl rfl (fun c4 => ?_) (fun c4 => ?_)
    · replace hf := ifn c4 hf
      refine aw_aload_n (pc' := 21) dX12_speed_20 rfl rfl rfl ?_
      refine aw_gr (q := 59) (e := 39) (v := .ref 86) (pc' := 24) H0 (H0.fo rfl rfl) (l13 rfl) rfl rfl dX12_speed_21 rfl fl_RX12_69 ?_
      refine aw_iload_n (pc' := 25) dX12_speed_24 rfl rfl ?_
      obtain ⟨g5, hf⟩ := gd_e hf
      refine aw_ia (q := 78) (pc' := 26) H0 (H0.fa rfl rfl rfl) g5 dX12_speed_25 rfl ?_
      obtain ⟨v6, ev6, hf⟩ := vl_e hf
      refine aw_topi ev6 ?_
      refine aw_istore_n (lv' := [_, _, _, _]) (pc' := 27) dX12_speed_26 rfl (Nat.le_of_ble_eq_true rfl) rfl ?_
      refine aw_aload_n (pc' := 28) dX12_speed_27 rfl rfl rfl ?_
      refine aw_gr (q := 59) (e := 39) (v := .ref 86) (pc' := 31) H0 (H0.fo rfl rfl) (l13 rfl) rfl rfl dX12_speed_28 rfl fl_RX12_69 ?_
      refine aw_iload_n (pc' := 32) dX12_speed_31 rfl rfl ?_
      refine aw_iload_n (pc' := 33) dX12_speed_32 rfl rfl ?_
      obtain ⟨g7, hf⟩ := gd_e hf
      obtain ⟨s8, es8, hf⟩ := st_e hf
      refine aw_is (q := 78) (pc' := 34) es8 H0 (H0.fa rfl rfl rfl) g7 dX12_speed_33 rfl (fun h8 H8 => ?_)
      have m8 := Mo.ofI es8
      refine aw_iload_n (pc' := 35) dX12_speed_34 rfl rfl ?_
      obtain ⟨rfl, rfl⟩ := so2 hf
      exact aw_ri dX12_speed_35 rfl rfl (Nat.le_of_ble_eq_true rfl) (Nat.le_of_ble_eq_true rfl) ⟨rfl, H8, m8⟩
    · replace hf := ifp c4 hf
      refine aw_iconst (v := (-1)) (pc' := 19) dX12_speed_18 rfl ic_m1 ?_
      obtain ⟨rfl, rfl⟩ := so2 hf
      exact aw_ri dX12_speed_19 rfl rfl (Nat.le_of_ble_eq_true rfl) (Nat.le_of_ble_eq_true rfl) ⟨rfl, H0, (Mo.rf _)⟩
/-! ThirtyThreeBelowModel.set -/
noncomputable def f_X12_set_L26_b (q0 : Option (Int32 × SS)) (sb : SS) (y1 : Int32) (y2 : Int32) (rc : Int32 → Option (Int32 × SS)) (x3 : Int32) : Option (Int32 × SS) := (if x3 < (3 : Int32) then (jn ((vl (x3 + 1) fun v6 => (rc v6))) fun k5 => (if x3 = y1 then k5 else (if y2 < (0 : Int32) then k5 else (gd (inB x3 3) (if (zI sb 79 (x3.toInt.toNat)) = y2 then some ((-2000000000), sb) else k5))))) else q0)
noncomputable def f_X12_set_L26 (q0 : Option (Int32 × SS)) (sb : SS) (y1 : Int32) (y2 : Int32) : Nat → Int32 → Option (Int32 × SS)
  | 0, _ => none
  | n + 1, x3 => f_X12_set_L26_b q0 sb y1 y2 (f_X12_set_L26 q0 sb y1 y2 n) x3
set_option maxRecDepth 4000 in
theorem t_X12_set_L26 {r9 : Int32} {s0 sb s9 : SS} {hb : List aE} {q0 : Option (Int32 × SS)} {y1 : Int32} {y2 : Int32} (Hb : HH sb hb) (mb : Mo s0 sb) (hq0 : q0 = some (r9, s9) → AW mX12_set (rmD (3) 0 0) (fin (PI fun r' h' => r9 = r' ∧ HH s9 h' ∧ Mo s0 s9) 0 0) 60 [some (.ref 67), some (.int y1), some (.int y2), none] [] hb 0 0) : ∀ (n : Nat) (x3 : Int32), f_X12_set_L26 q0 sb y1 y2 n x3 = some (r9, s9) → AW mX12_set (rmD (3) 0 0) (fin (PI fun r' h' => r9 = r' ∧ HH s9 h' ∧ Mo s0 s9) 0 0) 26 [some (.ref 67), some (.int y1), some (.int y2), some (.int x3)] [] hb 0 0 := by
  intro n
  induction n with
  | zero =>
    intro x3 hf
    cases hf
  | succ n ih =>
    intro x3 hf
    replace hf : f_X12_set_L26_b q0 sb y1 y2 (f_X12_set_L26 q0 sb y1 y2 n) x3 = some (r9, s9) := hf
    unfold f_X12_set_L26_b at hf
    refine aw_iload_n (pc' := 27) dX12_set_26 rfl rfl ?_
    refine aw_iconst (v := 3) (pc' := 28) dX12_set_27 rfl ic_3 ?_
    refine aw_cge (tgt := 60) (pc' := 31) dX12_set_28 rfl rfl (fun c4 => ?_) (fun c4 => ?_)
    · replace hf := ifn c4 hf
      refine AW.lv_le (lz_k (lz_k (lz_k (lz_d lz_0)))) ?_
      exact hq0  hf
    · replace hf := ifp c4 hf
      refine aw_iload_n (pc' := 32) dX12_set_31 rfl rfl ?_
      refine aw_iload_n (pc' := 33) dX12_set_32 rfl rfl ?_
      obtain ⟨k5, ek5, hf⟩ := jn_e hf
      have hk5 : k5 = some (r9, s9) → AW mX12_set (rmD (3) 0 0) (fin (PI fun r' h' => r9 = r' ∧ HH s9 h' ∧ Mo s0 s9) 0 0) 54 [some (.ref 67), some (.int y1), some (.int y2), some (.int x3)] [] hb 0 0 := by
        intro hf
        subst ek5
        obtain ⟨v6, ev6, hf⟩ := vl_e hf
        refine aw_iincV (y := v6) (lv' := [_, _, _, _]) (pc' := 57) dX12_set_54 rfl rfl (Nat.le_of_ble_eq_true rfl) ev6 rfl ?_
        refine aw_goto (tgt := 26) dX12_set_57 rfl ?_
        exact ih _ hf
      clear ek5
      refine aw_icmp_eq (tgt := 54) (pc' := 36) dX12_set_33 rfl rfl (fun c7 => ?_) (fun c7 => ?_)
      · replace hf := ifp c7 hf
        exact hk5  hf
      · replace hf := ifn c7 hf
        refine aw_iload_n (pc' := 37) dX12_set_36 rfl rfl ?_
        refine aw_zlt (tgt := 54) (pc' := 40) dX12_set_37 rfl rfl (fun c8 => ?_) (fun c8 => ?_)
        · replace hf := ifp c8 hf
          exact hk5  hf
        · replace hf := ifn c8 hf
          refine aw_aload_n (pc' := 41) dX12_set_40 rfl rfl rfl ?_
          refine aw_gr (q := 59) (e := 41) (v := .ref 87) (pc' := 44) Hb (Hb.fo rfl rfl) (by decide) rfl rfl dX12_set_41 rfl fl_RX12_72 ?_
          refine aw_iload_n (pc' := 45) dX12_set_44 rfl rfl ?_
          obtain ⟨g10, hf⟩ := gd_e hf
          refine aw_ia (q := 79) (pc' := 46) Hb (Hb.fa rfl rfl rfl) g10 dX12_set_45 rfl ?_
          refine aw_iload_n (pc' := 47) dX12_set_46 rfl rfl ?_
          refine aw_icmp_ne (tgt := 54) (pc' := 50) dX12_set_47 rfl rfl (fun c11 => ?_) (fun c11 => ?_)
          · replace hf := ifn c11 hf
            exact hk5  hf
          · replace hf := ifp c11 hf
            refine aw_ldcw (pc' := 53) dX12_set_50 rfl ct_RX12_267 ?_
            obtain ⟨rfl, rfl⟩ := so2 hf
            exact aw_ri dX12_set_53 rfl rfl (Nat.le_of_ble_eq_true rfl) (Nat.le_of_ble_eq_true rfl) ⟨rfl, Hb, mb⟩
noncomputable def f_X12_set (s0 : SS) (a0 : Int32) (a1 : Int32) : Option (Int32 × SS) := (b1 (f_X12_isMachine a0) fun r1 => (if r1 = (0 : Int32) then some ((-2000000000), s0) else (jn ((f_X12_set_L26 (gd (inB a0 3) (vl ((zI s0 79 (a0.toInt.toNat))) fun v14 => (gd (inB a0 3) (st (pI s0 79 (a0.toInt.toNat) a1) fun s16 => some (v14, s16))))) s0 a0 a1 4000 0)) fun k3 => (if a1 = ((-1) : Int32) then k3 else (b1 (f_X12_isHole s0 a1) fun r18 => (if r18 = (0 : Int32) then some ((-2000000000), s0) else k3))))))
set_option maxRecDepth 4000 in
theorem t_X12_set {r9 : Int32} {s0 s9 : SS} {h0 : List aE} {a0 : Int32} {a1 : Int32} (H0 : HH s0 h0) (hf : f_X12_set s0 a0 a1 = some (r9, s9)) : AM mX12_set (3) [.ref 67, .int a0, .int a1] h0 0 0 (PI fun r' h' => r9 = r' ∧ HH s9 h' ∧ Mo s0 s9) := by
  unfold f_X12_set at hf
  refine am_of (lv := [some (.ref 67), some (.int a0), some (.int a1), none]) rfl (Nat.le_of_ble_eq_true rfl) rfl ?_
  refine aw_iload_n (pc' := 1) dX12_set_0 rfl rfl ?_
  obtain ⟨r1, ec1, hf⟩ := b1_e hf
  refine aw_callSi (M' := mX12_isMachine) (nc' := 0) (ns' := 0) (pc' := 4) dX12_set_1 rfl ml_RX12_278 kX12_isMachine (t_X12_isMachine ec1) rfl rfl (Nat.le_of_ble_eq_true rfl) (rokD (by omega) (Nat.le_of_ble_eq_true rfl) (Nat.le_of_ble_eq_true rfl) (Nat.le_of_ble_eq_true rfl)) rfl rfl (fun _ h1 q1 => ?_)
  obtain ⟨rfl, rfl, zb1⟩ := q1
  refine aw_if_eq (tgt := 20) (pc' := 7) dX12_set_4 rfl rfl (fun c2 => ?_) (fun c2 => ?_)
  · replace hf := ifp c2 hf
    refine aw_ldcw (pc' := 23) dX12_set_20 rfl ct_RX12_267 ?_
    obtain ⟨rfl, rfl⟩ := so2 hf
    exact aw_ri dX12_set_23 rfl rfl (Nat.le_of_ble_eq_true rfl) (Nat.le_of_ble_eq_true rfl) ⟨rfl, H0, (Mo.rf _)⟩
  · replace hf := ifn c2 hf
    refine aw_iload_n (pc' := 8) dX12_set_7 rfl rfl ?_
    refine aw_iconst (v := (-1)) (pc' := 9) dX12_set_8 rfl ic_m1 ?_
    obtain ⟨k3, ek3, hf⟩ := jn_e hf
    have hk3 : k3 = some (r9, s9) → AW mX12_set (rmD (3) 0 0) (fin (PI fun r' h' => r9 = r' ∧ HH s9 h' ∧ Mo s0 s9) 0 0) 24 [some (.ref 67), some (.int a0), some (.int a1), none] [] h0 0 0 := by
      intro hf
      subst ek3
      refine aw_iconst (v := 0) (pc' := 25) dX12_set_24 rfl ic_0 ?_
      refine aw_istore_n (lv' := [_, _, _, _]) (pc' := 26) dX12_set_25 rfl (Nat.le_of_ble_eq_true rfl) rfl ?_
      refine t_X12_set_L26 H0 (Mo.rf _) (fun hf => ?_) 4000 _ hf
      refine aw_aload_n (pc' := 61) dX12_set_60 rfl rfl rfl ?_
      refine aw_gr (q := 59) (e := 41) (v := .ref 87) (pc' := 64) H0 (H0.fo rfl rfl) (l13 rfl) rfl rfl dX12_set_61 rfl fl_RX12_72 ?_
      refine aw_iload_n (pc' := 65) dX12_set_64 rfl rfl ?_
      obtain ⟨g13, hf⟩ := gd_e hf
      refine aw_ia (q := 79) (pc' := 66) H0 (H0.fa rfl rfl rfl) g13 dX12_set_65 rfl ?_
      obtain ⟨v14, ev14, hf⟩ := vl_e hf
      refine aw_topi ev14 ?_
      refine aw_istore_n (lv' := [_, _, _, _]) (pc' := 67) dX12_set_66 rfl (Nat.le_of_ble_eq_true rfl) rfl ?_
      refine aw_aload_n (pc' := 68) dX12_set_67 rfl rfl rfl ?_
      refine aw_gr (q := 59) (e := 41) (v := .ref 87) (pc' := 71) H0 (H0.fo rfl rfl) (l13 rfl) rfl rfl dX12_set_68 rfl fl_RX12_72 ?_
      refine aw_iload_n (pc' := 72) dX12_set_71 rfl rfl ?_
      refine aw_iload_n (pc' := 73) dX12_set_72 rfl rfl ?_
      obtain ⟨g15, hf⟩ := gd_e hf
      obtain ⟨s16, es16, hf⟩ := st_e hf
      refine aw_is (q := 79) (pc' := 74) es16 H0 (H0.fa rfl rfl rfl) g15 dX12_set_73 rfl (fun h16 H16 => ?_)
      have m16 := Mo.ofI es16
      refine aw_iload_n (pc' := 75) dX12_set_74 rfl rfl ?_
      obtain ⟨rfl, rfl⟩ := so2 hf
      exact aw_ri dX12_set_75 rfl rfl (Nat.le_of_ble_eq_true rfl) (Nat.le_of_ble_eq_true rfl) ⟨rfl, H16, m16⟩
    clear ek3
    refine aw_icmp_eq (tgt := 24) (pc' := 12) dX12_set_9 rfl rfl (fun c17 => ?_) (fun c17 => ?_)
    · replace hf := ifp c17 hf
      exact hk3  hf
    · replace hf := ifn c17 hf
      refine aw_aload_n (pc' := 13) dX12_set_12 rfl rfl rfl ?_
      refine aw_iload_n (pc' := 14) dX12_set_13 rfl rfl ?_
      obtain ⟨r18, ec18, hf⟩ := b1_e hf
      refine aw_callVi (M' := mX12_isHole) (nc' := 0) (ns' := 0) (pc' := 17) dX12_set_14 rfl ml_RX12_268 kX12_isHole (t_X12_isHole H0 ec18) (H0.ob (H0.fo rfl rfl) (by decide)) rfl rfl rfl (Nat.le_of_ble_eq_true rfl) (rokD (by omega) (Nat.le_of_ble_eq_true rfl) (Nat.le_of_ble_eq_true rfl) (Nat.le_of_ble_eq_true rfl)) rfl rfl (fun _ h18 q18 => ?_)
      obtain ⟨rfl, rfl, zb18⟩ := q18
      refine aw_if_ne (tgt := 24) (pc' := 20) dX12_set_17 rfl rfl (fun c19 => ?_) (fun c19 => ?_)
      · replace hf := ifn c19 hf
        exact hk3  hf
      · replace hf := ifp c19 hf
        refine aw_ldcw (pc' := 23) dX12_set_20 rfl ct_RX12_267 ?_
        obtain ⟨rfl, rfl⟩ := so2 hf
        exact aw_ri dX12_set_23 rfl rfl (Nat.le_of_ble_eq_true rfl) (Nat.le_of_ble_eq_true rfl) ⟨rfl, H0, (Mo.rf _)⟩
/-! ThirtyThreeBelowModel.breaks -/
noncomputable def f_X12_breaks (s0 : SS) (a0 : Int32) (a1 : Int32) : Option (Int32 × SS) := (b1 (f_X12_isMachine a0) fun r1 => (if r1 = (0 : Int32) then some ((-1), s0) else (b1 (f_X12_in a1 (zS s0 59 1) (1699 : Int32)) fun r3 => (if r3 = (0 : Int32) then some ((-1), s0) else (gd (inB a0 3) (st (pI s0 80 (a0.toInt.toNat) a1) fun s6 => some (1, s6)))))))
set_option maxRecDepth 4000 in
theorem t_X12_breaks {r9 : Int32} {s0 s9 : SS} {h0 : List aE} {a0 : Int32} {a1 : Int32} (H0 : HH s0 h0) (hf : f_X12_breaks s0 a0 a1 = some (r9, s9)) : AM mX12_breaks (2) [.ref 67, .int a0, .int a1] h0 0 0 (PI fun r' h' => r9 = r' ∧ HH s9 h' ∧ Mo s0 s9) := by
  unfold f_X12_breaks at hf
  refine am_of (lv := [some (.ref 67), some (.int a0), some (.int a1)]) rfl (Nat.le_of_ble_eq_true rfl) rfl ?_
  refine aw_iload_n (pc' := 1) dX12_breaks_0 rfl rfl ?_
  obtain ⟨r1, ec1, hf⟩ := b1_e hf
  refine aw_callSi (M' := mX12_isMachine) (nc' := 0) (ns' := 0) (pc' := 4) dX12_breaks_1 rfl ml_RX12_278 kX12_isMachine (t_X12_isMachine ec1) rfl rfl (Nat.le_of_ble_eq_true rfl) (rokD (by omega) (Nat.le_of_ble_eq_true rfl) (Nat.le_of_ble_eq_true rfl) (Nat.le_of_ble_eq_true rfl)) rfl rfl (fun _ h1 q1 => ?_)
  obtain ⟨rfl, rfl, zb1⟩ := q1
  refine aw_if_eq (tgt := 21) (pc' := 7) dX12_breaks_4 rfl rfl (fun c2 => ?_) (fun c2 => ?_)
  · replace hf := ifp c2 hf
    refine aw_iconst (v := (-1)) (pc' := 22) dX12_breaks_21 rfl ic_m1 ?_
    obtain ⟨rfl, rfl⟩ := so2 hf
    exact aw_ri dX12_breaks_22 rfl rfl (Nat.le_of_ble_eq_true rfl) (Nat.le_of_ble_eq_true rfl) ⟨rfl, H0, (Mo.rf _)⟩
  · replace hf := ifn c2 hf
    refine aw_iload_n (pc' := 8) dX12_breaks_7 rfl rfl ?_
    refine aw_aload_n (pc' := 9) dX12_breaks_8 rfl rfl rfl ?_
    refine aw_gi (q := 59) (pc' := 12) H0 (H0.fo rfl rfl) (l13 rfl) rfl dX12_breaks_9 rfl fl_RX12_281 ?_
    refine aw_sipush (v := 1699) (pc' := 15) dX12_breaks_12 rfl sp_1699 ?_
    obtain ⟨r3, ec3, hf⟩ := b1_e hf
    refine aw_callSi (M' := mX12_in) (nc' := 0) (ns' := 0) (pc' := 18) dX12_breaks_15 rfl ml_RX12_230 kX12_in (t_X12_in ec3) rfl rfl (Nat.le_of_ble_eq_true rfl) (rokD (by omega) (Nat.le_of_ble_eq_true rfl) (Nat.le_of_ble_eq_true rfl) (Nat.le_of_ble_eq_true rfl)) rfl rfl (fun _ h3 q3 => ?_)
    obtain ⟨rfl, rfl, zb3⟩ := q3
    refine aw_if_ne (tgt := 23) (pc' := 21) dX12_breaks_18 rfl rfl (fun c4 => ?_) (fun c4 => ?_)
    · replace hf := ifn c4 hf
      refine aw_aload_n (pc' := 24) dX12_breaks_23 rfl rfl rfl ?_
      refine aw_gr (q := 59) (e := 43) (v := .ref 88) (pc' := 27) H0 (H0.fo rfl rfl) (l13 rfl) rfl rfl dX12_breaks_24 rfl fl_RX12_75 ?_
      refine aw_iload_n (pc' := 28) dX12_breaks_27 rfl rfl ?_
      refine aw_iload_n (pc' := 29) dX12_breaks_28 rfl rfl ?_
      obtain ⟨g5, hf⟩ := gd_e hf
      obtain ⟨s6, es6, hf⟩ := st_e hf
      refine aw_is (q := 80) (pc' := 30) es6 H0 (H0.fa rfl rfl rfl) g5 dX12_breaks_29 rfl (fun h6 H6 => ?_)
      have m6 := Mo.ofI es6
      refine aw_iconst (v := 1) (pc' := 31) dX12_breaks_30 rfl ic_1 ?_
      obtain ⟨rfl, rfl⟩ := so2 hf
      exact aw_ri dX12_breaks_31 rfl rfl (Nat.le_of_ble_eq_true rfl) (Nat.le_of_ble_eq_true rfl) ⟨rfl, H6, m6⟩
    · replace hf := ifp c4 hf
      refine aw_iconst (v := (-1)) (pc' := 22) dX12_breaks_21 rfl ic_m1 ?_
      obtain ⟨rfl, rfl⟩ := so2 hf
      exact aw_ri dX12_breaks_22 rfl rfl (Nat.le_of_ble_eq_true rfl) (Nat.le_of_ble_eq_true rfl) ⟨rfl, H0, (Mo.rf _)⟩
/-! ThirtyThreeBelowModel.yard -/
noncomputable def f_X12_yard (s0 : SS) (a0 : Int32) (a1 : Int32) : Option (Int32 × SS) := (b1 (f_X12_isHole s0 a0) fun r1 => (if r1 = (0 : Int32) then some ((-1), s0) else (b1 (f_X12_in a1 ((-2) : Int32) (2 : Int32)) fun r3 => (if r3 = (0 : Int32) then some ((-1), s0) else (gd (inB a0 120) (if (0 : Int32) < (zI s0 69 (a0.toInt.toNat)) then some ((-2), s0) else (gd (inB a0 120) (if (zI s0 66 (a0.toInt.toNat)) = (60 : Int32) then some ((-3), s0) else (gd (inB a0 120) (vl (((zI s0 66 (a0.toInt.toNat)) + (1 : Int32))) fun v11 => (gd (inB a0 120) (st (pI s0 66 (a0.toInt.toNat) v11) fun s13 => (gd (inB a0 120) (vl ((((61 : Int32) * a0) + (zI s13 66 (a0.toInt.toNat)))) fun v15 => (gd (inB v15 7320) (st (pI s13 70 (v15.toInt.toNat) a1) fun s17 => (gd (inB a0 120) (some ((zI s17 66 (a0.toInt.toNat)), s17)))))))))))))))))))
set_option maxRecDepth 4000 in
theorem t_X12_yard {r9 : Int32} {s0 s9 : SS} {h0 : List aE} {a0 : Int32} {a1 : Int32} (H0 : HH s0 h0) (hf : f_X12_yard s0 a0 a1 = some (r9, s9)) : AM mX12_yard (3) [.ref 67, .int a0, .int a1] h0 0 0 (PI fun r' h' => r9 = r' ∧ HH s9 h' ∧ Mo s0 s9) := by
  unfold f_X12_yard at hf
  refine am_of (lv := [some (.ref 67), some (.int a0), some (.int a1)]) rfl (Nat.le_of_ble_eq_true rfl) rfl ?_
  refine aw_aload_n (pc' := 1) dX12_yard_0 rfl rfl rfl ?_
  refine aw_iload_n (pc' := 2) dX12_yard_1 rfl rfl ?_
  obtain ⟨r1, ec1, hf⟩ := b1_e hf
  refine aw_callVi (M' := mX12_isHole) (nc' := 0) (ns' := 0) (pc' := 5) dX12_yard_2 rfl ml_RX12_268 kX12_isHole (t_X12_isHole H0 ec1) (H0.ob (H0.fo rfl rfl) (by decide)) rfl rfl rfl (Nat.le_of_ble_eq_true rfl) (rokD (by omega) (Nat.le_of_ble_eq_true rfl) (Nat.le_of_ble_eq_true rfl) (Nat.le_of_ble_eq_true rfl)) rfl rfl (fun _ h1 q1 => ?_)
  obtain ⟨rfl, rfl, zb1⟩ := q1
  refine aw_if_eq (tgt := 18) (pc' := 8) dX12_yard_5 rfl rfl (fun c2 => ?_) (fun c2 => ?_)
  · replace hf := ifp c2 hf
    refine aw_iconst (v := (-1)) (pc' := 19) dX12_yard_18 rfl ic_m1 ?_
    obtain ⟨rfl, rfl⟩ := so2 hf
    exact aw_ri dX12_yard_19 rfl rfl (Nat.le_of_ble_eq_true rfl) (Nat.le_of_ble_eq_true rfl) ⟨rfl, H0, (Mo.rf _)⟩
  · replace hf := ifn c2 hf
    refine aw_iload_n (pc' := 9) dX12_yard_8 rfl rfl ?_
    refine aw_bipush (v := (-2)) (pc' := 11) dX12_yard_9 rfl bp_m2 ?_
    refine aw_iconst (v := 2) (pc' := 12) dX12_yard_11 rfl ic_2 ?_
    obtain ⟨r3, ec3, hf⟩ := b1_e hf
    refine aw_callSi (M' := mX12_in) (nc' := 0) (ns' := 0) (pc' := 15) dX12_yard_12 rfl ml_RX12_230 kX12_in (t_X12_in ec3) rfl rfl (Nat.le_of_ble_eq_true rfl) (rokD (by omega) (Nat.le_of_ble_eq_true rfl) (Nat.le_of_ble_eq_true rfl) (Nat.le_of_ble_eq_true rfl)) rfl rfl (fun _ h3 q3 => ?_)
    obtain ⟨rfl, rfl, zb3⟩ := q3
    refine aw_if_ne (tgt := 20) (pc' := 18) dX12_yard_15 rfl rfl (fun c4 => ?_) (fun c4 => ?_)
    · replace hf := ifn c4 hf
      refine aw_aload_n (pc' := 21) dX12_yard_20 rfl rfl rfl ?_
      refine aw_gr (q := 59) (e := 21) (v := .ref 77) (pc' := 24) H0 (H0.fo rfl rfl) (l13 rfl) rfl rfl dX12_yard_21 rfl fl_RX12_38 ?_
      refine aw_iload_n (pc' := 25) dX12_yard_24 rfl rfl ?_
      obtain ⟨g5, hf⟩ := gd_e hf
      refine aw_ia (q := 69) (pc' := 26) H0 (H0.fa rfl rfl rfl) g5 dX12_yard_25 rfl ?_
      refine aw_zle (tgt := 32) (pc' := 29) dX12_yard_26 rfl rfl (fun c6 => ?_) (fun c6 => ?_)
      · replace hf := ifn c6 hf
        refine aw_aload_n (pc' := 33) dX12_yard_32 rfl rfl rfl ?_
        refine aw_gr (q := 59) (e := 15) (v := .ref 74) (pc' := 36) H0 (H0.fo rfl rfl) (l13 rfl) rfl rfl dX12_yard_33 rfl fl_RX12_29 ?_
        refine aw_iload_n (pc' := 37) dX12_yard_36 rfl rfl ?_
        obtain ⟨g7, hf⟩ := gd_e hf
        refine aw_ia (q := 66) (pc' := 38) H0 (H0.fa rfl rfl rfl) g7 dX12_yard_37 rfl ?_
        refine aw_bipush (v := 60) (pc' := 40) dX12_yard_38 rfl bp_60 ?_
        refine aw_icmp_ne (tgt := 46) (pc' := 43) dX12_yard_40 rfl rfl (fun c8 => ?_) (fun c8 => ?_)
        · replace hf := ifn c8 hf
          refine aw_aload_n (pc' := 47) dX12_yard_46 rfl rfl rfl ?_
          refine aw_gr (q := 59) (e := 15) (v := .ref 74) (pc' := 50) H0 (H0.fo rfl rfl) (l13 rfl) rfl rfl dX12_yard_47 rfl fl_RX12_29 ?_
          refine aw_iload_n (pc' := 51) dX12_yard_50 rfl rfl ?_
          refine aw_dup2 (pc' := 52) dX12_yard_51 rfl rfl rfl ?_
          obtain ⟨g10, hf⟩ := gd_e hf
          refine aw_ia (q := 66) (pc' := 53) H0 (H0.fa rfl rfl rfl) g10 dX12_yard_52 rfl ?_
          refine aw_iconst (v := 1) (pc' := 54) dX12_yard_53 rfl ic_1 ?_
          refine aw_iadd (pc' := 55) dX12_yard_54 rfl ?_
          obtain ⟨v11, ev11, hf⟩ := vl_e hf
          refine aw_topi ev11 ?_
          obtain ⟨g12, hf⟩ := gd_e hf
          obtain ⟨s13, es13, hf⟩ := st_e hf
          refine aw_is (q := 66) (pc' := 56) es13 H0 (H0.fa rfl rfl rfl) g12 dX12_yard_55 rfl (fun h13 H13 => ?_)
          have m13 := Mo.ofI es13
          refine aw_aload_n (pc' := 57) dX12_yard_56 rfl rfl rfl ?_
          refine aw_gr (q := 59) (e := 23) (v := .ref 78) (pc' := 60) H13 (H13.fo rfl rfl) (l13 rfl) rfl rfl dX12_yard_57 rfl fl_RX12_41 ?_
          refine aw_bipush (v := 61) (pc' := 62) dX12_yard_60 rfl bp_61 ?_
          refine aw_iload_n (pc' := 63) dX12_yard_62 rfl rfl ?_
          refine aw_imul (pc' := 64) dX12_yard_63 rfl ?_
          refine aw_aload_n (pc' := 65) dX12_yard_64 rfl rfl rfl ?_
          refine aw_gr (q := 59) (e := 15) (v := .ref 74) (pc' := 68) H13 (H13.fo rfl rfl) (l13 rfl) rfl rfl dX12_yard_65 rfl fl_RX12_29 ?_
          refine aw_iload_n (pc' := 69) dX12_yard_68 rfl rfl ?_
          obtain ⟨g14, hf⟩ := gd_e hf
          refine aw_ia (q := 66) (pc' := 70) H13 (H13.fa rfl rfl rfl) g14 dX12_yard_69 rfl ?_
          refine aw_iadd (pc' := 71) dX12_yard_70 rfl ?_
          refine aw_iload_n (pc' := 72) dX12_yard_71 rfl rfl ?_
          obtain ⟨v15, ev15, hf⟩ := vl_e hf
          refine aw_sndi ev15 ?_
          obtain ⟨g16, hf⟩ := gd_e hf
          obtain ⟨s17, es17, hf⟩ := st_e hf
          refine aw_is (q := 70) (pc' := 73) es17 H13 (H13.fa rfl rfl rfl) g16 dX12_yard_72 rfl (fun h17 H17 => ?_)
          have m17 := Mo.ofI es17
          refine aw_aload_n (pc' := 74) dX12_yard_73 rfl rfl rfl ?_
          refine aw_gr (q := 59) (e := 15) (v := .ref 74) (pc' := 77) H17 (H17.fo rfl rfl) (l13 rfl) rfl rfl dX12_yard_74 rfl fl_RX12_29 ?_
          refine aw_iload_n (pc' := 78) dX12_yard_77 rfl rfl ?_
          obtain ⟨g18, hf⟩ := gd_e hf
          refine aw_ia (q := 66) (pc' := 79) H17 (H17.fa rfl rfl rfl) g18 dX12_yard_78 rfl ?_
          obtain ⟨rfl, rfl⟩ := so2 hf
          exact aw_ri dX12_yard_79 rfl rfl (Nat.le_of_ble_eq_true rfl) (Nat.le_of_ble_eq_true rfl) ⟨rfl, H17, (m13.tr m17)⟩
        · replace hf := ifp c8 hf
          refine aw_bipush (v := (-3)) (pc' := 45) dX12_yard_43 rfl bp_m3 ?_
          obtain ⟨rfl, rfl⟩ := so2 hf
          exact aw_ri dX12_yard_45 rfl rfl (Nat.le_of_ble_eq_true rfl) (Nat.le_of_ble_eq_true rfl) ⟨rfl, H0, (Mo.rf _)⟩
      · replace hf := ifp c6 hf
        refine aw_bipush (v := (-2)) (pc' := 31) dX12_yard_29 rfl bp_m2 ?_
        obtain ⟨rfl, rfl⟩ := so2 hf
        exact aw_ri dX12_yard_31 rfl rfl (Nat.le_of_ble_eq_true rfl) (Nat.le_of_ble_eq_true rfl) ⟨rfl, H0, (Mo.rf _)⟩
    · replace hf := ifp c4 hf
      refine aw_iconst (v := (-1)) (pc' := 19) dX12_yard_18 rfl ic_m1 ?_
      obtain ⟨rfl, rfl⟩ := so2 hf
      exact aw_ri dX12_yard_19 rfl rfl (Nat.le_of_ble_eq_true rfl) (Nat.le_of_ble_eq_true rfl) ⟨rfl, H0, (Mo.rf _)⟩
/-! ThirtyThreeBelowModel.met -/
noncomputable def f_X12_met (s0 : SS) (a0 : Int32) (a1 : Int32) : Option Int32 := (b1 (f_X12_isHole s0 a0) fun r1 => (if r1 = (0 : Int32) then some (-1) else (gd (inB a0 120) (b1 (f_X12_in a1 (1 : Int32) (zI s0 67 (a0.toInt.toNat))) fun r4 => (if r4 = (0 : Int32) then some (-1) else (vl ((((61 : Int32) * a0) + a1)) fun v6 => (gd (inB v6 7320) (some (zI s0 71 (v6.toInt.toNat))))))))))
set_option maxRecDepth 4000 in
theorem t_X12_met {r9 : Int32} {s0 : SS} {h0 : List aE} {a0 : Int32} {a1 : Int32} (H0 : HH s0 h0) (hf : f_X12_met s0 a0 a1 = some r9) : AM mX12_met (3) [.ref 67, .int a0, .int a1] h0 0 0 (PI fun r' h' => r9 = r' ∧ h0 = h') := by
  unfold f_X12_met at hf
  refine am_of (lv := [some (.ref 67), some (.int a0), some (.int a1)]) rfl (Nat.le_of_ble_eq_true rfl) rfl ?_
  refine aw_aload_n (pc' := 1) dX12_met_0 rfl rfl rfl ?_
  refine aw_iload_n (pc' := 2) dX12_met_1 rfl rfl ?_
  obtain ⟨r1, ec1, hf⟩ := b1_e hf
  refine aw_callVi (M' := mX12_isHole) (nc' := 0) (ns' := 0) (pc' := 5) dX12_met_2 rfl ml_RX12_268 kX12_isHole (t_X12_isHole H0 ec1) (H0.ob (H0.fo rfl rfl) (by decide)) rfl rfl rfl (Nat.le_of_ble_eq_true rfl) (rokD (by omega) (Nat.le_of_ble_eq_true rfl) (Nat.le_of_ble_eq_true rfl) (Nat.le_of_ble_eq_true rfl)) rfl rfl (fun _ h1 q1 => ?_)
  obtain ⟨rfl, rfl, zb1⟩ := q1
  refine aw_if_eq (tgt := 36) (pc' := 8) dX12_met_5 rfl rfl (fun c2 => ?_) (fun c2 => ?_)
  · replace hf := ifp c2 hf
    refine aw_iconst (v := (-1)) (pc' := 37) dX12_met_36 rfl ic_m1 ?_
    obtain rfl := Option.some.inj hf
    exact aw_ri dX12_met_37 rfl rfl (Nat.le_of_ble_eq_true rfl) (Nat.le_of_ble_eq_true rfl) ⟨rfl, rfl⟩
  · replace hf := ifn c2 hf
    refine aw_iload_n (pc' := 9) dX12_met_8 rfl rfl ?_
    refine aw_iconst (v := 1) (pc' := 10) dX12_met_9 rfl ic_1 ?_
    refine aw_aload_n (pc' := 11) dX12_met_10 rfl rfl rfl ?_
    refine aw_gr (q := 59) (e := 17) (v := .ref 75) (pc' := 14) H0 (H0.fo rfl rfl) (l13 rfl) rfl rfl dX12_met_11 rfl fl_RX12_32 ?_
    refine aw_iload_n (pc' := 15) dX12_met_14 rfl rfl ?_
    obtain ⟨g3, hf⟩ := gd_e hf
    refine aw_ia (q := 67) (pc' := 16) H0 (H0.fa rfl rfl rfl) g3 dX12_met_15 rfl ?_
    obtain ⟨r4, ec4, hf⟩ := b1_e hf
    refine aw_callSi (M' := mX12_in) (nc' := 0) (ns' := 0) (pc' := 19) dX12_met_16 rfl ml_RX12_230 kX12_in (t_X12_in ec4) rfl rfl (Nat.le_of_ble_eq_true rfl) (rokD (by omega) (Nat.le_of_ble_eq_true rfl) (Nat.le_of_ble_eq_true rfl) (Nat.le_of_ble_eq_true rfl)) rfl rfl (fun _ h4 q4 => ?_)
    obtain ⟨rfl, rfl, zb4⟩ := q4
    refine aw_if_eq (tgt := 36) (pc' := 22) dX12_met_19 rfl rfl (fun c5 => ?_) (fun c5 => ?_)
    · replace hf := ifp c5 hf
      refine aw_iconst (v := (-1)) (pc' := 37) dX12_met_36 rfl ic_m1 ?_
      obtain rfl := Option.some.inj hf
      exact aw_ri dX12_met_37 rfl rfl (Nat.le_of_ble_eq_true rfl) (Nat.le_of_ble_eq_true rfl) ⟨rfl, rfl⟩
    · replace hf := ifn c5 hf
      refine aw_aload_n (pc' := 23) dX12_met_22 rfl rfl rfl ?_
      refine aw_gr (q := 59) (e := 25) (v := .ref 79) (pc' := 26) H0 (H0.fo rfl rfl) (l13 rfl) rfl rfl dX12_met_23 rfl fl_RX12_44 ?_
      refine aw_bipush (v := 61) (pc' := 28) dX12_met_26 rfl bp_61 ?_
      refine aw_iload_n (pc' := 29) dX12_met_28 rfl rfl ?_
      refine aw_imul (pc' := 30) dX12_met_29 rfl ?_
      refine aw_iload_n (pc' := 31) dX12_met_30 rfl rfl ?_
      refine aw_iadd (pc' := 32) dX12_met_31 rfl ?_
      obtain ⟨v6, ev6, hf⟩ := vl_e hf
      refine aw_topi ev6 ?_
      obtain ⟨g7, hf⟩ := gd_e hf
      refine aw_ia (q := 71) (pc' := 33) H0 (H0.fa rfl rfl rfl) g7 dX12_met_32 rfl ?_
      refine aw_goto (tgt := 37) dX12_met_33 rfl ?_
      obtain rfl := Option.some.inj hf
      exact aw_ri dX12_met_37 rfl rfl (Nat.le_of_ble_eq_true rfl) (Nat.le_of_ble_eq_true rfl) ⟨rfl, rfl⟩
/-! ThirtyThreeBelowModel.firstThrough -/
noncomputable def f_X12_firstThrough_L6_b (s0 : SS) (rc : Int32 → Int32 → Option Int32) (x1 : Int32) (x2 : Int32) : Option Int32 := (if x2 < (zS s0 59 4) then (gd (inB x2 120) (jn (fun (j3_1 : Int32) => (vl (x2 + 1) fun v4 => (rc j3_1 v4))) fun k3 => (if (0 : Int32) < (zI s0 69 (x2.toInt.toNat)) then (gd (inB x2 120) (if ((zI s0 69 (x2.toInt.toNat)) - (1 : Int32)) < x1 then (gd (inB x2 120) (vl (((zI s0 69 (x2.toInt.toNat)) - (1 : Int32))) fun v10 => (k3 v10))) else (k3 x1))) else (k3 x1)))) else some x1)
noncomputable def f_X12_firstThrough_L6 (s0 : SS) : Nat → Int32 → Int32 → Option Int32
  | 0, _, _ => none
  | n + 1, x1, x2 => f_X12_firstThrough_L6_b s0 (f_X12_firstThrough_L6 s0 n) x1 x2
set_option maxRecDepth 4000 in
theorem t_X12_firstThrough_L6 {r9 : Int32} {s0 : SS} {h0 : List aE} (H0 : HH s0 h0)  : ∀ (n : Nat) (x1 : Int32) (x2 : Int32), f_X12_firstThrough_L6 s0 n x1 x2 = some r9 → AW mX12_firstThrough (rmD (0) 0 0) (fin (PI fun r' h' => r9 = r' ∧ h0 = h') 0 0) 6 [some (.ref 67), some (.int x1), some (.int x2)] [] h0 0 0 := by
  intro n
  induction n with
  | zero =>
    intro x1 x2 hf
    cases hf
  | succ n ih =>
    intro x1 x2 hf
    replace hf : f_X12_firstThrough_L6_b s0 (f_X12_firstThrough_L6 s0 n) x1 x2 = some r9 := hf
    unfold f_X12_firstThrough_L6_b at hf
    refine aw_iload_n (pc' := 7) dX12_firstThrough_6 rfl rfl ?_
    refine aw_aload_n (pc' := 8) dX12_firstThrough_7 rfl rfl rfl ?_
    refine aw_gi (q := 59) (pc' := 11) H0 (H0.fo rfl rfl) (l13 rfl) rfl dX12_firstThrough_8 rfl fl_RX12_242 ?_
    refine aw_cge (tgt := 50) (pc' := 14) dX12_firstThrough_11 rfl rfl (fun c1 => ?_) (fun c1 => ?_)
    · replace hf := ifn c1 hf
      refine aw_iload_n (pc' := 51) dX12_firstThrough_50 rfl rfl ?_
      obtain rfl := Option.some.inj hf
      exact aw_ri dX12_firstThrough_51 rfl rfl (Nat.le_of_ble_eq_true rfl) (Nat.le_of_ble_eq_true rfl) ⟨rfl, rfl⟩
    · replace hf := ifp c1 hf
      refine aw_aload_n (pc' := 15) dX12_firstThrough_14 rfl rfl rfl ?_
      refine aw_gr (q := 59) (e := 21) (v := .ref 77) (pc' := 18) H0 (H0.fo rfl rfl) (l13 rfl) rfl rfl dX12_firstThrough_15 rfl fl_RX12_38 ?_
      refine aw_iload_n (pc' := 19) dX12_firstThrough_18 rfl rfl ?_
      obtain ⟨g2, hf⟩ := gd_e hf
      refine aw_ia (q := 69) (pc' := 20) H0 (H0.fa rfl rfl rfl) g2 dX12_firstThrough_19 rfl ?_
      obtain ⟨k3, ek3, hf⟩ := jn_e hf
      have hk3 : ∀ (j3_1 : Int32), k3 j3_1 = some r9 → AW mX12_firstThrough (rmD (0) 0 0) (fin (PI fun r' h' => r9 = r' ∧ h0 = h') 0 0) 44 [some (.ref 67), some (.int j3_1), some (.int x2)] [] h0 0 0 := by
        intro j3_1 hf
        subst ek3
        obtain ⟨v4, ev4, hf⟩ := vl_e hf
        refine aw_iincV (y := v4) (lv' := [_, _, _]) (pc' := 47) dX12_firstThrough_44 rfl rfl (Nat.le_of_ble_eq_true rfl) ev4 rfl ?_
        refine aw_goto (tgt := 6) dX12_firstThrough_47 rfl ?_
        exact ih _ _ hf
      clear ek3
      refine aw_zle (tgt := 44) (pc' := 23) dX12_firstThrough_20 rfl rfl (fun c5 => ?_) (fun c5 => ?_)
      · replace hf := ifn c5 hf
        exact hk3 _ hf
      · replace hf := ifp c5 hf
        refine aw_aload_n (pc' := 24) dX12_firstThrough_23 rfl rfl rfl ?_
        refine aw_gr (q := 59) (e := 21) (v := .ref 77) (pc' := 27) H0 (H0.fo rfl rfl) (l13 rfl) rfl rfl dX12_firstThrough_24 rfl fl_RX12_38 ?_
        refine aw_iload_n (pc' := 28) dX12_firstThrough_27 rfl rfl ?_
        obtain ⟨g6, hf⟩ := gd_e hf
        refine aw_ia (q := 69) (pc' := 29) H0 (H0.fa rfl rfl rfl) g6 dX12_firstThrough_28 rfl ?_
        refine aw_iconst (v := 1) (pc' := 30) dX12_firstThrough_29 rfl ic_1 ?_
        refine aw_isub (pc' := 31) dX12_firstThrough_30 rfl ?_
        refine aw_iload_n (pc' := 32) dX12_firstThrough_31 rfl rfl ?_
        refine aw_cge (tgt := 44) (pc' := 35) dX12_firstThrough_32 rfl rfl (fun c7 => ?_) (fun c7 => ?_)
        · replace hf := ifn c7 hf
          exact hk3 _ hf
        · replace hf := ifp c7 hf
          refine aw_aload_n (pc' := 36) dX12_firstThrough_35 rfl rfl rfl ?_
          refine aw_gr (q := 59) (e := 21) (v := .ref 77) (pc' := 39) H0 (H0.fo rfl rfl) (l13 rfl) rfl rfl dX12_firstThrough_36 rfl fl_RX12_38 ?_
          refine aw_iload_n (pc' := 40) dX12_firstThrough_39 rfl rfl ?_
          obtain ⟨g8, hf⟩ := gd_e hf
          refine aw_ia (q := 69) (pc' := 41) H0 (H0.fa rfl rfl rfl) g8 dX12_firstThrough_40 rfl ?_
          refine aw_iconst (v := 1) (pc' := 42) dX12_firstThrough_41 rfl ic_1 ?_
          refine aw_isub (pc' := 43) dX12_firstThrough_42 rfl ?_
          obtain ⟨v10, ev10, hf⟩ := vl_e hf
          refine aw_topi ev10 ?_
          refine aw_istore_n (lv' := [_, _, _]) (pc' := 44) dX12_firstThrough_43 rfl (Nat.le_of_ble_eq_true rfl) rfl ?_
          exact hk3 _ hf
noncomputable def f_X12_firstThrough (s0 : SS)  : Option Int32 := (f_X12_firstThrough_L6 s0 4000 1700 0)
set_option maxRecDepth 4000 in
theorem t_X12_firstThrough {r9 : Int32} {s0 : SS} {h0 : List aE}  (H0 : HH s0 h0) (hf : f_X12_firstThrough s0 = some r9) : AM mX12_firstThrough (0) [.ref 67] h0 0 0 (PI fun r' h' => r9 = r' ∧ h0 = h') := by
  unfold f_X12_firstThrough at hf
  refine am_of (lv := [some (.ref 67), none, none]) rfl (Nat.le_of_ble_eq_true rfl) rfl ?_
  refine aw_sipush (v := 1700) (pc' := 3) dX12_firstThrough_0 rfl sp_1700 ?_
  refine aw_istore_n (lv' := [_, _, _]) (pc' := 4) dX12_firstThrough_3 rfl (Nat.le_of_ble_eq_true rfl) rfl ?_
  refine aw_iconst (v := 0) (pc' := 5) dX12_firstThrough_4 rfl ic_0 ?_
  refine aw_istore_n (lv' := [_, _, _]) (pc' := 6) dX12_firstThrough_5 rfl (Nat.le_of_ble_eq_true rfl) rfl ?_
  refine t_X12_firstThrough_L6 H0  4000 _ _ hf
/-! ThirtyThreeBelowModel.bore -/
noncomputable def f_X12_bore_L0_b (y1 : Int32) (y2 : Int32) (rc : SS → Option SS) (s : SS) : Option SS := (gd (inB y1 120) (gd (inB y1 120) (if (zI s 67 (y1.toInt.toNat)) < (zI s 66 (y1.toInt.toNat)) then (gd (inB y1 120) (if (zI s 69 (y1.toInt.toNat)) = (0 : Int32) then (gd (inB y1 120) (vl (((zI s 67 (y1.toInt.toNat)) + (1 : Int32))) fun v7 => (gd (inB y1 120) (vl ((((61 : Int32) * y1) + v7)) fun v10 => (gd (inB v10 7320) (b1 (f_X12_held ((zI s 65 (y1.toInt.toNat)) + (zI s 70 (v10.toInt.toNat))) (0 : Int32) (31 : Int32)) fun r12 => (vl ((((61 : Int32) * r12) + v7)) fun v13 => (gd (inB v13 1952) (jn (fun (t15_0 : Int32) => (gd (inB y1 120) (if (zI s 68 (y1.toInt.toNat)) < t15_0 then some s else (gd (inB y1 120) (vl (((zI s 68 (y1.toInt.toNat)) - t15_0)) fun v19 => (gd (inB y1 120) (st (pI s 68 (y1.toInt.toNat) v19) fun s21 => (gd (inB y1 120) (st (pI s21 67 (y1.toInt.toNat) v7) fun s23 => (gd (inB y1 120) (st (pI s23 65 (y1.toInt.toNat) r12) fun s25 => (jn (fun (t26_0 : Int32) => (jn (fun (t27_0 : Int32) => (vl ((((61 : Int32) * y1) + v7)) fun v28 => (gd (inB v28 7320) (st (pI s25 71 (v28.toInt.toNat) t27_0) fun s30 => (jn (fun (s31 : SS)  => (rc s31)) fun k31 => (if t26_0 = (0 : Int32) then (k31 s30) else (vl (((zS s30 59 1) + (1 : Int32))) fun v33 => (gd (inB y1 120) (st (pI s30 69 (y1.toInt.toNat) v33) fun s35 => (k31 s35)))))))))) fun k27 => (if t26_0 = (0 : Int32) then (gd (inB v13 1952) (if (zI s25 61 (v13.toInt.toNat)) = (0 : Int32) then (k27 0) else (k27 1))) else (k27 2)))) fun k26 => (jn ((k26 0)) fun k39 => (if (zS s25 59 21) < (0 : Int32) then k39 else (if v7 = (zS s25 59 24) then (b1 (f_X12_in r12 (zS s25 59 22) (zS s25 59 23)) fun r42 => (if r42 = (0 : Int32) then k39 else (k26 1))) else k39))))))))))))))) fun k15 => (if (zI s 61 (v13.toInt.toNat)) = (0 : Int32) then (gd (inB v13 1952) (k15 (y2 * ((3 : Int32) + (zI s 60 (v13.toInt.toNat)))))) else (k15 0))))))))))) else some s)) else some s)))
noncomputable def f_X12_bore_L0 (y1 : Int32) (y2 : Int32) : Nat → SS → Option SS
  | 0, _ => none
  | n + 1, s => f_X12_bore_L0_b y1 y2 (f_X12_bore_L0 y1 y2 n) s
set_option maxRecDepth 4000 in
theorem t_X12_bore_L0 {s0 sb s9 : SS} {y1 : Int32} {y2 : Int32} (mb : Mo s0 sb)  : ∀ (n : Nat) (s : SS) (h : List aE), HH s h → Mo sb s → f_X12_bore_L0 y1 y2 n s = some s9 → AW mX12_bore (rmD (1) 0 0) (fin (PV fun h' => HH s9 h' ∧ Mo s0 s9) 0 0) 0 [some (.ref 67), some (.int y1), some (.int y2), none, none, none, none, none] [] h 0 0 := by
  intro n
  induction n with
  | zero =>
    intro s h H ms hf
    cases hf
  | succ n ih =>
    intro s h H ms hf
    replace hf : f_X12_bore_L0_b y1 y2 (f_X12_bore_L0 y1 y2 n) s = some s9 := hf
    unfold f_X12_bore_L0_b at hf
    refine aw_aload_n (pc' := 1) dX12_bore_0 rfl rfl rfl ?_
    refine aw_gr (q := 59) (e := 17) (v := .ref 75) (pc' := 4) H (H.fo rfl rfl) (by decide) rfl rfl dX12_bore_1 rfl fl_RX12_32 ?_
    refine aw_iload_n (pc' := 5) dX12_bore_4 rfl rfl ?_
    obtain ⟨g1, hf⟩ := gd_e hf
    refine aw_ia (q := 67) (pc' := 6) H (H.fa rfl rfl rfl) g1 dX12_bore_5 rfl ?_
    refine aw_aload_n (pc' := 7) dX12_bore_6 rfl rfl rfl ?_
    refine aw_gr (q := 59) (e := 15) (v := .ref 74) (pc' := 10) H (H.fo rfl rfl) (by decide) rfl rfl dX12_bore_7 rfl fl_RX12_29 ?_
    refine aw_iload_n (pc' := 11) dX12_bore_10 rfl rfl ?_
    obtain ⟨g2, hf⟩ := gd_e hf
    refine aw_ia (q := 66) (pc' := 12) H (H.fa rfl rfl rfl) g2 dX12_bore_11 rfl ?_
    refine aw_cge (tgt := 226) (pc' := 15) dX12_bore_12 rfl rfl (fun c3 => ?_) (fun c3 => ?_)
    · replace hf := ifn c3 hf
      obtain rfl := Option.some.inj hf
      exact aw_rv dX12_bore_226 rfl (Nat.le_of_ble_eq_true rfl) (Nat.le_of_ble_eq_true rfl) ⟨H, (mb.tr ms)⟩
    · replace hf := ifp c3 hf
      refine aw_aload_n (pc' := 16) dX12_bore_15 rfl rfl rfl ?_
      refine aw_gr (q := 59) (e := 21) (v := .ref 77) (pc' := 19) H (H.fo rfl rfl) (by decide) rfl rfl dX12_bore_16 rfl fl_RX12_38 ?_
      refine aw_iload_n (pc' := 20) dX12_bore_19 rfl rfl ?_
      obtain ⟨g4, hf⟩ := gd_e hf
      refine aw_ia (q := 69) (pc' := 21) H (H.fa rfl rfl rfl) g4 dX12_bore_20 rfl ?_
      refine aw_if_ne (tgt := 226) (pc' := 24) dX12_bore_21 rfl rfl (fun c5 => ?_) (fun c5 => ?_)
      · replace hf := ifn c5 hf
        obtain rfl := Option.some.inj hf
        exact aw_rv dX12_bore_226 rfl (Nat.le_of_ble_eq_true rfl) (Nat.le_of_ble_eq_true rfl) ⟨H, (mb.tr ms)⟩
      · replace hf := ifp c5 hf
        refine aw_aload_n (pc' := 25) dX12_bore_24 rfl rfl rfl ?_
        refine aw_gr (q := 59) (e := 17) (v := .ref 75) (pc' := 28) H (H.fo rfl rfl) (by decide) rfl rfl dX12_bore_25 rfl fl_RX12_32 ?_
        refine aw_iload_n (pc' := 29) dX12_bore_28 rfl rfl ?_
        obtain ⟨g6, hf⟩ := gd_e hf
        refine aw_ia (q := 67) (pc' := 30) H (H.fa rfl rfl rfl) g6 dX12_bore_29 rfl ?_
        refine aw_iconst (v := 1) (pc' := 31) dX12_bore_30 rfl ic_1 ?_
        refine aw_iadd (pc' := 32) dX12_bore_31 rfl ?_
        obtain ⟨v7, ev7, hf⟩ := vl_e hf
        refine aw_topi ev7 ?_
        refine aw_istore_n (lv' := [_, _, _, _, _, _, _, _]) (pc' := 33) dX12_bore_32 rfl (Nat.le_of_ble_eq_true rfl) rfl ?_
        refine aw_aload_n (pc' := 34) dX12_bore_33 rfl rfl rfl ?_
        refine aw_gr (q := 59) (e := 13) (v := .ref 73) (pc' := 37) H (H.fo rfl rfl) (by decide) rfl rfl dX12_bore_34 rfl fl_RX12_26 ?_
        refine aw_iload_n (pc' := 38) dX12_bore_37 rfl rfl ?_
        obtain ⟨g8, hf⟩ := gd_e hf
        refine aw_ia (q := 65) (pc' := 39) H (H.fa rfl rfl rfl) g8 dX12_bore_38 rfl ?_
        refine aw_aload_n (pc' := 40) dX12_bore_39 rfl rfl rfl ?_
        refine aw_gr (q := 59) (e := 23) (v := .ref 78) (pc' := 43) H (H.fo rfl rfl) (by decide) rfl rfl dX12_bore_40 rfl fl_RX12_41 ?_
        refine aw_bipush (v := 61) (pc' := 45) dX12_bore_43 rfl bp_61 ?_
        refine aw_iload_n (pc' := 46) dX12_bore_45 rfl rfl ?_
        refine aw_imul (pc' := 47) dX12_bore_46 rfl ?_
        refine aw_iload_n (pc' := 48) dX12_bore_47 rfl rfl ?_
        refine aw_iadd (pc' := 49) dX12_bore_48 rfl ?_
        obtain ⟨v10, ev10, hf⟩ := vl_e hf
        refine aw_topi ev10 ?_
        obtain ⟨g11, hf⟩ := gd_e hf
        refine aw_ia (q := 70) (pc' := 50) H (H.fa rfl rfl rfl) g11 dX12_bore_49 rfl ?_
        refine aw_iadd (pc' := 51) dX12_bore_50 rfl ?_
        refine aw_iconst (v := 0) (pc' := 52) dX12_bore_51 rfl ic_0 ?_
        refine aw_bipush (v := 31) (pc' := 54) dX12_bore_52 rfl bp_31 ?_
        obtain ⟨r12, ec12, hf⟩ := b1_e hf
        refine aw_callSi (M' := mX12_held) (nc' := 0) (ns' := 0) (pc' := 57) dX12_bore_54 rfl ml_RX12_284 kX12_held (t_X12_held ec12) rfl rfl (Nat.le_of_ble_eq_true rfl) (rokD (by omega) (Nat.le_of_ble_eq_true rfl) (Nat.le_of_ble_eq_true rfl) (Nat.le_of_ble_eq_true rfl)) rfl rfl (fun _ h12 q12 => ?_)
        obtain ⟨rfl, rfl⟩ := q12
        refine aw_istore (lv' := [_, _, _, _, _, _, _, _]) (pc' := 59) dX12_bore_57 rfl (Nat.le_of_ble_eq_true rfl) rfl ?_
        refine aw_bipush (v := 61) (pc' := 61) dX12_bore_59 rfl bp_61 ?_
        refine aw_iload (pc' := 63) dX12_bore_61 rfl rfl ?_
        refine aw_imul (pc' := 64) dX12_bore_63 rfl ?_
        refine aw_iload_n (pc' := 65) dX12_bore_64 rfl rfl ?_
        refine aw_iadd (pc' := 66) dX12_bore_65 rfl ?_
        obtain ⟨v13, ev13, hf⟩ := vl_e hf
        refine aw_topi ev13 ?_
        refine aw_istore (lv' := [_, _, _, _, _, _, _, _]) (pc' := 68) dX12_bore_66 rfl (Nat.le_of_ble_eq_true rfl) rfl ?_
        refine aw_aload_n (pc' := 69) dX12_bore_68 rfl rfl rfl ?_
        refine aw_gr (q := 59) (e := 5) (v := .ref 69) (pc' := 72) H (H.fo rfl rfl) (by decide) rfl rfl dX12_bore_69 rfl fl_RX12_13 ?_
        refine aw_iload (pc' := 74) dX12_bore_72 rfl rfl ?_
        obtain ⟨g14, hf⟩ := gd_e hf
        refine aw_za (q := 61) (pc' := 75) H (H.fa rfl rfl rfl) g14 dX12_bore_74 rfl ?_
        obtain ⟨k15, ek15, hf⟩ := jn_e hf
        have hk15 : ∀ (t15_0 : Int32), k15 t15_0 = some s9 → AW mX12_bore (rmD (1) 0 0) (fin (PV fun h' => HH s9 h' ∧ Mo s0 s9) 0 0) 93 [some (.ref 67), some (.int y1), some (.int y2), some (.int v7), some (.int r12), some (.int v13), none, none] [.int t15_0] h 0 0 := by
          intro t15_0 hf
          subst ek15
          refine aw_istore (lv' := [_, _, _, _, _, _, _, _]) (pc' := 95) dX12_bore_93 rfl (Nat.le_of_ble_eq_true rfl) rfl ?_
          refine aw_aload_n (pc' := 96) dX12_bore_95 rfl rfl rfl ?_
          refine aw_gr (q := 59) (e := 19) (v := .ref 76) (pc' := 99) H (H.fo rfl rfl) (by decide) rfl rfl dX12_bore_96 rfl fl_RX12_35 ?_
          refine aw_iload_n (pc' := 100) dX12_bore_99 rfl rfl ?_
          obtain ⟨g16, hf⟩ := gd_e hf
          refine aw_ia (q := 68) (pc' := 101) H (H.fa rfl rfl rfl) g16 dX12_bore_100 rfl ?_
          refine aw_iload (pc' := 103) dX12_bore_101 rfl rfl ?_
          refine aw_cge (tgt := 107) (pc' := 106) dX12_bore_103 rfl rfl (fun c17 => ?_) (fun c17 => ?_)
          · replace hf := ifn c17 hf
            refine aw_aload_n (pc' := 108) dX12_bore_107 rfl rfl rfl ?_
            refine aw_gr (q := 59) (e := 19) (v := .ref 76) (pc' := 111) H (H.fo rfl rfl) (by decide) rfl rfl dX12_bore_108 rfl fl_RX12_35 ?_
            refine aw_iload_n (pc' := 112) dX12_bore_111 rfl rfl ?_
            refine aw_dup2 (pc' := 113) dX12_bore_112 rfl rfl rfl ?_
            obtain ⟨g18, hf⟩ := gd_e hf
            refine aw_ia (q := 68) (pc' := 114) H (H.fa rfl rfl rfl) g18 dX12_bore_113 rfl ?_
            refine aw_iload (pc' := 116) dX12_bore_114 rfl rfl ?_
            refine aw_isub (pc' := 117) dX12_bore_116 rfl ?_
            obtain ⟨v19, ev19, hf⟩ := vl_e hf
            refine aw_topi ev19 ?_
            obtain ⟨g20, hf⟩ := gd_e hf
            obtain ⟨s21, es21, hf⟩ := st_e hf
            refine aw_is (q := 68) (pc' := 118) es21 H (H.fa rfl rfl rfl) g20 dX12_bore_117 rfl (fun h21 H21 => ?_)
            have m21 := Mo.ofI es21
            refine aw_aload_n (pc' := 119) dX12_bore_118 rfl rfl rfl ?_
            refine aw_gr (q := 59) (e := 17) (v := .ref 75) (pc' := 122) H21 (H21.fo rfl rfl) (l13 rfl) rfl rfl dX12_bore_119 rfl fl_RX12_32 ?_
            refine aw_iload_n (pc' := 123) dX12_bore_122 rfl rfl ?_
            refine aw_iload_n (pc' := 124) dX12_bore_123 rfl rfl ?_
            obtain ⟨g22, hf⟩ := gd_e hf
            obtain ⟨s23, es23, hf⟩ := st_e hf
            refine aw_is (q := 67) (pc' := 125) es23 H21 (H21.fa rfl rfl rfl) g22 dX12_bore_124 rfl (fun h23 H23 => ?_)
            have m23 := Mo.ofI es23
            refine aw_aload_n (pc' := 126) dX12_bore_125 rfl rfl rfl ?_
            refine aw_gr (q := 59) (e := 13) (v := .ref 73) (pc' := 129) H23 (H23.fo rfl rfl) (l13 rfl) rfl rfl dX12_bore_126 rfl fl_RX12_26 ?_
            refine aw_iload_n (pc' := 130) dX12_bore_129 rfl rfl ?_
            refine aw_iload (pc' := 132) dX12_bore_130 rfl rfl ?_
            obtain ⟨g24, hf⟩ := gd_e hf
            obtain ⟨s25, es25, hf⟩ := st_e hf
            refine aw_is (q := 65) (pc' := 133) es25 H23 (H23.fa rfl rfl rfl) g24 dX12_bore_132 rfl (fun h25 H25 => ?_)
            have m25 := Mo.ofI es25
            refine aw_aload_n (pc' := 134) dX12_bore_133 rfl rfl rfl ?_
            refine aw_gi (q := 59) (pc' := 137) H25 (H25.fo rfl rfl) (l13 rfl) rfl dX12_bore_134 rfl fl_RX12_65 ?_
            obtain ⟨k26, ek26, hf⟩ := jn_e hf
            have hk26 : ∀ (t26_0 : Int32), k26 t26_0 = some s9 → AW mX12_bore (rmD (1) 0 0) (fin (PV fun h' => HH s9 h' ∧ Mo s0 s9) 0 0) 169 [some (.ref 67), some (.int y1), some (.int y2), some (.int v7), none, some (.int v13), none, none] [.int t26_0] h25 0 0 := by
              intro t26_0 hf
              subst ek26
              refine aw_istore (lv' := [_, _, _, _, _, _, _, _]) (pc' := 171) dX12_bore_169 rfl (Nat.le_of_ble_eq_true rfl) rfl ?_
              refine aw_aload_n (pc' := 172) dX12_bore_171 rfl rfl rfl ?_
              refine aw_gr (q := 59) (e := 25) (v := .ref 79) (pc' := 175) H25 (H25.fo rfl rfl) (l13 rfl) rfl rfl dX12_bore_172 rfl fl_RX12_44 ?_
              refine aw_bipush (v := 61) (pc' := 177) dX12_bore_175 rfl bp_61 ?_
              refine aw_iload_n (pc' := 178) dX12_bore_177 rfl rfl ?_
              refine aw_imul (pc' := 179) dX12_bore_178 rfl ?_
              refine aw_iload_n (pc' := 180) dX12_bore_179 rfl rfl ?_
              refine aw_iadd (pc' := 181) dX12_bore_180 rfl ?_
              refine aw_iload (pc' := 183) dX12_bore_181 rfl rfl ?_
              obtain ⟨k27, ek27, hf⟩ := jn_e hf
              have hk27 : ∀ (t27_0 : Int32), k27 t27_0 = some s9 → AW mX12_bore (rmD (1) 0 0) (fin (PV fun h' => HH s9 h' ∧ Mo s0 s9) 0 0) 205 [some (.ref 67), some (.int y1), some (.int y2), none, none, none, none, some (.int t26_0)] [.int t27_0, .int (((61 : Int32) * y1) + v7), .ref 79] h25 0 0 := by
                intro t27_0 hf
                subst ek27
                obtain ⟨v28, ev28, hf⟩ := vl_e hf
                refine aw_sndi ev28 ?_
                obtain ⟨g29, hf⟩ := gd_e hf
                obtain ⟨s30, es30, hf⟩ := st_e hf
                refine aw_is (q := 71) (pc' := 206) es30 H25 (H25.fa rfl rfl rfl) g29 dX12_bore_205 rfl (fun h30 H30 => ?_)
                have m30 := Mo.ofI es30
                refine aw_iload (pc' := 208) dX12_bore_206 rfl rfl ?_
                obtain ⟨k31, ek31, hf⟩ := jn_e hf
                have hk31 : ∀ (s31 : SS) (h31 : List aE), HH s31 h31 → Mo s30 s31 → k31 s31 = some s9 → AW mX12_bore (rmD (1) 0 0) (fin (PV fun h' => HH s9 h' ∧ Mo s0 s9) 0 0) 223 [some (.ref 67), some (.int y1), some (.int y2), none, none, none, none, none] [] h31 0 0 := by
                  intro s31 h31 H31 m31 hf
                  subst ek31
                  refine aw_goto (tgt := 0) dX12_bore_223 rfl ?_
                  exact ih _ _ H31 (((((ms.tr m21).tr m23).tr m25).tr m30).tr m31) hf
                clear ek31
                refine aw_if_eq (tgt := 223) (pc' := 211) dX12_bore_208 rfl rfl (fun c32 => ?_) (fun c32 => ?_)
                · replace hf := ifp c32 hf
                  refine AW.lv_le (lz_k (lz_k (lz_k (lz_d (lz_d (lz_d (lz_d (lz_d lz_0)))))))) ?_
                  exact hk31 _ _ H30 (Mo.rf _) hf
                · replace hf := ifn c32 hf
                  refine aw_aload_n (pc' := 212) dX12_bore_211 rfl rfl rfl ?_
                  refine aw_gr (q := 59) (e := 21) (v := .ref 77) (pc' := 215) H30 (H30.fo rfl rfl) (l13 rfl) rfl rfl dX12_bore_212 rfl fl_RX12_38 ?_
                  refine aw_iload_n (pc' := 216) dX12_bore_215 rfl rfl ?_
                  refine aw_aload_n (pc' := 217) dX12_bore_216 rfl rfl rfl ?_
                  refine aw_gi (q := 59) (pc' := 220) H30 (H30.fo rfl rfl) (l13 rfl) rfl dX12_bore_217 rfl fl_RX12_281 ?_
                  refine aw_iconst (v := 1) (pc' := 221) dX12_bore_220 rfl ic_1 ?_
                  refine aw_iadd (pc' := 222) dX12_bore_221 rfl ?_
                  obtain ⟨v33, ev33, hf⟩ := vl_e hf
                  refine aw_topi ev33 ?_
                  obtain ⟨g34, hf⟩ := gd_e hf
                  obtain ⟨s35, es35, hf⟩ := st_e hf
                  refine aw_is (q := 69) (pc' := 223) es35 H30 (H30.fa rfl rfl rfl) g34 dX12_bore_222 rfl (fun h35 H35 => ?_)
                  have m35 := Mo.ofI es35
                  refine AW.lv_le (lz_k (lz_k (lz_k (lz_d (lz_d (lz_d (lz_d (lz_d lz_0)))))))) ?_
                  exact hk31 _ _ H35 m35 hf
              clear ek27
              refine aw_if_eq (tgt := 190) (pc' := 186) dX12_bore_183 rfl rfl (fun c36 => ?_) (fun c36 => ?_)
              · replace hf := ifp c36 hf
                refine aw_aload_n (pc' := 191) dX12_bore_190 rfl rfl rfl ?_
                refine aw_gr (q := 59) (e := 5) (v := .ref 69) (pc' := 194) H25 (H25.fo rfl rfl) (l13 rfl) rfl rfl dX12_bore_191 rfl fl_RX12_13 ?_
                refine aw_iload (pc' := 196) dX12_bore_194 rfl rfl ?_
                obtain ⟨g37, hf⟩ := gd_e hf
                refine aw_za (q := 61) (pc' := 197) H25 (H25.fa rfl rfl rfl) g37 dX12_bore_196 rfl ?_
                refine aw_if_eq (tgt := 204) (pc' := 200) dX12_bore_197 rfl rfl (fun c38 => ?_) (fun c38 => ?_)
                · replace hf := ifp c38 hf
                  refine aw_iconst (v := 0) (pc' := 205) dX12_bore_204 rfl ic_0 ?_
                  refine AW.lv_le (lz_k (lz_k (lz_k (lz_d (lz_d (lz_d (lz_d (lz_k lz_0)))))))) ?_
                  exact hk27 _ hf
                · replace hf := ifn c38 hf
                  refine aw_iconst (v := 1) (pc' := 201) dX12_bore_200 rfl ic_1 ?_
                  refine aw_goto (tgt := 205) dX12_bore_201 rfl ?_
                  refine AW.lv_le (lz_k (lz_k (lz_k (lz_d (lz_d (lz_d (lz_d (lz_k lz_0)))))))) ?_
                  exact hk27 _ hf
              · replace hf := ifn c36 hf
                refine aw_iconst (v := 2) (pc' := 187) dX12_bore_186 rfl ic_2 ?_
                refine aw_goto (tgt := 205) dX12_bore_187 rfl ?_
                refine AW.lv_le (lz_k (lz_k (lz_k (lz_d (lz_d (lz_d (lz_d (lz_k lz_0)))))))) ?_
                exact hk27 _ hf
            clear ek26
            obtain ⟨k39, ek39, hf⟩ := jn_e hf
            have hk39 : k39 = some s9 → AW mX12_bore (rmD (1) 0 0) (fin (PV fun h' => HH s9 h' ∧ Mo s0 s9) 0 0) 168 [some (.ref 67), some (.int y1), some (.int y2), some (.int v7), none, some (.int v13), none, none] [] h25 0 0 := by
              intro hf
              subst ek39
              refine aw_iconst (v := 0) (pc' := 169) dX12_bore_168 rfl ic_0 ?_
              exact hk26 _ hf
            clear ek39
            refine aw_zlt (tgt := 168) (pc' := 140) dX12_bore_137 rfl rfl (fun c40 => ?_) (fun c40 => ?_)
            · replace hf := ifp c40 hf
              refine AW.lv_le (lz_k (lz_k (lz_k (lz_k (lz_d (lz_k (lz_d (lz_d lz_0)))))))) ?_
              exact hk39  hf
            · replace hf := ifn c40 hf
              refine aw_iload_n (pc' := 141) dX12_bore_140 rfl rfl ?_
              refine aw_aload_n (pc' := 142) dX12_bore_141 rfl rfl rfl ?_
              refine aw_gi (q := 59) (pc' := 145) H25 (H25.fo rfl rfl) (l13 rfl) rfl dX12_bore_142 rfl fl_RX12_264 ?_
              refine aw_icmp_ne (tgt := 168) (pc' := 148) dX12_bore_145 rfl rfl (fun c41 => ?_) (fun c41 => ?_)
              · replace hf := ifn c41 hf
                refine AW.lv_le (lz_k (lz_k (lz_k (lz_k (lz_d (lz_k (lz_d (lz_d lz_0)))))))) ?_
                exact hk39  hf
              · replace hf := ifp c41 hf
                refine aw_iload (pc' := 150) dX12_bore_148 rfl rfl ?_
                refine aw_aload_n (pc' := 151) dX12_bore_150 rfl rfl rfl ?_
                refine aw_gi (q := 59) (pc' := 154) H25 (H25.fo rfl rfl) (l13 rfl) rfl dX12_bore_151 rfl fl_RX12_258 ?_
                refine aw_aload_n (pc' := 155) dX12_bore_154 rfl rfl rfl ?_
                refine aw_gi (q := 59) (pc' := 158) H25 (H25.fo rfl rfl) (l13 rfl) rfl dX12_bore_155 rfl fl_RX12_261 ?_
                obtain ⟨r42, ec42, hf⟩ := b1_e hf
                refine aw_callSi (M' := mX12_in) (nc' := 0) (ns' := 0) (pc' := 161) dX12_bore_158 rfl ml_RX12_230 kX12_in (t_X12_in ec42) rfl rfl (Nat.le_of_ble_eq_true rfl) (rokD (by omega) (Nat.le_of_ble_eq_true rfl) (Nat.le_of_ble_eq_true rfl) (Nat.le_of_ble_eq_true rfl)) rfl rfl (fun _ h42 q42 => ?_)
                obtain ⟨rfl, rfl, zb42⟩ := q42
                refine aw_if_eq (tgt := 168) (pc' := 164) dX12_bore_161 rfl rfl (fun c43 => ?_) (fun c43 => ?_)
                · replace hf := ifp c43 hf
                  refine AW.lv_le (lz_k (lz_k (lz_k (lz_k (lz_d (lz_k (lz_d (lz_d lz_0)))))))) ?_
                  exact hk39  hf
                · replace hf := ifn c43 hf
                  refine aw_iconst (v := 1) (pc' := 165) dX12_bore_164 rfl ic_1 ?_
                  refine aw_goto (tgt := 169) dX12_bore_165 rfl ?_
                  refine AW.lv_le (lz_k (lz_k (lz_k (lz_k (lz_d (lz_k (lz_d (lz_d lz_0)))))))) ?_
                  exact hk26 _ hf
          · replace hf := ifp c17 hf
            obtain rfl := Option.some.inj hf
            exact aw_rv dX12_bore_106 rfl (Nat.le_of_ble_eq_true rfl) (Nat.le_of_ble_eq_true rfl) ⟨H, (mb.tr ms)⟩
        clear ek15
        refine aw_if_eq (tgt := 82) (pc' := 78) dX12_bore_75 rfl rfl (fun c44 => ?_) (fun c44 => ?_)
        · replace hf := ifp c44 hf
          refine aw_iload_n (pc' := 83) dX12_bore_82 rfl rfl ?_
          refine aw_iconst (v := 3) (pc' := 84) dX12_bore_83 rfl ic_3 ?_
          refine aw_aload_n (pc' := 85) dX12_bore_84 rfl rfl rfl ?_
          refine aw_gr (q := 59) (e := 3) (v := .ref 68) (pc' := 88) H (H.fo rfl rfl) (by decide) rfl rfl dX12_bore_85 rfl fl_RX12_7 ?_
          refine aw_iload (pc' := 90) dX12_bore_88 rfl rfl ?_
          obtain ⟨g45, hf⟩ := gd_e hf
          refine aw_ia (q := 60) (pc' := 91) H (H.fa rfl rfl rfl) g45 dX12_bore_90 rfl ?_
          refine aw_iadd (pc' := 92) dX12_bore_91 rfl ?_
          refine aw_imul (pc' := 93) dX12_bore_92 rfl ?_
          exact hk15 _ hf
        · replace hf := ifn c44 hf
          refine aw_iconst (v := 0) (pc' := 79) dX12_bore_78 rfl ic_0 ?_
          refine aw_goto (tgt := 93) dX12_bore_79 rfl ?_
          exact hk15 _ hf
noncomputable def f_X12_bore (s0 : SS) (a0 : Int32) (a1 : Int32) : Option SS := (f_X12_bore_L0 a0 a1 4000 s0)
set_option maxRecDepth 4000 in
theorem t_X12_bore {s0 s9 : SS} {h0 : List aE} {a0 : Int32} {a1 : Int32} (H0 : HH s0 h0) (hf : f_X12_bore s0 a0 a1 = some s9) : AM mX12_bore (1) [.ref 67, .int a0, .int a1] h0 0 0 (PV fun h' => HH s9 h' ∧ Mo s0 s9) := by
  unfold f_X12_bore at hf
  refine am_of (lv := [some (.ref 67), some (.int a0), some (.int a1), none, none, none, none, none]) rfl (Nat.le_of_ble_eq_true rfl) rfl ?_
  refine t_X12_bore_L0 (Mo.rf _)  4000 _ _ H0 (Mo.rf _) hf
/-! ThirtyThreeBelowModel.spread -/
noncomputable def f_X12_spread (s0 : SS) (a0 : Int32) : Option (Int32 × SS) := (b1 (f_X12_in a0 (0 : Int32) (8 : Int32)) fun r1 => (if r1 = (0 : Int32) then some ((-1), s0) else (vl ((zS s0 59 29)) fun v3 => (st (pS s0 59 29 a0) fun s4 => some (v3, s4)))))
set_option maxRecDepth 4000 in
theorem t_X12_spread {r9 : Int32} {s0 s9 : SS} {h0 : List aE} {a0 : Int32} (H0 : HH s0 h0) (hf : f_X12_spread s0 a0 = some (r9, s9)) : AM mX12_spread (1) [.ref 67, .int a0] h0 0 0 (PI fun r' h' => r9 = r' ∧ HH s9 h' ∧ Mo s0 s9) := by
  unfold f_X12_spread at hf
  refine am_of (lv := [some (.ref 67), some (.int a0), none]) rfl (Nat.le_of_ble_eq_true rfl) rfl ?_
  refine aw_iload_n (pc' := 1) dX12_spread_0 rfl rfl ?_
  refine aw_iconst (v := 0) (pc' := 2) dX12_spread_1 rfl ic_0 ?_
  refine aw_bipush (v := 8) (pc' := 4) dX12_spread_2 rfl bp_8 ?_
  obtain ⟨r1, ec1, hf⟩ := b1_e hf
  refine aw_callSi (M' := mX12_in) (nc' := 0) (ns' := 0) (pc' := 7) dX12_spread_4 rfl ml_RX12_230 kX12_in (t_X12_in ec1) rfl rfl (Nat.le_of_ble_eq_true rfl) (rokD (by omega) (Nat.le_of_ble_eq_true rfl) (Nat.le_of_ble_eq_true rfl) (Nat.le_of_ble_eq_true rfl)) rfl rfl (fun _ h1 q1 => ?_)
  obtain ⟨rfl, rfl, zb1⟩ := q1
  refine aw_if_ne (tgt := 12) (pc' := 10) dX12_spread_7 rfl rfl (fun c2 => ?_) (fun c2 => ?_)
  · replace hf := ifn c2 hf
    refine aw_aload_n (pc' := 13) dX12_spread_12 rfl rfl rfl ?_
    refine aw_gi (q := 59) (pc' := 16) H0 (H0.fo rfl rfl) (l13 rfl) rfl dX12_spread_13 rfl fl_RX12_78 ?_
    obtain ⟨v3, ev3, hf⟩ := vl_e hf
    refine aw_topi ev3 ?_
    refine aw_istore_n (lv' := [_, _, _]) (pc' := 17) dX12_spread_16 rfl (Nat.le_of_ble_eq_true rfl) rfl ?_
    refine aw_aload_n (pc' := 18) dX12_spread_17 rfl rfl rfl ?_
    refine aw_iload_n (pc' := 19) dX12_spread_18 rfl rfl ?_
    obtain ⟨s4, es4, hf⟩ := st_e hf
    refine aw_pi (q := 59) (pc' := 22) es4 H0 (H0.fo rfl rfl) (by decide) rfl dX12_spread_19 rfl fl_RX12_78 rfl (fun h4 H4 => ?_)
    have m4 := Mo.ofS es4
    refine aw_iload_n (pc' := 23) dX12_spread_22 rfl rfl ?_
    obtain ⟨rfl, rfl⟩ := so2 hf
    exact aw_ri dX12_spread_23 rfl rfl (Nat.le_of_ble_eq_true rfl) (Nat.le_of_ble_eq_true rfl) ⟨rfl, H4, m4⟩
  · replace hf := ifp c2 hf
    refine aw_iconst (v := (-1)) (pc' := 11) dX12_spread_10 rfl ic_m1 ?_
    obtain ⟨rfl, rfl⟩ := so2 hf
    exact aw_ri dX12_spread_11 rfl rfl (Nat.le_of_ble_eq_true rfl) (Nat.le_of_ble_eq_true rfl) ⟨rfl, H0, (Mo.rf _)⟩
/-! ThirtyThreeBelowModel.isReals -/
noncomputable def f_X12_isReals (s0 : SS) (a0 : Int32) : Option Int32 := (gd (inB a0 6) (if (zI s0 120 (a0.toInt.toNat)) = ((-5) : Int32) then some 1 else (gd (inB a0 6) (if (zI s0 120 (a0.toInt.toNat)) = ((-6) : Int32) then some 1 else some 0))))
set_option maxRecDepth 4000 in
theorem t_X12_isReals {r9 : Int32} {s0 : SS} {h0 : List aE} {a0 : Int32} (H0 : HH s0 h0) (hf : f_X12_isReals s0 a0 = some r9) : AM mX12_isReals (0) [.ref 67, .int a0] h0 0 0 (PI fun r' h' => r9 = r' ∧ h0 = h' ∧ (r9 = 0 ∨ r9 = 1)) := by
  unfold f_X12_isReals at hf
  refine am_of (lv := [some (.ref 67), some (.int a0)]) rfl (Nat.le_of_ble_eq_true rfl) rfl ?_
  refine aw_aload_n (pc' := 1) dX12_isReals_0 rfl rfl rfl ?_
  refine aw_gr (q := 59) (e := 123) (v := .ref 128) (pc' := 4) H0 (H0.fo rfl rfl) (l13 rfl) rfl rfl dX12_isReals_1 rfl fl_RX12_208 ?_
  refine aw_iload_n (pc' := 5) dX12_isReals_4 rfl rfl ?_
  obtain ⟨g1, hf⟩ := gd_e hf
  refine aw_ia (q := 120) (pc' := 6) H0 (H0.fa rfl rfl rfl) g1 dX12_isReals_5 rfl ?_
  refine aw_bipush (v := (-5)) (pc' := 8) dX12_isReals_6 rfl bp_m5 ?_
  refine aw_icmp_eq (tgt := 22) (pc' := 11) dX12_isReals_8 rfl rfl (fun c2 => ?_) (fun c2 => ?_)
  · replace hf := ifp c2 hf
    refine aw_iconst (v := 1) (pc' := 23) dX12_isReals_22 rfl ic_1 ?_
    refine aw_goto (tgt := 27) dX12_isReals_23 rfl ?_
    obtain rfl := Option.some.inj hf
    exact aw_ri dX12_isReals_27 rfl (by decide) (Nat.le_of_ble_eq_true rfl) (Nat.le_of_ble_eq_true rfl) ⟨rfl, rfl, Or.inr rfl⟩
  · replace hf := ifn c2 hf
    refine aw_aload_n (pc' := 12) dX12_isReals_11 rfl rfl rfl ?_
    refine aw_gr (q := 59) (e := 123) (v := .ref 128) (pc' := 15) H0 (H0.fo rfl rfl) (l13 rfl) rfl rfl dX12_isReals_12 rfl fl_RX12_208 ?_
    refine aw_iload_n (pc' := 16) dX12_isReals_15 rfl rfl ?_
    obtain ⟨g3, hf⟩ := gd_e hf
    refine aw_ia (q := 120) (pc' := 17) H0 (H0.fa rfl rfl rfl) g3 dX12_isReals_16 rfl ?_
    refine aw_bipush (v := (-6)) (pc' := 19) dX12_isReals_17 rfl bp_m6 ?_
    refine aw_icmp_ne (tgt := 26) (pc' := 22) dX12_isReals_19 rfl rfl (fun c4 => ?_) (fun c4 => ?_)
    · replace hf := ifn c4 hf
      refine aw_iconst (v := 0) (pc' := 27) dX12_isReals_26 rfl ic_0 ?_
      obtain rfl := Option.some.inj hf
      exact aw_ri dX12_isReals_27 rfl (by decide) (Nat.le_of_ble_eq_true rfl) (Nat.le_of_ble_eq_true rfl) ⟨rfl, rfl, Or.inl rfl⟩
    · replace hf := ifp c4 hf
      refine aw_iconst (v := 1) (pc' := 23) dX12_isReals_22 rfl ic_1 ?_
      refine aw_goto (tgt := 27) dX12_isReals_23 rfl ?_
      obtain rfl := Option.some.inj hf
      exact aw_ri dX12_isReals_27 rfl (by decide) (Nat.le_of_ble_eq_true rfl) (Nat.le_of_ble_eq_true rfl) ⟨rfl, rfl, Or.inr rfl⟩
/-! ThirtyThreeBelowModel.isShelf -/
noncomputable def f_X12_isShelf (a0 : Int32) : Option Int32 := (b1 (f_X12_in a0 (0 : Int32) (5 : Int32)) fun r1 => some r1)
set_option maxRecDepth 4000 in
theorem t_X12_isShelf {r9 : Int32} {h0 : List aE} {a0 : Int32}  (hf : f_X12_isShelf a0 = some r9) : AM mX12_isShelf (1) [.int a0] h0 0 0 (PI fun r' h' => r9 = r' ∧ h0 = h' ∧ (r9 = 0 ∨ r9 = 1)) := by
  unfold f_X12_isShelf at hf
  refine am_of (lv := [some (.int a0)]) rfl (Nat.le_of_ble_eq_true rfl) rfl ?_
  refine aw_iload_n (pc' := 1) dX12_isShelf_0 rfl rfl ?_
  refine aw_iconst (v := 0) (pc' := 2) dX12_isShelf_1 rfl ic_0 ?_
  refine aw_iconst (v := 5) (pc' := 3) dX12_isShelf_2 rfl ic_5 ?_
  obtain ⟨r1, ec1, hf⟩ := b1_e hf
  refine aw_callSi (M' := mX12_in) (nc' := 0) (ns' := 0) (pc' := 6) dX12_isShelf_3 rfl ml_RX12_230 kX12_in (t_X12_in ec1) rfl rfl (Nat.le_of_ble_eq_true rfl) (rokD (by omega) (Nat.le_of_ble_eq_true rfl) (Nat.le_of_ble_eq_true rfl) (Nat.le_of_ble_eq_true rfl)) rfl rfl (fun _ h1 q1 => ?_)
  obtain ⟨rfl, rfl, zb1⟩ := q1
  obtain rfl := Option.some.inj hf
  exact aw_ri dX12_isShelf_6 rfl (nz zb1) (Nat.le_of_ble_eq_true rfl) (Nat.le_of_ble_eq_true rfl) ⟨rfl, rfl, zb1⟩
/-! ThirtyThreeBelowModel.log -/
noncomputable def f_X12_log_L63_b (q0 : SS → Int32 → Int32 → Option (Int32 × SS)) (y1 : Int32) (y2 : Int32) (y3 : Int32) (y4 : Int32) (y5 : Int32) (rc : SS → Int32 → Option (Int32 × SS)) (s : SS) (x6 : Int32) : Option (Int32 × SS) := (if x6 < y5 then (vl ((y4 + x6)) fun v13 => (if (60 : Int32) < v13 then some (x6, s) else (wl ((y3.toInt64 + x6.toInt64)) fun v15 => (gd (inB y2 6) (if (zI s 120 (y2.toInt.toNat)) = ((-1) : Int32) then (q0 s x6 v13) else (if (lg_cmp v15 0) < (0 : Int32) then (q0 s x6 v13) else (gd (inB y2 6) (if (lg_cmp v15 ((zI s 121 (y2.toInt.toNat)).toInt64)) < (0 : Int32) then (vl ((((60 : Int32) * y2) + v15.toInt32)) fun v21 => (jn (fun (t22_0 : Int32) => (gd (inB v21 360) (jn (fun (t24_0 : Int32) => (vl ((((61 : Int32) * y1) + v13)) fun v25 => (gd (inB v25 7320) (st (pI s 73 (v25.toInt.toNat) t24_0) fun s27 => (vl ((((61 : Int32) * y1) + v13)) fun v28 => (gd (inB v28 7320) (st (pI s27 72 (v28.toInt.toNat) ((1 : Int32) &&& 1)) fun s30 => (vl (x6 + 1) fun v31 => (rc s30 v31))))))))) fun k24 => (if (zI s 123 (v21.toInt.toNat)) = (0 : Int32) then (gd (inB v21 360) (k24 ((zJ s 122 (v21.toInt.toNat)).toInt32))) else (k24 t22_0))))) fun k22 => (jn ((k22 0)) fun k34 => (if (1 : Int32) < v13 then (vl (((((61 : Int32) * y1) + v13) - (1 : Int32))) fun v36 => (gd (inB v36 7320) (if (zI s 72 (v36.toInt.toNat)) = (0 : Int32) then k34 else (vl (((((61 : Int32) * y1) + v13) - (1 : Int32))) fun v39 => (gd (inB v39 7320) (k22 (zI s 73 (v39.toInt.toNat)))))))) else k34)))) else (q0 s x6 v13))))))))) else some (y5, s))
noncomputable def f_X12_log_L63 (q0 : SS → Int32 → Int32 → Option (Int32 × SS)) (y1 : Int32) (y2 : Int32) (y3 : Int32) (y4 : Int32) (y5 : Int32) : Nat → SS → Int32 → Option (Int32 × SS)
  | 0, _, _ => none
  | n + 1, s, x6 => f_X12_log_L63_b q0 y1 y2 y3 y4 y5 (f_X12_log_L63 q0 y1 y2 y3 y4 y5 n) s x6
set_option maxRecDepth 4000 in
theorem t_X12_log_L63 {r9 : Int32} {s0 sb s9 : SS} {q0 : SS → Int32 → Int32 → Option (Int32 × SS)} {y1 : Int32} {y2 : Int32} {y3 : Int32} {y4 : Int32} {y5 : Int32} (mb : Mo s0 sb) (hq0 : ∀ (s : SS) (h : List aE) (x6 : Int32) (x7 : Int32), HH s h → Mo sb s → q0 s x6 x7 = some (r9, s9) → AW mX12_log (rmD (3) 0 0) (fin (PI fun r' h' => r9 = r' ∧ HH s9 h' ∧ Mo s0 s9) 0 0) 125 [some (.ref 67), some (.int y1), none, none, none, none, some (.int x6), some (.int x7), none, none, none, none] [] h 0 0) : ∀ (n : Nat) (s : SS) (h : List aE) (x6 : Int32), HH s h → Mo sb s → f_X12_log_L63 q0 y1 y2 y3 y4 y5 n s x6 = some (r9, s9) → AW mX12_log (rmD (3) 0 0) (fin (PI fun r' h' => r9 = r' ∧ HH s9 h' ∧ Mo s0 s9) 0 0) 63 [some (.ref 67), some (.int y1), some (.int y2), some (.int y3), some (.int y4), some (.int y5), some (.int x6), none, none, none, none, none] [] h 0 0 := by
  intro n
  induction n with
  | zero =>
    intro s h x6 H ms hf
    cases hf
  | succ n ih =>
    intro s h x6 H ms hf
    replace hf : f_X12_log_L63_b q0 y1 y2 y3 y4 y5 (f_X12_log_L63 q0 y1 y2 y3 y4 y5 n) s x6 = some (r9, s9) := hf
    unfold f_X12_log_L63_b at hf
    refine aw_iload (pc' := 65) dX12_log_63 rfl rfl ?_
    refine aw_iload (pc' := 67) dX12_log_65 rfl rfl ?_
    refine aw_cge (tgt := 265) (pc' := 70) dX12_log_67 rfl rfl (fun c12 => ?_) (fun c12 => ?_)
    · replace hf := ifn c12 hf
      refine aw_iload (pc' := 267) dX12_log_265 rfl rfl ?_
      obtain ⟨rfl, rfl⟩ := so2 hf
      exact aw_ri dX12_log_267 rfl rfl (Nat.le_of_ble_eq_true rfl) (Nat.le_of_ble_eq_true rfl) ⟨rfl, H, (mb.tr ms)⟩
    · replace hf := ifp c12 hf
      refine aw_iload (pc' := 72) dX12_log_70 rfl rfl ?_
      refine aw_iload (pc' := 74) dX12_log_72 rfl rfl ?_
      refine aw_iadd (pc' := 75) dX12_log_74 rfl ?_
      obtain ⟨v13, ev13, hf⟩ := vl_e hf
      refine aw_topi ev13 ?_
      refine aw_istore (lv' := [_, _, _, _, _, _, _, _, _, _, _, _]) (pc' := 77) dX12_log_75 rfl (Nat.le_of_ble_eq_true rfl) rfl ?_
      refine aw_iload (pc' := 79) dX12_log_77 rfl rfl ?_
      refine aw_bipush (v := 60) (pc' := 81) dX12_log_79 rfl bp_60 ?_
      refine aw_cle (tgt := 87) (pc' := 84) dX12_log_81 rfl rfl (fun c14 => ?_) (fun c14 => ?_)
      · replace hf := ifn c14 hf
        refine aw_iload_n (pc' := 88) dX12_log_87 rfl rfl ?_
        refine aw_i2l (pc' := 89) dX12_log_88 rfl ?_
        refine aw_iload (pc' := 91) dX12_log_89 rfl rfl ?_
        refine aw_i2l (pc' := 92) dX12_log_91 rfl ?_
        refine aw_ladd (pc' := 93) dX12_log_92 rfl ?_
        obtain ⟨v15, ev15, hf⟩ := wl_e hf
        refine aw_topl ev15 ?_
        refine aw_lstore (lv' := [_, _, _, _, _, _, _, _, _, _, _, _]) (pc' := 95) dX12_log_93 rfl (Nat.le_of_ble_eq_true rfl) rfl ?_
        refine aw_aload_n (pc' := 96) dX12_log_95 rfl rfl rfl ?_
        refine aw_gr (q := 59) (e := 123) (v := .ref 128) (pc' := 99) H (H.fo rfl rfl) (by decide) rfl rfl dX12_log_96 rfl fl_RX12_208 ?_
        refine aw_iload_n (pc' := 100) dX12_log_99 rfl rfl ?_
        obtain ⟨g16, hf⟩ := gd_e hf
        refine aw_ia (q := 120) (pc' := 101) H (H.fa rfl rfl rfl) g16 dX12_log_100 rfl ?_
        refine aw_iconst (v := (-1)) (pc' := 102) dX12_log_101 rfl ic_m1 ?_
        refine aw_icmp_eq (tgt := 125) (pc' := 105) dX12_log_102 rfl rfl (fun c17 => ?_) (fun c17 => ?_)
        · replace hf := ifp c17 hf
          refine AW.lv_le (lz_k (lz_k (lz_d (lz_d (lz_d (lz_d (lz_k (lz_k (lz_d (lz_d (lz_d (lz_d lz_0)))))))))))) ?_
          exact hq0 _ _ _ _ H ms hf
        · replace hf := ifn c17 hf
          refine aw_lload (pc' := 107) dX12_log_105 rfl rfl ?_
          refine aw_lconst (v := 0) (pc' := 108) dX12_log_107 rfl (by decide) ?_
          refine aw_lcmp (pc' := 109) dX12_log_108 rfl ?_
          refine aw_zlt (tgt := 125) (pc' := 112) dX12_log_109 rfl rfl (fun c18 => ?_) (fun c18 => ?_)
          · replace hf := ifp c18 hf
            refine AW.lv_le (lz_k (lz_k (lz_d (lz_d (lz_d (lz_d (lz_k (lz_k (lz_d (lz_d (lz_d (lz_d lz_0)))))))))))) ?_
            exact hq0 _ _ _ _ H ms hf
          · replace hf := ifn c18 hf
            refine aw_lload (pc' := 114) dX12_log_112 rfl rfl ?_
            refine aw_aload_n (pc' := 115) dX12_log_114 rfl rfl rfl ?_
            refine aw_gr (q := 59) (e := 125) (v := .ref 129) (pc' := 118) H (H.fo rfl rfl) (by decide) rfl rfl dX12_log_115 rfl fl_RX12_211 ?_
            refine aw_iload_n (pc' := 119) dX12_log_118 rfl rfl ?_
            obtain ⟨g19, hf⟩ := gd_e hf
            refine aw_ia (q := 121) (pc' := 120) H (H.fa rfl rfl rfl) g19 dX12_log_119 rfl ?_
            refine aw_i2l (pc' := 121) dX12_log_120 rfl ?_
            refine aw_lcmp (pc' := 122) dX12_log_121 rfl ?_
            refine aw_zlt (tgt := 158) (pc' := 125) dX12_log_122 rfl rfl (fun c20 => ?_) (fun c20 => ?_)
            · replace hf := ifp c20 hf
              refine aw_bipush (v := 60) (pc' := 160) dX12_log_158 rfl bp_60 ?_
              refine aw_iload_n (pc' := 161) dX12_log_160 rfl rfl ?_
              refine aw_imul (pc' := 162) dX12_log_161 rfl ?_
              refine aw_lload (pc' := 164) dX12_log_162 rfl rfl ?_
              refine aw_l2i (pc' := 165) dX12_log_164 rfl ?_
              refine aw_iadd (pc' := 166) dX12_log_165 rfl ?_
              obtain ⟨v21, ev21, hf⟩ := vl_e hf
              refine aw_topi ev21 ?_
              refine aw_istore (lv' := [_, _, _, _, _, _, _, _, _, _, _, _]) (pc' := 168) dX12_log_166 rfl (Nat.le_of_ble_eq_true rfl) rfl ?_
              refine aw_iload (pc' := 170) dX12_log_168 rfl rfl ?_
              refine aw_iconst (v := 1) (pc' := 171) dX12_log_170 rfl ic_1 ?_
              obtain ⟨k22, ek22, hf⟩ := jn_e hf
              have hk22 : ∀ (t22_0 : Int32), k22 t22_0 = some (r9, s9) → AW mX12_log (rmD (3) 0 0) (fin (PI fun r' h' => r9 = r' ∧ HH s9 h' ∧ Mo s0 s9) 0 0) 209 [some (.ref 67), some (.int y1), some (.int y2), some (.int y3), some (.int y4), some (.int y5), some (.int x6), some (.int v13), none, none, some (.int v21), none] [.int t22_0] h 0 0 := by
                intro t22_0 hf
                subst ek22
                refine aw_istore (lv' := [_, _, _, _, _, _, _, _, _, _, _, _]) (pc' := 211) dX12_log_209 rfl (Nat.le_of_ble_eq_true rfl) rfl ?_
                refine aw_aload_n (pc' := 212) dX12_log_211 rfl rfl rfl ?_
                refine aw_gr (q := 59) (e := 29) (v := .ref 81) (pc' := 215) H (H.fo rfl rfl) (by decide) rfl rfl dX12_log_212 rfl fl_RX12_50 ?_
                refine aw_bipush (v := 61) (pc' := 217) dX12_log_215 rfl bp_61 ?_
                refine aw_iload_n (pc' := 218) dX12_log_217 rfl rfl ?_
                refine aw_imul (pc' := 219) dX12_log_218 rfl ?_
                refine aw_iload (pc' := 221) dX12_log_219 rfl rfl ?_
                refine aw_iadd (pc' := 222) dX12_log_221 rfl ?_
                refine aw_aload_n (pc' := 223) dX12_log_222 rfl rfl rfl ?_
                refine aw_gr (q := 59) (e := 129) (v := .ref 131) (pc' := 226) H (H.fo rfl rfl) (by decide) rfl rfl dX12_log_223 rfl fl_RX12_218 ?_
                refine aw_iload (pc' := 228) dX12_log_226 rfl rfl ?_
                obtain ⟨g23, hf⟩ := gd_e hf
                refine aw_za (q := 123) (pc' := 229) H (H.fa rfl rfl rfl) g23 dX12_log_228 rfl ?_
                obtain ⟨k24, ek24, hf⟩ := jn_e hf
                have hk24 : ∀ (t24_0 : Int32), k24 t24_0 = some (r9, s9) → AW mX12_log (rmD (3) 0 0) (fin (PI fun r' h' => r9 = r' ∧ HH s9 h' ∧ Mo s0 s9) 0 0) 245 [some (.ref 67), some (.int y1), some (.int y2), some (.int y3), some (.int y4), some (.int y5), some (.int x6), some (.int v13), none, none, none, none] [.int t24_0, .int (((61 : Int32) * y1) + v13), .ref 81] h 0 0 := by
                  intro t24_0 hf
                  subst ek24
                  obtain ⟨v25, ev25, hf⟩ := vl_e hf
                  refine aw_sndi ev25 ?_
                  obtain ⟨g26, hf⟩ := gd_e hf
                  obtain ⟨s27, es27, hf⟩ := st_e hf
                  refine aw_is (q := 73) (pc' := 246) es27 H (H.fa rfl rfl rfl) g26 dX12_log_245 rfl (fun h27 H27 => ?_)
                  have m27 := Mo.ofI es27
                  refine aw_aload_n (pc' := 247) dX12_log_246 rfl rfl rfl ?_
                  refine aw_gr (q := 59) (e := 27) (v := .ref 80) (pc' := 250) H27 (H27.fo rfl rfl) (l13 rfl) rfl rfl dX12_log_247 rfl fl_RX12_47 ?_
                  refine aw_bipush (v := 61) (pc' := 252) dX12_log_250 rfl bp_61 ?_
                  refine aw_iload_n (pc' := 253) dX12_log_252 rfl rfl ?_
                  refine aw_imul (pc' := 254) dX12_log_253 rfl ?_
                  refine aw_iload (pc' := 256) dX12_log_254 rfl rfl ?_
                  refine aw_iadd (pc' := 257) dX12_log_256 rfl ?_
                  refine aw_iconst (v := 1) (pc' := 258) dX12_log_257 rfl ic_1 ?_
                  obtain ⟨v28, ev28, hf⟩ := vl_e hf
                  refine aw_sndi ev28 ?_
                  obtain ⟨g29, hf⟩ := gd_e hf
                  obtain ⟨s30, es30, hf⟩ := st_e hf
                  refine aw_zs (q := 72) (pc' := 259) es30 H27 (H27.fa rfl rfl rfl) g29 dX12_log_258 rfl (fun h30 H30 => ?_)
                  have m30 := Mo.ofI es30
                  obtain ⟨v31, ev31, hf⟩ := vl_e hf
                  refine aw_iincV (y := v31) (lv' := [_, _, _, _, _, _, _, _, _, _, _, _]) (pc' := 262) dX12_log_259 rfl rfl (Nat.le_of_ble_eq_true rfl) ev31 rfl ?_
                  refine aw_goto (tgt := 63) dX12_log_262 rfl ?_
                  refine AW.lv_le (lz_k (lz_k (lz_k (lz_k (lz_k (lz_k (lz_k (lz_d (lz_d (lz_d (lz_d (lz_d lz_0)))))))))))) ?_
                  exact ih _ _ _ H30 ((ms.tr m27).tr m30) hf
                clear ek24
                refine aw_if_eq (tgt := 237) (pc' := 232) dX12_log_229 rfl rfl (fun c32 => ?_) (fun c32 => ?_)
                · replace hf := ifp c32 hf
                  refine aw_aload_n (pc' := 238) dX12_log_237 rfl rfl rfl ?_
                  refine aw_gr (q := 59) (e := 127) (v := .ref 130) (pc' := 241) H (H.fo rfl rfl) (by decide) rfl rfl dX12_log_238 rfl fl_RX12_214 ?_
                  refine aw_iload (pc' := 243) dX12_log_241 rfl rfl ?_
                  obtain ⟨g33, hf⟩ := gd_e hf
                  refine aw_ja (q := 122) (pc' := 244) H (H.fa rfl rfl rfl) g33 dX12_log_243 rfl ?_
                  refine aw_l2i (pc' := 245) dX12_log_244 rfl ?_
                  refine AW.lv_le (lz_k (lz_k (lz_k (lz_k (lz_k (lz_k (lz_k (lz_k (lz_d (lz_d (lz_d (lz_d lz_0)))))))))))) ?_
                  exact hk24 _ hf
                · replace hf := ifn c32 hf
                  refine aw_iload (pc' := 234) dX12_log_232 rfl rfl ?_
                  refine aw_goto (tgt := 245) dX12_log_234 rfl ?_
                  refine AW.lv_le (lz_k (lz_k (lz_k (lz_k (lz_k (lz_k (lz_k (lz_k (lz_d (lz_d (lz_d (lz_d lz_0)))))))))))) ?_
                  exact hk24 _ hf
              clear ek22
              obtain ⟨k34, ek34, hf⟩ := jn_e hf
              have hk34 : k34 = some (r9, s9) → AW mX12_log (rmD (3) 0 0) (fin (PI fun r' h' => r9 = r' ∧ HH s9 h' ∧ Mo s0 s9) 0 0) 208 [some (.ref 67), some (.int y1), some (.int y2), some (.int y3), some (.int y4), some (.int y5), some (.int x6), some (.int v13), none, none, some (.int v21), none] [] h 0 0 := by
                intro hf
                subst ek34
                refine aw_iconst (v := 0) (pc' := 209) dX12_log_208 rfl ic_0 ?_
                exact hk22 _ hf
              clear ek34
              refine aw_cle (tgt := 208) (pc' := 174) dX12_log_171 rfl rfl (fun c35 => ?_) (fun c35 => ?_)
              · replace hf := ifn c35 hf
                refine AW.lv_le (lz_k (lz_k (lz_k (lz_k (lz_k (lz_k (lz_k (lz_k (lz_d (lz_d (lz_k (lz_d lz_0)))))))))))) ?_
                exact hk34  hf
              · replace hf := ifp c35 hf
                refine aw_aload_n (pc' := 175) dX12_log_174 rfl rfl rfl ?_
                refine aw_gr (q := 59) (e := 27) (v := .ref 80) (pc' := 178) H (H.fo rfl rfl) (by decide) rfl rfl dX12_log_175 rfl fl_RX12_47 ?_
                refine aw_bipush (v := 61) (pc' := 180) dX12_log_178 rfl bp_61 ?_
                refine aw_iload_n (pc' := 181) dX12_log_180 rfl rfl ?_
                refine aw_imul (pc' := 182) dX12_log_181 rfl ?_
                refine aw_iload (pc' := 184) dX12_log_182 rfl rfl ?_
                refine aw_iadd (pc' := 185) dX12_log_184 rfl ?_
                refine aw_iconst (v := 1) (pc' := 186) dX12_log_185 rfl ic_1 ?_
                refine aw_isub (pc' := 187) dX12_log_186 rfl ?_
                obtain ⟨v36, ev36, hf⟩ := vl_e hf
                refine aw_topi ev36 ?_
                obtain ⟨g37, hf⟩ := gd_e hf
                refine aw_za (q := 72) (pc' := 188) H (H.fa rfl rfl rfl) g37 dX12_log_187 rfl ?_
                refine aw_if_eq (tgt := 208) (pc' := 191) dX12_log_188 rfl rfl (fun c38 => ?_) (fun c38 => ?_)
                · replace hf := ifp c38 hf
                  refine AW.lv_le (lz_k (lz_k (lz_k (lz_k (lz_k (lz_k (lz_k (lz_k (lz_d (lz_d (lz_k (lz_d lz_0)))))))))))) ?_
                  exact hk34  hf
                · replace hf := ifn c38 hf
                  refine aw_aload_n (pc' := 192) dX12_log_191 rfl rfl rfl ?_
                  refine aw_gr (q := 59) (e := 29) (v := .ref 81) (pc' := 195) H (H.fo rfl rfl) (by decide) rfl rfl dX12_log_192 rfl fl_RX12_50 ?_
                  refine aw_bipush (v := 61) (pc' := 197) dX12_log_195 rfl bp_61 ?_
                  refine aw_iload_n (pc' := 198) dX12_log_197 rfl rfl ?_
                  refine aw_imul (pc' := 199) dX12_log_198 rfl ?_
                  refine aw_iload (pc' := 201) dX12_log_199 rfl rfl ?_
                  refine aw_iadd (pc' := 202) dX12_log_201 rfl ?_
                  refine aw_iconst (v := 1) (pc' := 203) dX12_log_202 rfl ic_1 ?_
                  refine aw_isub (pc' := 204) dX12_log_203 rfl ?_
                  obtain ⟨v39, ev39, hf⟩ := vl_e hf
                  refine aw_topi ev39 ?_
                  obtain ⟨g40, hf⟩ := gd_e hf
                  refine aw_ia (q := 73) (pc' := 205) H (H.fa rfl rfl rfl) g40 dX12_log_204 rfl ?_
                  refine aw_goto (tgt := 209) dX12_log_205 rfl ?_
                  refine AW.lv_le (lz_k (lz_k (lz_k (lz_k (lz_k (lz_k (lz_k (lz_k (lz_d (lz_d (lz_k (lz_d lz_0)))))))))))) ?_
                  exact hk22 _ hf
            · replace hf := ifn c20 hf
              refine AW.lv_le (lz_k (lz_k (lz_d (lz_d (lz_d (lz_d (lz_k (lz_k (lz_d (lz_d (lz_d (lz_d lz_0)))))))))))) ?_
              exact hq0 _ _ _ _ H ms hf
      · replace hf := ifp c14 hf
        refine aw_iload (pc' := 86) dX12_log_84 rfl rfl ?_
        obtain ⟨rfl, rfl⟩ := so2 hf
        exact aw_ri dX12_log_86 rfl rfl (Nat.le_of_ble_eq_true rfl) (Nat.le_of_ble_eq_true rfl) ⟨rfl, H, (mb.tr ms)⟩
noncomputable def f_X12_log_L129_b (y1 : Int32) (y6 : Int32) (rc : SS → Int32 → Option (Int32 × SS)) (s : SS) (x10 : Int32) : Option (Int32 × SS) := (if (60 : Int32) < x10 then some (y6, s) else (vl ((((61 : Int32) * y1) + x10)) fun v43 => (gd (inB v43 7320) (st (pI s 72 (v43.toInt.toNat) ((0 : Int32) &&& 1)) fun s45 => (vl (x10 + 1) fun v46 => (rc s45 v46))))))
noncomputable def f_X12_log_L129 (y1 : Int32) (y6 : Int32) : Nat → SS → Int32 → Option (Int32 × SS)
  | 0, _, _ => none
  | n + 1, s, x10 => f_X12_log_L129_b y1 y6 (f_X12_log_L129 y1 y6 n) s x10
set_option maxRecDepth 4000 in
theorem t_X12_log_L129 {r9 : Int32} {s0 sb s9 : SS} {y1 : Int32} {y6 : Int32} (mb : Mo s0 sb)  : ∀ (n : Nat) (s : SS) (h : List aE) (x10 : Int32), HH s h → Mo sb s → f_X12_log_L129 y1 y6 n s x10 = some (r9, s9) → AW mX12_log (rmD (3) 0 0) (fin (PI fun r' h' => r9 = r' ∧ HH s9 h' ∧ Mo s0 s9) 0 0) 129 [some (.ref 67), some (.int y1), none, none, none, none, some (.int y6), none, none, none, some (.int x10), none] [] h 0 0 := by
  intro n
  induction n with
  | zero =>
    intro s h x10 H ms hf
    cases hf
  | succ n ih =>
    intro s h x10 H ms hf
    replace hf : f_X12_log_L129_b y1 y6 (f_X12_log_L129 y1 y6 n) s x10 = some (r9, s9) := hf
    unfold f_X12_log_L129_b at hf
    refine aw_iload (pc' := 131) dX12_log_129 rfl rfl ?_
    refine aw_bipush (v := 60) (pc' := 133) dX12_log_131 rfl bp_60 ?_
    refine aw_cgt (tgt := 155) (pc' := 136) dX12_log_133 rfl rfl (fun c42 => ?_) (fun c42 => ?_)
    · replace hf := ifp c42 hf
      refine aw_iload (pc' := 157) dX12_log_155 rfl rfl ?_
      obtain ⟨rfl, rfl⟩ := so2 hf
      exact aw_ri dX12_log_157 rfl rfl (Nat.le_of_ble_eq_true rfl) (Nat.le_of_ble_eq_true rfl) ⟨rfl, H, (mb.tr ms)⟩
    · replace hf := ifn c42 hf
      refine aw_aload_n (pc' := 137) dX12_log_136 rfl rfl rfl ?_
      refine aw_gr (q := 59) (e := 27) (v := .ref 80) (pc' := 140) H (H.fo rfl rfl) (by decide) rfl rfl dX12_log_137 rfl fl_RX12_47 ?_
      refine aw_bipush (v := 61) (pc' := 142) dX12_log_140 rfl bp_61 ?_
      refine aw_iload_n (pc' := 143) dX12_log_142 rfl rfl ?_
      refine aw_imul (pc' := 144) dX12_log_143 rfl ?_
      refine aw_iload (pc' := 146) dX12_log_144 rfl rfl ?_
      refine aw_iadd (pc' := 147) dX12_log_146 rfl ?_
      refine aw_iconst (v := 0) (pc' := 148) dX12_log_147 rfl ic_0 ?_
      obtain ⟨v43, ev43, hf⟩ := vl_e hf
      refine aw_sndi ev43 ?_
      obtain ⟨g44, hf⟩ := gd_e hf
      obtain ⟨s45, es45, hf⟩ := st_e hf
      refine aw_zs (q := 72) (pc' := 149) es45 H (H.fa rfl rfl rfl) g44 dX12_log_148 rfl (fun h45 H45 => ?_)
      have m45 := Mo.ofI es45
      obtain ⟨v46, ev46, hf⟩ := vl_e hf
      refine aw_iincV (y := v46) (lv' := [_, _, _, _, _, _, _, _, _, _, _, _]) (pc' := 152) dX12_log_149 rfl rfl (Nat.le_of_ble_eq_true rfl) ev46 rfl ?_
      refine aw_goto (tgt := 129) dX12_log_152 rfl ?_
      exact ih _ _ _ H45 (ms.tr m45) hf
noncomputable def f_X12_log (s0 : SS) (a0 : Int32) (a1 : Int32) (a2 : Int32) (a3 : Int32) (a4 : Int32) : Option (Int32 × SS) := (b1 (f_X12_isHole s0 a0) fun r1 => (if r1 = (0 : Int32) then some ((-1), s0) else (b1 (f_X12_isShelf a1) fun r3 => (if r3 = (0 : Int32) then some ((-1), s0) else (b1 (f_X12_in a3 (1 : Int32) (60 : Int32)) fun r5 => (if r5 = (0 : Int32) then some ((-1), s0) else (b1 (f_X12_in a4 (1 : Int32) (60 : Int32)) fun r7 => (if r7 = (0 : Int32) then some ((-1), s0) else (gd (inB a1 6) (jn ((f_X12_log_L63 (fun (s41 : SS) (x41_6 : Int32) (x41_7 : Int32) => (f_X12_log_L129 a0 x41_6 4000 s41 x41_7)) a0 a1 a2 a3 a4 4000 s0 0)) fun k11 => (if (zI s0 120 (a1.toInt.toNat)) = ((-1) : Int32) then k11 else (b1 (f_X12_isReals s0 a1) fun r48 => (if r48 = (0 : Int32) then some ((-12), s0) else k11)))))))))))))
set_option maxRecDepth 4000 in
theorem t_X12_log {r9 : Int32} {s0 s9 : SS} {h0 : List aE} {a0 : Int32} {a1 : Int32} {a2 : Int32} {a3 : Int32} {a4 : Int32} (H0 : HH s0 h0) (hf : f_X12_log s0 a0 a1 a2 a3 a4 = some (r9, s9)) : AM mX12_log (3) [.ref 67, .int a0, .int a1, .int a2, .int a3, .int a4] h0 0 0 (PI fun r' h' => r9 = r' ∧ HH s9 h' ∧ Mo s0 s9) := by
  unfold f_X12_log at hf
  refine am_of (lv := [some (.ref 67), some (.int a0), some (.int a1), some (.int a2), some (.int a3), some (.int a4), none, none, none, none, none, none]) rfl (Nat.le_of_ble_eq_true rfl) rfl ?_
  refine aw_aload_n (pc' := 1) dX12_log_0 rfl rfl rfl ?_
  refine aw_iload_n (pc' := 2) dX12_log_1 rfl rfl ?_
  obtain ⟨r1, ec1, hf⟩ := b1_e hf
  refine aw_callVi (M' := mX12_isHole) (nc' := 0) (ns' := 0) (pc' := 5) dX12_log_2 rfl ml_RX12_268 kX12_isHole (t_X12_isHole H0 ec1) (H0.ob (H0.fo rfl rfl) (by decide)) rfl rfl rfl (Nat.le_of_ble_eq_true rfl) (rokD (by omega) (Nat.le_of_ble_eq_true rfl) (Nat.le_of_ble_eq_true rfl) (Nat.le_of_ble_eq_true rfl)) rfl rfl (fun _ h1 q1 => ?_)
  obtain ⟨rfl, rfl, zb1⟩ := q1
  refine aw_if_eq (tgt := 37) (pc' := 8) dX12_log_5 rfl rfl (fun c2 => ?_) (fun c2 => ?_)
  · replace hf := ifp c2 hf
    refine aw_iconst (v := (-1)) (pc' := 38) dX12_log_37 rfl ic_m1 ?_
    obtain ⟨rfl, rfl⟩ := so2 hf
    exact aw_ri dX12_log_38 rfl rfl (Nat.le_of_ble_eq_true rfl) (Nat.le_of_ble_eq_true rfl) ⟨rfl, H0, (Mo.rf _)⟩
  · replace hf := ifn c2 hf
    refine aw_iload_n (pc' := 9) dX12_log_8 rfl rfl ?_
    obtain ⟨r3, ec3, hf⟩ := b1_e hf
    refine aw_callSi (M' := mX12_isShelf) (nc' := 0) (ns' := 0) (pc' := 12) dX12_log_9 rfl ml_RX12_288 kX12_isShelf (t_X12_isShelf ec3) rfl rfl (Nat.le_of_ble_eq_true rfl) (rokD (by omega) (Nat.le_of_ble_eq_true rfl) (Nat.le_of_ble_eq_true rfl) (Nat.le_of_ble_eq_true rfl)) rfl rfl (fun _ h3 q3 => ?_)
    obtain ⟨rfl, rfl, zb3⟩ := q3
    refine aw_if_eq (tgt := 37) (pc' := 15) dX12_log_12 rfl rfl (fun c4 => ?_) (fun c4 => ?_)
    · replace hf := ifp c4 hf
      refine aw_iconst (v := (-1)) (pc' := 38) dX12_log_37 rfl ic_m1 ?_
      obtain ⟨rfl, rfl⟩ := so2 hf
      exact aw_ri dX12_log_38 rfl rfl (Nat.le_of_ble_eq_true rfl) (Nat.le_of_ble_eq_true rfl) ⟨rfl, H0, (Mo.rf _)⟩
    · replace hf := ifn c4 hf
      refine aw_iload (pc' := 17) dX12_log_15 rfl rfl ?_
      refine aw_iconst (v := 1) (pc' := 18) dX12_log_17 rfl ic_1 ?_
      refine aw_bipush (v := 60) (pc' := 20) dX12_log_18 rfl bp_60 ?_
      obtain ⟨r5, ec5, hf⟩ := b1_e hf
      refine aw_callSi (M' := mX12_in) (nc' := 0) (ns' := 0) (pc' := 23) dX12_log_20 rfl ml_RX12_230 kX12_in (t_X12_in ec5) rfl rfl (Nat.le_of_ble_eq_true rfl) (rokD (by omega) (Nat.le_of_ble_eq_true rfl) (Nat.le_of_ble_eq_true rfl) (Nat.le_of_ble_eq_true rfl)) rfl rfl (fun _ h5 q5 => ?_)
      obtain ⟨rfl, rfl, zb5⟩ := q5
      refine aw_if_eq (tgt := 37) (pc' := 26) dX12_log_23 rfl rfl (fun c6 => ?_) (fun c6 => ?_)
      · replace hf := ifp c6 hf
        refine aw_iconst (v := (-1)) (pc' := 38) dX12_log_37 rfl ic_m1 ?_
        obtain ⟨rfl, rfl⟩ := so2 hf
        exact aw_ri dX12_log_38 rfl rfl (Nat.le_of_ble_eq_true rfl) (Nat.le_of_ble_eq_true rfl) ⟨rfl, H0, (Mo.rf _)⟩
      · replace hf := ifn c6 hf
        refine aw_iload (pc' := 28) dX12_log_26 rfl rfl ?_
        refine aw_iconst (v := 1) (pc' := 29) dX12_log_28 rfl ic_1 ?_
        refine aw_bipush (v := 60) (pc' := 31) dX12_log_29 rfl bp_60 ?_
        obtain ⟨r7, ec7, hf⟩ := b1_e hf
        refine aw_callSi (M' := mX12_in) (nc' := 0) (ns' := 0) (pc' := 34) dX12_log_31 rfl ml_RX12_230 kX12_in (t_X12_in ec7) rfl rfl (Nat.le_of_ble_eq_true rfl) (rokD (by omega) (Nat.le_of_ble_eq_true rfl) (Nat.le_of_ble_eq_true rfl) (Nat.le_of_ble_eq_true rfl)) rfl rfl (fun _ h7 q7 => ?_)
        obtain ⟨rfl, rfl, zb7⟩ := q7
        refine aw_if_ne (tgt := 39) (pc' := 37) dX12_log_34 rfl rfl (fun c8 => ?_) (fun c8 => ?_)
        · replace hf := ifn c8 hf
          refine aw_aload_n (pc' := 40) dX12_log_39 rfl rfl rfl ?_
          refine aw_gr (q := 59) (e := 123) (v := .ref 128) (pc' := 43) H0 (H0.fo rfl rfl) (l13 rfl) rfl rfl dX12_log_40 rfl fl_RX12_208 ?_
          refine aw_iload_n (pc' := 44) dX12_log_43 rfl rfl ?_
          obtain ⟨g10, hf⟩ := gd_e hf
          refine aw_ia (q := 120) (pc' := 45) H0 (H0.fa rfl rfl rfl) g10 dX12_log_44 rfl ?_
          refine aw_iconst (v := (-1)) (pc' := 46) dX12_log_45 rfl ic_m1 ?_
          obtain ⟨k11, ek11, hf⟩ := jn_e hf
          have hk11 : k11 = some (r9, s9) → AW mX12_log (rmD (3) 0 0) (fin (PI fun r' h' => r9 = r' ∧ HH s9 h' ∧ Mo s0 s9) 0 0) 60 [some (.ref 67), some (.int a0), some (.int a1), some (.int a2), some (.int a3), some (.int a4), none, none, none, none, none, none] [] h0 0 0 := by
            intro hf
            subst ek11
            refine aw_iconst (v := 0) (pc' := 61) dX12_log_60 rfl ic_0 ?_
            refine aw_istore (lv' := [_, _, _, _, _, _, _, _, _, _, _, _]) (pc' := 63) dX12_log_61 rfl (Nat.le_of_ble_eq_true rfl) rfl ?_
            refine t_X12_log_L63 (Mo.rf _) (fun s41 h41 x41_6 x41_7 H41 m41 hf => ?_) 4000 _ _ _ H0 (Mo.rf _) hf
            refine aw_iload (pc' := 127) dX12_log_125 rfl rfl ?_
            refine aw_istore (lv' := [_, _, _, _, _, _, _, _, _, _, _, _]) (pc' := 129) dX12_log_127 rfl (Nat.le_of_ble_eq_true rfl) rfl ?_
            refine AW.lv_le (lz_k (lz_k (lz_d (lz_d (lz_d (lz_d (lz_k (lz_d (lz_d (lz_d (lz_k (lz_d lz_0)))))))))))) ?_
            refine t_X12_log_L129 m41  4000 _ _ _ H41 (Mo.rf _) hf
          clear ek11
          refine aw_icmp_eq (tgt := 60) (pc' := 49) dX12_log_46 rfl rfl (fun c47 => ?_) (fun c47 => ?_)
          · replace hf := ifp c47 hf
            exact hk11  hf
          · replace hf := ifn c47 hf
            refine aw_aload_n (pc' := 50) dX12_log_49 rfl rfl rfl ?_
            refine aw_iload_n (pc' := 51) dX12_log_50 rfl rfl ?_
            obtain ⟨r48, ec48, hf⟩ := b1_e hf
            refine aw_callVi (M' := mX12_isReals) (nc' := 0) (ns' := 0) (pc' := 54) dX12_log_51 rfl ml_RX12_291 kX12_isReals (t_X12_isReals H0 ec48) (H0.ob (H0.fo rfl rfl) (by decide)) rfl rfl rfl (Nat.le_of_ble_eq_true rfl) (rokD (by omega) (Nat.le_of_ble_eq_true rfl) (Nat.le_of_ble_eq_true rfl) (Nat.le_of_ble_eq_true rfl)) rfl rfl (fun _ h48 q48 => ?_)
            obtain ⟨rfl, rfl, zb48⟩ := q48
            refine aw_if_ne (tgt := 60) (pc' := 57) dX12_log_54 rfl rfl (fun c49 => ?_) (fun c49 => ?_)
            · replace hf := ifn c49 hf
              exact hk11  hf
            · replace hf := ifp c49 hf
              refine aw_bipush (v := (-12)) (pc' := 59) dX12_log_57 rfl bp_m12 ?_
              obtain ⟨rfl, rfl⟩ := so2 hf
              exact aw_ri dX12_log_59 rfl rfl (Nat.le_of_ble_eq_true rfl) (Nat.le_of_ble_eq_true rfl) ⟨rfl, H0, (Mo.rf _)⟩
        · replace hf := ifp c8 hf
          refine aw_iconst (v := (-1)) (pc' := 38) dX12_log_37 rfl ic_m1 ?_
          obtain ⟨rfl, rfl⟩ := so2 hf
          exact aw_ri dX12_log_38 rfl rfl (Nat.le_of_ble_eq_true rfl) (Nat.le_of_ble_eq_true rfl) ⟨rfl, H0, (Mo.rf _)⟩
/-! ThirtyThreeBelowModel.down4 -/
noncomputable def f_X12_down4 (a0 : Int32) : Option Int32 := (if a0 < (0 : Int32) then some (-(((3 : Int32) - a0) / (4 : Int32))) else some (a0 / (4 : Int32)))
set_option maxRecDepth 4000 in
theorem t_X12_down4 {r9 : Int32} {h0 : List aE} {a0 : Int32}  (hf : f_X12_down4 a0 = some r9) : AM mX12_down4 (0) [.int a0] h0 0 0 (PI fun r' h' => r9 = r' ∧ h0 = h') := by
  unfold f_X12_down4 at hf
  refine am_of (lv := [some (.int a0)]) rfl (Nat.le_of_ble_eq_true rfl) rfl ?_
  refine aw_iload_n (pc' := 1) dX12_down4_0 rfl rfl ?_
  refine aw_zlt (tgt := 10) (pc' := 4) dX12_down4_1 rfl rfl (fun c1 => ?_) (fun c1 => ?_)
  · replace hf := ifp c1 hf
    refine aw_iconst (v := 3) (pc' := 11) dX12_down4_10 rfl ic_3 ?_
    refine aw_iload_n (pc' := 12) dX12_down4_11 rfl rfl ?_
    refine aw_isub (pc' := 13) dX12_down4_12 rfl ?_
    refine aw_iconst (v := 4) (pc' := 14) dX12_down4_13 rfl ic_4 ?_
    refine aw_idiv (pc' := 15) dX12_down4_14 rfl (by decide) ?_
    refine aw_ineg (pc' := 16) dX12_down4_15 rfl ?_
    obtain rfl := Option.some.inj hf
    exact aw_ri dX12_down4_16 rfl rfl (Nat.le_of_ble_eq_true rfl) (Nat.le_of_ble_eq_true rfl) ⟨rfl, rfl⟩
  · replace hf := ifn c1 hf
    refine aw_iload_n (pc' := 5) dX12_down4_4 rfl rfl ?_
    refine aw_iconst (v := 4) (pc' := 6) dX12_down4_5 rfl ic_4 ?_
    refine aw_idiv (pc' := 7) dX12_down4_6 rfl (by decide) ?_
    refine aw_goto (tgt := 16) dX12_down4_7 rfl ?_
    obtain rfl := Option.some.inj hf
    exact aw_ri dX12_down4_16 rfl rfl (Nat.le_of_ble_eq_true rfl) (Nat.le_of_ble_eq_true rfl) ⟨rfl, rfl⟩
