/-! ThirtyThreeBelowModel.ofBody -/
def f_X12_ofBody (s0 : SS) (a0 : Int32) (a1 : Int32) : Option Int32 := (b1 (f_X12_isBody s0 a0) fun r1 => (if r1 = (0 : Int32) then some (-2000000000) else (if a1 = (0 : Int32) then (gd (inB a0 120) (some (zI s0 62 (a0.toInt.toNat)))) else (b1 (f_X12_isHole s0 a0) fun r4 => (if r4 = (0 : Int32) then (gd (inB a0 120) (if (zI s0 62 (a0.toInt.toNat)) = (6 : Int32) then (if a1 = (1 : Int32) then some (zS s0 59 22) else (if a1 = (2 : Int32) then some (zS s0 59 23) else (if a1 = (3 : Int32) then some (zS s0 59 24) else (if a1 = (4 : Int32) then (if (zS s0 59 25) = (0 : Int32) then some 0 else some 1) else some (-2000000000))))) else (gd (inB a0 120) (if (zI s0 62 (a0.toInt.toNat)) = (7 : Int32) then (if a1 = (1 : Int32) then (gd (inB a0 120) (some (zI s0 74 (a0.toInt.toNat)))) else (if a1 = (2 : Int32) then (gd (inB a0 120) (some (zI s0 75 (a0.toInt.toNat)))) else (if a1 = (3 : Int32) then (gd (inB a0 120) (some (zI s0 76 (a0.toInt.toNat)))) else (if a1 = (4 : Int32) then (gd (inB a0 120) (if (zI s0 77 (a0.toInt.toNat)) = (0 : Int32) then some 0 else some 1)) else some (-2000000000))))) else some (-2000000000))))) else (if a1 = 1 then (gd (inB a0 120) (some (zI s0 63 (a0.toInt.toNat)))) else (if a1 = 2 then (gd (inB a0 120) (some (zI s0 64 (a0.toInt.toNat)))) else (if a1 = 3 then (gd (inB a0 120) (some (zI s0 67 (a0.toInt.toNat)))) else (if a1 = 4 then (gd (inB a0 120) (some (zI s0 65 (a0.toInt.toNat)))) else (if a1 = 5 then (gd (inB a0 120) (if (0 : Int32) < (zI s0 69 (a0.toInt.toNat)) then some 1 else some 0)) else (if a1 = 6 then (gd (inB a0 120) (some (zI s0 68 (a0.toInt.toNat)))) else (if a1 = 7 then (gd (inB a0 120) (some (zI s0 66 (a0.toInt.toNat)))) else some (-2000000000)))))))))))))
set_option maxRecDepth 4000 in
theorem t_X12_ofBody {r9 : Int32} {s0 : SS} {h0 : List aE} {a0 : Int32} {a1 : Int32} (H0 : HH s0 h0) (hf : f_X12_ofBody s0 a0 a1 = some r9) : AM mX12_ofBody (3) [.ref 67, .int a0, .int a1] h0 0 0 (PI fun r' h' => r9 = r' ∧ h0 = h') := by
  unfold f_X12_ofBody at hf
  refine am_of (lv := [some (.ref 67), some (.int a0), some (.int a1)]) rfl (Nat.le_of_ble_eq_true rfl) rfl ?_
  refine aw_aload_n (pc' := 1) dX12_ofBody_0 rfl rfl rfl ?_
  refine aw_iload_n (pc' := 2) dX12_ofBody_1 rfl rfl ?_
  obtain ⟨r1, ec1, hf⟩ := b1_e hf
  refine aw_callVi (M' := mX12_isBody) (nc' := 0) (ns' := 0) (pc' := 5) dX12_ofBody_2 rfl ml_RX12_245 kX12_isBody (t_X12_isBody H0 ec1) (H0.ob (H0.fo rfl rfl) (by decide)) rfl rfl rfl (Nat.le_of_ble_eq_true rfl) (rokD (by omega) (Nat.le_of_ble_eq_true rfl) (Nat.le_of_ble_eq_true rfl) (Nat.le_of_ble_eq_true rfl)) rfl rfl (fun _ h1 q1 => ?_)
  obtain ⟨rfl, rfl, zb1⟩ := q1
  refine aw_if_ne (tgt := 12) (pc' := 8) dX12_ofBody_5 (by decide) rfl (fun c2 => ?_) (fun c2 => ?_)
  · replace hf := ifn c2 hf
    refine aw_iload_n (pc' := 13) dX12_ofBody_12 rfl rfl ?_
    refine aw_if_ne (tgt := 23) (pc' := 16) dX12_ofBody_13 (by decide) rfl (fun c3 => ?_) (fun c3 => ?_)
    · replace hf := ifn c3 hf
      refine aw_aload_n (pc' := 24) dX12_ofBody_23 rfl rfl rfl ?_
      refine aw_iload_n (pc' := 25) dX12_ofBody_24 rfl rfl ?_
      obtain ⟨r4, ec4, hf⟩ := b1_e hf
      refine aw_callVi (M' := mX12_isHole) (nc' := 0) (ns' := 0) (pc' := 28) dX12_ofBody_25 rfl ml_RX12_268 kX12_isHole (t_X12_isHole H0 ec4) (H0.ob (H0.fo rfl rfl) (by decide)) rfl rfl rfl (Nat.le_of_ble_eq_true rfl) (rokD (by omega) (Nat.le_of_ble_eq_true rfl) (Nat.le_of_ble_eq_true rfl) (Nat.le_of_ble_eq_true rfl)) rfl rfl (fun _ h4 q4 => ?_)
      obtain ⟨rfl, rfl, zb4⟩ := q4
      refine aw_if_eq (tgt := 137) (pc' := 31) dX12_ofBody_28 (by decide) rfl (fun c5 => ?_) (fun c5 => ?_)
      · replace hf := ifp c5 hf
        refine aw_aload_n (pc' := 138) dX12_ofBody_137 rfl rfl rfl ?_
        refine aw_gr (q := 59) (e := 7) (v := .ref 70) (pc' := 141) H0 (H0.fo rfl rfl) (by decide) rfl rfl dX12_ofBody_138 rfl fl_RX12_17 ?_
        refine aw_iload_n (pc' := 142) dX12_ofBody_141 rfl rfl ?_
        obtain ⟨g6, hf⟩ := gd_e hf
        refine aw_ia (q := 62) (pc' := 143) H0 (H0.fa rfl rfl rfl) g6 dX12_ofBody_142 rfl ?_
        refine aw_bipush (v := 6) (pc' := 145) dX12_ofBody_143 rfl (by decide) ?_
        refine aw_icmp_ne (tgt := 208) (pc' := 148) dX12_ofBody_145 (by decide) rfl (fun c7 => ?_) (fun c7 => ?_)
        · replace hf := ifn c7 hf
          refine aw_aload_n (pc' := 209) dX12_ofBody_208 rfl rfl rfl ?_
          refine aw_gr (q := 59) (e := 7) (v := .ref 70) (pc' := 212) H0 (H0.fo rfl rfl) (by decide) rfl rfl dX12_ofBody_209 rfl fl_RX12_17 ?_
          refine aw_iload_n (pc' := 213) dX12_ofBody_212 rfl rfl ?_
          obtain ⟨g8, hf⟩ := gd_e hf
          refine aw_ia (q := 62) (pc' := 214) H0 (H0.fa rfl rfl rfl) g8 dX12_ofBody_213 rfl ?_
          refine aw_bipush (v := 7) (pc' := 216) dX12_ofBody_214 rfl (by decide) ?_
          refine aw_icmp_eq (tgt := 223) (pc' := 219) dX12_ofBody_216 (by decide) rfl (fun c9 => ?_) (fun c9 => ?_)
          · replace hf := ifp c9 hf
            refine aw_iload_n (pc' := 224) dX12_ofBody_223 rfl rfl ?_
            refine aw_iconst (v := 1) (pc' := 225) dX12_ofBody_224 rfl (by decide) ?_
            refine aw_icmp_ne (tgt := 237) (pc' := 228) dX12_ofBody_225 (by decide) rfl (fun c10 => ?_) (fun c10 => ?_)
            · replace hf := ifn c10 hf
              refine aw_iload_n (pc' := 238) dX12_ofBody_237 rfl rfl ?_
              refine aw_iconst (v := 2) (pc' := 239) dX12_ofBody_238 rfl (by decide) ?_
              refine aw_icmp_ne (tgt := 251) (pc' := 242) dX12_ofBody_239 (by decide) rfl (fun c11 => ?_) (fun c11 => ?_)
              · replace hf := ifn c11 hf
                refine aw_iload_n (pc' := 252) dX12_ofBody_251 rfl rfl ?_
                refine aw_iconst (v := 3) (pc' := 253) dX12_ofBody_252 rfl (by decide) ?_
                refine aw_icmp_ne (tgt := 265) (pc' := 256) dX12_ofBody_253 (by decide) rfl (fun c12 => ?_) (fun c12 => ?_)
                · replace hf := ifn c12 hf
                  refine aw_iload_n (pc' := 266) dX12_ofBody_265 rfl rfl ?_
                  refine aw_iconst (v := 4) (pc' := 267) dX12_ofBody_266 rfl (by decide) ?_
                  refine aw_icmp_ne (tgt := 287) (pc' := 270) dX12_ofBody_267 (by decide) rfl (fun c13 => ?_) (fun c13 => ?_)
                  · replace hf := ifn c13 hf
                    refine aw_ldcw (pc' := 290) dX12_ofBody_287 rfl ct_RX12_267 ?_
                    obtain rfl := Option.some.inj hf
                    exact aw_ri dX12_ofBody_290 rfl rfl (Nat.le_of_ble_eq_true rfl) (Nat.le_of_ble_eq_true rfl) ⟨rfl, rfl⟩
                  · replace hf := ifp c13 hf
                    refine aw_aload_n (pc' := 271) dX12_ofBody_270 rfl rfl rfl ?_
                    refine aw_gr (q := 59) (e := 37) (v := .ref 85) (pc' := 274) H0 (H0.fo rfl rfl) (by decide) rfl rfl dX12_ofBody_271 rfl fl_RX12_62 ?_
                    refine aw_iload_n (pc' := 275) dX12_ofBody_274 rfl rfl ?_
                    obtain ⟨g14, hf⟩ := gd_e hf
                    refine aw_za (q := 77) (pc' := 276) H0 (H0.fa rfl rfl rfl) g14 dX12_ofBody_275 rfl ?_
                    refine aw_if_eq (tgt := 283) (pc' := 279) dX12_ofBody_276 (by decide) rfl (fun c15 => ?_) (fun c15 => ?_)
                    · replace hf := ifp c15 hf
                      refine aw_iconst (v := 0) (pc' := 284) dX12_ofBody_283 rfl (by decide) ?_
                      refine aw_goto (tgt := 290) dX12_ofBody_284 (by decide) ?_
                      obtain rfl := Option.some.inj hf
                      exact aw_ri dX12_ofBody_290 rfl rfl (Nat.le_of_ble_eq_true rfl) (Nat.le_of_ble_eq_true rfl) ⟨rfl, rfl⟩
                    · replace hf := ifn c15 hf
                      refine aw_iconst (v := 1) (pc' := 280) dX12_ofBody_279 rfl (by decide) ?_
                      refine aw_goto (tgt := 290) dX12_ofBody_280 (by decide) ?_
                      obtain rfl := Option.some.inj hf
                      exact aw_ri dX12_ofBody_290 rfl rfl (Nat.le_of_ble_eq_true rfl) (Nat.le_of_ble_eq_true rfl) ⟨rfl, rfl⟩
                · replace hf := ifp c12 hf
                  refine aw_aload_n (pc' := 257) dX12_ofBody_256 rfl rfl rfl ?_
                  refine aw_gr (q := 59) (e := 35) (v := .ref 84) (pc' := 260) H0 (H0.fo rfl rfl) (by decide) rfl rfl dX12_ofBody_257 rfl fl_RX12_59 ?_
                  refine aw_iload_n (pc' := 261) dX12_ofBody_260 rfl rfl ?_
                  obtain ⟨g16, hf⟩ := gd_e hf
                  refine aw_ia (q := 76) (pc' := 262) H0 (H0.fa rfl rfl rfl) g16 dX12_ofBody_261 rfl ?_
                  refine aw_goto (tgt := 290) dX12_ofBody_262 (by decide) ?_
                  obtain rfl := Option.some.inj hf
                  exact aw_ri dX12_ofBody_290 rfl rfl (Nat.le_of_ble_eq_true rfl) (Nat.le_of_ble_eq_true rfl) ⟨rfl, rfl⟩
              · replace hf := ifp c11 hf
                refine aw_aload_n (pc' := 243) dX12_ofBody_242 rfl rfl rfl ?_
                refine aw_gr (q := 59) (e := 33) (v := .ref 83) (pc' := 246) H0 (H0.fo rfl rfl) (by decide) rfl rfl dX12_ofBody_243 rfl fl_RX12_56 ?_
                refine aw_iload_n (pc' := 247) dX12_ofBody_246 rfl rfl ?_
                obtain ⟨g17, hf⟩ := gd_e hf
                refine aw_ia (q := 75) (pc' := 248) H0 (H0.fa rfl rfl rfl) g17 dX12_ofBody_247 rfl ?_
                refine aw_goto (tgt := 290) dX12_ofBody_248 (by decide) ?_
                obtain rfl := Option.some.inj hf
                exact aw_ri dX12_ofBody_290 rfl rfl (Nat.le_of_ble_eq_true rfl) (Nat.le_of_ble_eq_true rfl) ⟨rfl, rfl⟩
            · replace hf := ifp c10 hf
              refine aw_aload_n (pc' := 229) dX12_ofBody_228 rfl rfl rfl ?_
              refine aw_gr (q := 59) (e := 31) (v := .ref 82) (pc' := 232) H0 (H0.fo rfl rfl) (by decide) rfl rfl dX12_ofBody_229 rfl fl_RX12_53 ?_
              refine aw_iload_n (pc' := 233) dX12_ofBody_232 rfl rfl ?_
              obtain ⟨g18, hf⟩ := gd_e hf
              refine aw_ia (q := 74) (pc' := 234) H0 (H0.fa rfl rfl rfl) g18 dX12_ofBody_233 rfl ?_
              refine aw_goto (tgt := 290) dX12_ofBody_234 (by decide) ?_
              obtain rfl := Option.some.inj hf
              exact aw_ri dX12_ofBody_290 rfl rfl (Nat.le_of_ble_eq_true rfl) (Nat.le_of_ble_eq_true rfl) ⟨rfl, rfl⟩
          · replace hf := ifn c9 hf
            refine aw_ldcw (pc' := 222) dX12_ofBody_219 rfl ct_RX12_267 ?_
            obtain rfl := Option.some.inj hf
            exact aw_ri dX12_ofBody_222 rfl rfl (Nat.le_of_ble_eq_true rfl) (Nat.le_of_ble_eq_true rfl) ⟨rfl, rfl⟩
        · replace hf := ifp c7 hf
          refine aw_iload_n (pc' := 149) dX12_ofBody_148 rfl rfl ?_
          refine aw_iconst (v := 1) (pc' := 150) dX12_ofBody_149 rfl (by decide) ?_
          refine aw_icmp_ne (tgt := 160) (pc' := 153) dX12_ofBody_150 (by decide) rfl (fun c19 => ?_) (fun c19 => ?_)
          · replace hf := ifn c19 hf
            refine aw_iload_n (pc' := 161) dX12_ofBody_160 rfl rfl ?_
            refine aw_iconst (v := 2) (pc' := 162) dX12_ofBody_161 rfl (by decide) ?_
            refine aw_icmp_ne (tgt := 172) (pc' := 165) dX12_ofBody_162 (by decide) rfl (fun c20 => ?_) (fun c20 => ?_)
            · replace hf := ifn c20 hf
              refine aw_iload_n (pc' := 173) dX12_ofBody_172 rfl rfl ?_
              refine aw_iconst (v := 3) (pc' := 174) dX12_ofBody_173 rfl (by decide) ?_
              refine aw_icmp_ne (tgt := 184) (pc' := 177) dX12_ofBody_174 (by decide) rfl (fun c21 => ?_) (fun c21 => ?_)
              · replace hf := ifn c21 hf
                refine aw_iload_n (pc' := 185) dX12_ofBody_184 rfl rfl ?_
                refine aw_iconst (v := 4) (pc' := 186) dX12_ofBody_185 rfl (by decide) ?_
                refine aw_icmp_ne (tgt := 204) (pc' := 189) dX12_ofBody_186 (by decide) rfl (fun c22 => ?_) (fun c22 => ?_)
                · replace hf := ifn c22 hf
                  refine aw_ldcw (pc' := 207) dX12_ofBody_204 rfl ct_RX12_267 ?_
                  obtain rfl := Option.some.inj hf
                  exact aw_ri dX12_ofBody_207 rfl rfl (Nat.le_of_ble_eq_true rfl) (Nat.le_of_ble_eq_true rfl) ⟨rfl, rfl⟩
                · replace hf := ifp c22 hf
                  refine aw_aload_n (pc' := 190) dX12_ofBody_189 rfl rfl rfl ?_
                  refine aw_gi (q := 59) (pc' := 193) H0 (H0.fo rfl rfl) (by decide) rfl dX12_ofBody_190 rfl fl_RX12_271 ?_
                  refine aw_if_eq (tgt := 200) (pc' := 196) dX12_ofBody_193 (by decide) rfl (fun c23 => ?_) (fun c23 => ?_)
                  · replace hf := ifp c23 hf
                    refine aw_iconst (v := 0) (pc' := 201) dX12_ofBody_200 rfl (by decide) ?_
                    refine aw_goto (tgt := 207) dX12_ofBody_201 (by decide) ?_
                    obtain rfl := Option.some.inj hf
                    exact aw_ri dX12_ofBody_207 rfl rfl (Nat.le_of_ble_eq_true rfl) (Nat.le_of_ble_eq_true rfl) ⟨rfl, rfl⟩
                  · replace hf := ifn c23 hf
                    refine aw_iconst (v := 1) (pc' := 197) dX12_ofBody_196 rfl (by decide) ?_
                    refine aw_goto (tgt := 207) dX12_ofBody_197 (by decide) ?_
                    obtain rfl := Option.some.inj hf
                    exact aw_ri dX12_ofBody_207 rfl rfl (Nat.le_of_ble_eq_true rfl) (Nat.le_of_ble_eq_true rfl) ⟨rfl, rfl⟩
              · replace hf := ifp c21 hf
                refine aw_aload_n (pc' := 178) dX12_ofBody_177 rfl rfl rfl ?_
                refine aw_gi (q := 59) (pc' := 181) H0 (H0.fo rfl rfl) (by decide) rfl dX12_ofBody_178 rfl fl_RX12_264 ?_
                refine aw_goto (tgt := 207) dX12_ofBody_181 (by decide) ?_
                obtain rfl := Option.some.inj hf
                exact aw_ri dX12_ofBody_207 rfl rfl (Nat.le_of_ble_eq_true rfl) (Nat.le_of_ble_eq_true rfl) ⟨rfl, rfl⟩
            · replace hf := ifp c20 hf
              refine aw_aload_n (pc' := 166) dX12_ofBody_165 rfl rfl rfl ?_
              refine aw_gi (q := 59) (pc' := 169) H0 (H0.fo rfl rfl) (by decide) rfl dX12_ofBody_166 rfl fl_RX12_261 ?_
              refine aw_goto (tgt := 207) dX12_ofBody_169 (by decide) ?_
              obtain rfl := Option.some.inj hf
              exact aw_ri dX12_ofBody_207 rfl rfl (Nat.le_of_ble_eq_true rfl) (Nat.le_of_ble_eq_true rfl) ⟨rfl, rfl⟩
          · replace hf := ifp c19 hf
            refine aw_aload_n (pc' := 154) dX12_ofBody_153 rfl rfl rfl ?_
            refine aw_gi (q := 59) (pc' := 157) H0 (H0.fo rfl rfl) (by decide) rfl dX12_ofBody_154 rfl fl_RX12_258 ?_
            refine aw_goto (tgt := 207) dX12_ofBody_157 (by decide) ?_
            obtain rfl := Option.some.inj hf
            exact aw_ri dX12_ofBody_207 rfl rfl (Nat.le_of_ble_eq_true rfl) (Nat.le_of_ble_eq_true rfl) ⟨rfl, rfl⟩
      · replace hf := ifn c5 hf
        refine aw_iload_n (pc' := 32) dX12_ofBody_31 rfl rfl ?_
        rcases Decidable.em (a1 = 1) with c24 | c24
        · replace hf := ifp c24 hf
          refine aw_tabIn (tgt := 76) (off := 44) dX12_ofBody_32 (by rw [c24]; decide) (by rw [c24]; decide) (by rw [c24]; decide) (by decide) ?_
          refine aw_aload_n (pc' := 77) dX12_ofBody_76 rfl rfl rfl ?_
          refine aw_gr (q := 59) (e := 9) (v := .ref 71) (pc' := 80) H0 (H0.fo rfl rfl) (by decide) rfl rfl dX12_ofBody_77 rfl fl_RX12_20 ?_
          refine aw_iload_n (pc' := 81) dX12_ofBody_80 rfl rfl ?_
          obtain ⟨g25, hf⟩ := gd_e hf
          refine aw_ia (q := 63) (pc' := 82) H0 (H0.fa rfl rfl rfl) g25 dX12_ofBody_81 rfl ?_
          obtain rfl := Option.some.inj hf
          exact aw_ri dX12_ofBody_82 rfl rfl (Nat.le_of_ble_eq_true rfl) (Nat.le_of_ble_eq_true rfl) ⟨rfl, rfl⟩
        replace hf := ifn c24 hf
        rcases Decidable.em (a1 = 2) with c26 | c26
        · replace hf := ifp c26 hf
          refine aw_tabIn (tgt := 83) (off := 51) dX12_ofBody_32 (by rw [c26]; decide) (by rw [c26]; decide) (by rw [c26]; decide) (by decide) ?_
          refine aw_aload_n (pc' := 84) dX12_ofBody_83 rfl rfl rfl ?_
          refine aw_gr (q := 59) (e := 11) (v := .ref 72) (pc' := 87) H0 (H0.fo rfl rfl) (by decide) rfl rfl dX12_ofBody_84 rfl fl_RX12_23 ?_
          refine aw_iload_n (pc' := 88) dX12_ofBody_87 rfl rfl ?_
          obtain ⟨g27, hf⟩ := gd_e hf
          refine aw_ia (q := 64) (pc' := 89) H0 (H0.fa rfl rfl rfl) g27 dX12_ofBody_88 rfl ?_
          obtain rfl := Option.some.inj hf
          exact aw_ri dX12_ofBody_89 rfl rfl (Nat.le_of_ble_eq_true rfl) (Nat.le_of_ble_eq_true rfl) ⟨rfl, rfl⟩
        replace hf := ifn c26 hf
        rcases Decidable.em (a1 = 3) with c28 | c28
        · replace hf := ifp c28 hf
          refine aw_tabIn (tgt := 90) (off := 58) dX12_ofBody_32 (by rw [c28]; decide) (by rw [c28]; decide) (by rw [c28]; decide) (by decide) ?_
          refine aw_aload_n (pc' := 91) dX12_ofBody_90 rfl rfl rfl ?_
          refine aw_gr (q := 59) (e := 17) (v := .ref 75) (pc' := 94) H0 (H0.fo rfl rfl) (by decide) rfl rfl dX12_ofBody_91 rfl fl_RX12_32 ?_
          refine aw_iload_n (pc' := 95) dX12_ofBody_94 rfl rfl ?_
          obtain ⟨g29, hf⟩ := gd_e hf
          refine aw_ia (q := 67) (pc' := 96) H0 (H0.fa rfl rfl rfl) g29 dX12_ofBody_95 rfl ?_
          obtain rfl := Option.some.inj hf
          exact aw_ri dX12_ofBody_96 rfl rfl (Nat.le_of_ble_eq_true rfl) (Nat.le_of_ble_eq_true rfl) ⟨rfl, rfl⟩
        replace hf := ifn c28 hf
        rcases Decidable.em (a1 = 4) with c30 | c30
        · replace hf := ifp c30 hf
          refine aw_tabIn (tgt := 97) (off := 65) dX12_ofBody_32 (by rw [c30]; decide) (by rw [c30]; decide) (by rw [c30]; decide) (by decide) ?_
          refine aw_aload_n (pc' := 98) dX12_ofBody_97 rfl rfl rfl ?_
          refine aw_gr (q := 59) (e := 13) (v := .ref 73) (pc' := 101) H0 (H0.fo rfl rfl) (by decide) rfl rfl dX12_ofBody_98 rfl fl_RX12_26 ?_
          refine aw_iload_n (pc' := 102) dX12_ofBody_101 rfl rfl ?_
          obtain ⟨g31, hf⟩ := gd_e hf
          refine aw_ia (q := 65) (pc' := 103) H0 (H0.fa rfl rfl rfl) g31 dX12_ofBody_102 rfl ?_
          obtain rfl := Option.some.inj hf
          exact aw_ri dX12_ofBody_103 rfl rfl (Nat.le_of_ble_eq_true rfl) (Nat.le_of_ble_eq_true rfl) ⟨rfl, rfl⟩
        replace hf := ifn c30 hf
        rcases Decidable.em (a1 = 5) with c32 | c32
        · replace hf := ifp c32 hf
          refine aw_tabIn (tgt := 104) (off := 72) dX12_ofBody_32 (by rw [c32]; decide) (by rw [c32]; decide) (by rw [c32]; decide) (by decide) ?_
          refine aw_aload_n (pc' := 105) dX12_ofBody_104 rfl rfl rfl ?_
          refine aw_gr (q := 59) (e := 21) (v := .ref 77) (pc' := 108) H0 (H0.fo rfl rfl) (by decide) rfl rfl dX12_ofBody_105 rfl fl_RX12_38 ?_
          refine aw_iload_n (pc' := 109) dX12_ofBody_108 rfl rfl ?_
          obtain ⟨g33, hf⟩ := gd_e hf
          refine aw_ia (q := 69) (pc' := 110) H0 (H0.fa rfl rfl rfl) g33 dX12_ofBody_109 rfl ?_
          refine aw_zle (tgt := 117) (pc' := 113) dX12_ofBody_110 (by decide) rfl (fun c34 => ?_) (fun c34 => ?_)
          · replace hf := ifn c34 hf
            refine aw_iconst (v := 0) (pc' := 118) dX12_ofBody_117 rfl (by decide) ?_
            obtain rfl := Option.some.inj hf
            exact aw_ri dX12_ofBody_118 rfl rfl (Nat.le_of_ble_eq_true rfl) (Nat.le_of_ble_eq_true rfl) ⟨rfl, rfl⟩
          · replace hf := ifp c34 hf
            refine aw_iconst (v := 1) (pc' := 114) dX12_ofBody_113 rfl (by decide) ?_
            refine aw_goto (tgt := 118) dX12_ofBody_114 (by decide) ?_
            obtain rfl := Option.some.inj hf
            exact aw_ri dX12_ofBody_118 rfl rfl (Nat.le_of_ble_eq_true rfl) (Nat.le_of_ble_eq_true rfl) ⟨rfl, rfl⟩
        replace hf := ifn c32 hf
        rcases Decidable.em (a1 = 6) with c35 | c35
        · replace hf := ifp c35 hf
          refine aw_tabIn (tgt := 119) (off := 87) dX12_ofBody_32 (by rw [c35]; decide) (by rw [c35]; decide) (by rw [c35]; decide) (by decide) ?_
          refine aw_aload_n (pc' := 120) dX12_ofBody_119 rfl rfl rfl ?_
          refine aw_gr (q := 59) (e := 19) (v := .ref 76) (pc' := 123) H0 (H0.fo rfl rfl) (by decide) rfl rfl dX12_ofBody_120 rfl fl_RX12_35 ?_
          refine aw_iload_n (pc' := 124) dX12_ofBody_123 rfl rfl ?_
          obtain ⟨g36, hf⟩ := gd_e hf
          refine aw_ia (q := 68) (pc' := 125) H0 (H0.fa rfl rfl rfl) g36 dX12_ofBody_124 rfl ?_
          obtain rfl := Option.some.inj hf
          exact aw_ri dX12_ofBody_125 rfl rfl (Nat.le_of_ble_eq_true rfl) (Nat.le_of_ble_eq_true rfl) ⟨rfl, rfl⟩
        replace hf := ifn c35 hf
        rcases Decidable.em (a1 = 7) with c37 | c37
        · replace hf := ifp c37 hf
          refine aw_tabIn (tgt := 126) (off := 94) dX12_ofBody_32 (by rw [c37]; decide) (by rw [c37]; decide) (by rw [c37]; decide) (by decide) ?_
          refine aw_aload_n (pc' := 127) dX12_ofBody_126 rfl rfl rfl ?_
          refine aw_gr (q := 59) (e := 15) (v := .ref 74) (pc' := 130) H0 (H0.fo rfl rfl) (by decide) rfl rfl dX12_ofBody_127 rfl fl_RX12_29 ?_
          refine aw_iload_n (pc' := 131) dX12_ofBody_130 rfl rfl ?_
          obtain ⟨g38, hf⟩ := gd_e hf
          refine aw_ia (q := 66) (pc' := 132) H0 (H0.fa rfl rfl rfl) g38 dX12_ofBody_131 rfl ?_
          obtain rfl := Option.some.inj hf
          exact aw_ri dX12_ofBody_132 rfl rfl (Nat.le_of_ble_eq_true rfl) (Nat.le_of_ble_eq_true rfl) ⟨rfl, rfl⟩
        replace hf := ifn c37 hf
        refine aw_tabOut (tgt := 133) dX12_ofBody_32 (by have a0 := tneK (K := 1) (by decide) c24; have a1 := tneK (K := 2) (by decide) c26; have a2 := tneK (K := 3) (by decide) c28; have a3 := tneK (K := 4) (by decide) c30; have a4 := tneK (K := 5) (by decide) c32; have a5 := tneK (K := 6) (by decide) c35; have a6 := tneK (K := 7) (by decide) c37; omega) (by decide) ?_
        refine aw_ldcw (pc' := 136) dX12_ofBody_133 rfl ct_RX12_267 ?_
        obtain rfl := Option.some.inj hf
        exact aw_ri dX12_ofBody_136 rfl rfl (Nat.le_of_ble_eq_true rfl) (Nat.le_of_ble_eq_true rfl) ⟨rfl, rfl⟩
    · replace hf := ifp c3 hf
      refine aw_aload_n (pc' := 17) dX12_ofBody_16 rfl rfl rfl ?_
      refine aw_gr (q := 59) (e := 7) (v := .ref 70) (pc' := 20) H0 (H0.fo rfl rfl) (by decide) rfl rfl dX12_ofBody_17 rfl fl_RX12_17 ?_
      refine aw_iload_n (pc' := 21) dX12_ofBody_20 rfl rfl ?_
      obtain ⟨g39, hf⟩ := gd_e hf
      refine aw_ia (q := 62) (pc' := 22) H0 (H0.fa rfl rfl rfl) g39 dX12_ofBody_21 rfl ?_
      obtain rfl := Option.some.inj hf
      exact aw_ri dX12_ofBody_22 rfl rfl (Nat.le_of_ble_eq_true rfl) (Nat.le_of_ble_eq_true rfl) ⟨rfl, rfl⟩
  · replace hf := ifp c2 hf
    refine aw_ldcw (pc' := 11) dX12_ofBody_8 rfl ct_RX12_267 ?_
    obtain rfl := Option.some.inj hf
    exact aw_ri dX12_ofBody_11 rfl rfl (Nat.le_of_ble_eq_true rfl) (Nat.le_of_ble_eq_true rfl) ⟨rfl, rfl⟩
/-! ThirtyThreeBelowModel.ill -/
def f_X12_ill (s0 : SS) (a0 : Int32) (a1 : Int32) : Option (Int32 × SS) := (b1 (f_X12_isMan s0 a0) fun r1 => (if r1 = (0 : Int32) then some ((-1), s0) else (b1 (f_X12_in a1 (0 : Int32) (9 : Int32)) fun r3 => (if r3 = (0 : Int32) then some ((-1), s0) else (gd (inB a0 120) (vl ((zI s0 76 (a0.toInt.toNat))) fun v6 => (gd (inB a0 120) (st (pI s0 76 (a0.toInt.toNat) a1) fun s8 => some (v6, s8)))))))))
set_option maxRecDepth 4000 in
theorem t_X12_ill {r9 : Int32} {s0 s9 : SS} {h0 : List aE} {a0 : Int32} {a1 : Int32} (H0 : HH s0 h0) (hf : f_X12_ill s0 a0 a1 = some (r9, s9)) : AM mX12_ill (3) [.ref 67, .int a0, .int a1] h0 0 0 (PI fun r' h' => r9 = r' ∧ HH s9 h' ∧ Mo s0 s9) := by
  unfold f_X12_ill at hf
  refine am_of (lv := [some (.ref 67), some (.int a0), some (.int a1), none]) rfl (Nat.le_of_ble_eq_true rfl) rfl ?_
  refine aw_aload_n (pc' := 1) dX12_ill_0 rfl rfl rfl ?_
  refine aw_iload_n (pc' := 2) dX12_ill_1 rfl rfl ?_
  obtain ⟨r1, ec1, hf⟩ := b1_e hf
  refine aw_callVi (M' := mX12_isMan) (nc' := 0) (ns' := 0) (pc' := 5) dX12_ill_2 rfl ml_RX12_275 kX12_isMan (t_X12_isMan H0 ec1) (H0.ob (H0.fo rfl rfl) (by decide)) rfl rfl rfl (Nat.le_of_ble_eq_true rfl) (rokD (by omega) (Nat.le_of_ble_eq_true rfl) (Nat.le_of_ble_eq_true rfl) (Nat.le_of_ble_eq_true rfl)) rfl rfl (fun _ h1 q1 => ?_)
  obtain ⟨rfl, rfl, zb1⟩ := q1
  refine aw_if_eq (tgt := 18) (pc' := 8) dX12_ill_5 (by decide) rfl (fun c2 => ?_) (fun c2 => ?_)
  · replace hf := ifp c2 hf
    refine aw_iconst (v := (-1)) (pc' := 19) dX12_ill_18 rfl (by decide) ?_
    obtain ⟨rfl, rfl⟩ := so2 hf
    exact aw_ri dX12_ill_19 rfl rfl (Nat.le_of_ble_eq_true rfl) (Nat.le_of_ble_eq_true rfl) ⟨rfl, H0, (Mo.rf _)⟩
  · replace hf := ifn c2 hf
    refine aw_iload_n (pc' := 9) dX12_ill_8 rfl rfl ?_
    refine aw_iconst (v := 0) (pc' := 10) dX12_ill_9 rfl (by decide) ?_
    refine aw_bipush (v := 9) (pc' := 12) dX12_ill_10 rfl (by decide) ?_
    obtain ⟨r3, ec3, hf⟩ := b1_e hf
    refine aw_callSi (M' := mX12_in) (nc' := 0) (ns' := 0) (pc' := 15) dX12_ill_12 rfl ml_RX12_230 kX12_in (t_X12_in ec3) rfl rfl (Nat.le_of_ble_eq_true rfl) (rokD (by omega) (Nat.le_of_ble_eq_true rfl) (Nat.le_of_ble_eq_true rfl) (Nat.le_of_ble_eq_true rfl)) rfl rfl (fun _ h3 q3 => ?_)
    obtain ⟨rfl, rfl, zb3⟩ := q3
    refine aw_if_ne (tgt := 20) (pc' := 18) dX12_ill_15 (by decide) rfl (fun c4 => ?_) (fun c4 => ?_)
    · replace hf := ifn c4 hf
      refine aw_aload_n (pc' := 21) dX12_ill_20 rfl rfl rfl ?_
      refine aw_gr (q := 59) (e := 35) (v := .ref 84) (pc' := 24) H0 (H0.fo rfl rfl) (by decide) rfl rfl dX12_ill_21 rfl fl_RX12_59 ?_
      refine aw_iload_n (pc' := 25) dX12_ill_24 rfl rfl ?_
      obtain ⟨g5, hf⟩ := gd_e hf
      refine aw_ia (q := 76) (pc' := 26) H0 (H0.fa rfl rfl rfl) g5 dX12_ill_25 rfl ?_
      obtain ⟨v6, ev6, hf⟩ := vl_e hf
      refine aw_topi ev6 ?_
      refine aw_istore_n (lv' := [_, _, _, _]) (pc' := 27) dX12_ill_26 rfl (Nat.le_of_ble_eq_true rfl) rfl ?_
      refine aw_aload_n (pc' := 28) dX12_ill_27 rfl rfl rfl ?_
      refine aw_gr (q := 59) (e := 35) (v := .ref 84) (pc' := 31) H0 (H0.fo rfl rfl) (by decide) rfl rfl dX12_ill_28 rfl fl_RX12_59 ?_
      refine aw_iload_n (pc' := 32) dX12_ill_31 rfl rfl ?_
      refine aw_iload_n (pc' := 33) dX12_ill_32 rfl rfl ?_
      obtain ⟨g7, hf⟩ := gd_e hf
      obtain ⟨s8, es8, hf⟩ := st_e hf
      refine aw_is (q := 76) (pc' := 34) es8 H0 (H0.fa rfl rfl rfl) g7 dX12_ill_33 rfl (fun h8 H8 => ?_)
      have m8 := Mo.ofI es8
      refine aw_iload_n (pc' := 35) dX12_ill_34 rfl rfl ?_
      obtain ⟨rfl, rfl⟩ := so2 hf
      exact aw_ri dX12_ill_35 rfl rfl (Nat.le_of_ble_eq_true rfl) (Nat.le_of_ble_eq_true rfl) ⟨rfl, H8, m8⟩
    · replace hf := ifp c4 hf
      refine aw_iconst (v := (-1)) (pc' := 19) dX12_ill_18 rfl (by decide) ?_
      obtain ⟨rfl, rfl⟩ := so2 hf
      exact aw_ri dX12_ill_19 rfl rfl (Nat.le_of_ble_eq_true rfl) (Nat.le_of_ble_eq_true rfl) ⟨rfl, H0, (Mo.rf _)⟩
/-! ThirtyThreeBelowModel.menBelow -/
def f_X12_menBelow_L4_b (s0 : SS) (rc : Int32 → Int32 → Option Int32) (x1 : Int32) (x2 : Int32) : Option Int32 := (if x2 < (zS s0 59 4) then (gd (inB x2 120) (jn (fun (t3_0 : Int32) => (vl ((x1 + t3_0)) fun v4 => (vl (x2 + 1) fun v5 => (rc v4 v5)))) fun k3 => (if (zI s0 77 (x2.toInt.toNat)) = (0 : Int32) then (k3 0) else (k3 1)))) else some x1)
def f_X12_menBelow_L4 (s0 : SS) : Nat → Int32 → Int32 → Option Int32
  | 0, _, _ => none
  | n + 1, x1, x2 => f_X12_menBelow_L4_b s0 (f_X12_menBelow_L4 s0 n) x1 x2
set_option maxRecDepth 4000 in
theorem t_X12_menBelow_L4 {r9 : Int32} {s0 : SS} {h0 : List aE} (H0 : HH s0 h0)  : ∀ (n : Nat) (x1 : Int32) (x2 : Int32), f_X12_menBelow_L4 s0 n x1 x2 = some r9 → AW mX12_menBelow (rmD (0) 0 0) (fin (PI fun r' h' => r9 = r' ∧ h0 = h') 0 0) 4 [some (.ref 67), some (.int x1), some (.int x2)] [] h0 0 0 := by
  intro n
  induction n with
  | zero =>
    intro x1 x2 hf
    cases hf
  | succ n ih =>
    intro x1 x2 hf
    replace hf : f_X12_menBelow_L4_b s0 (f_X12_menBelow_L4 s0 n) x1 x2 = some r9 := hf
    unfold f_X12_menBelow_L4_b at hf
    refine aw_iload_n (pc' := 5) dX12_menBelow_4 rfl rfl ?_
    refine aw_aload_n (pc' := 6) dX12_menBelow_5 rfl rfl rfl ?_
    refine aw_gi (q := 59) (pc' := 9) H0 (H0.fo rfl rfl) (by decide) rfl dX12_menBelow_6 rfl fl_RX12_242 ?_
    refine aw_cge (tgt := 35) (pc' := 12) dX12_menBelow_9 (by decide) rfl (fun c1 => ?_) (fun c1 => ?_)
    · replace hf := ifn c1 hf
      refine aw_iload_n (pc' := 36) dX12_menBelow_35 rfl rfl ?_
      obtain rfl := Option.some.inj hf
      exact aw_ri dX12_menBelow_36 rfl rfl (Nat.le_of_ble_eq_true rfl) (Nat.le_of_ble_eq_true rfl) ⟨rfl, rfl⟩
    · replace hf := ifp c1 hf
      refine aw_iload_n (pc' := 13) dX12_menBelow_12 rfl rfl ?_
      refine aw_aload_n (pc' := 14) dX12_menBelow_13 rfl rfl rfl ?_
      refine aw_gr (q := 59) (e := 37) (v := .ref 85) (pc' := 17) H0 (H0.fo rfl rfl) (by decide) rfl rfl dX12_menBelow_14 rfl fl_RX12_62 ?_
      refine aw_iload_n (pc' := 18) dX12_menBelow_17 rfl rfl ?_
      obtain ⟨g2, hf⟩ := gd_e hf
      refine aw_za (q := 77) (pc' := 19) H0 (H0.fa rfl rfl rfl) g2 dX12_menBelow_18 rfl ?_
      obtain ⟨k3, ek3, hf⟩ := jn_e hf
      have hk3 : ∀ (t3_0 : Int32), k3 t3_0 = some r9 → AW mX12_menBelow (rmD (0) 0 0) (fin (PI fun r' h' => r9 = r' ∧ h0 = h') 0 0) 27 [some (.ref 67), none, some (.int x2)] [.int t3_0, .int x1] h0 0 0 := by
        intro t3_0 hf
        subst ek3
        refine aw_iadd (pc' := 28) dX12_menBelow_27 rfl ?_
        obtain ⟨v4, ev4, hf⟩ := vl_e hf
        refine aw_topi ev4 ?_
        refine aw_istore_n (lv' := [_, _, _]) (pc' := 29) dX12_menBelow_28 rfl (Nat.le_of_ble_eq_true rfl) rfl ?_
        obtain ⟨v5, ev5, hf⟩ := vl_e hf
        refine aw_iincV (y := v5) (lv' := [_, _, _]) (pc' := 32) dX12_menBelow_29 rfl rfl (Nat.le_of_ble_eq_true rfl) ev5 rfl ?_
        refine aw_goto (tgt := 4) dX12_menBelow_32 (by decide) ?_
        exact ih _ _ hf
      clear ek3
      refine aw_if_eq (tgt := 26) (pc' := 22) dX12_menBelow_19 (by decide) rfl (fun c6 => ?_) (fun c6 => ?_)
      · replace hf := ifp c6 hf
        refine aw_iconst (v := 0) (pc' := 27) dX12_menBelow_26 rfl (by decide) ?_
        refine AW.lv_le (lz_k (lz_d (lz_k lz_0))) ?_
        exact hk3 _ hf
      · replace hf := ifn c6 hf
        refine aw_iconst (v := 1) (pc' := 23) dX12_menBelow_22 rfl (by decide) ?_
        refine aw_goto (tgt := 27) dX12_menBelow_23 (by decide) ?_
        refine AW.lv_le (lz_k (lz_d (lz_k lz_0))) ?_
        exact hk3 _ hf
def f_X12_menBelow (s0 : SS)  : Option Int32 := (f_X12_menBelow_L4 s0 4000 0 0)
set_option maxRecDepth 4000 in
theorem t_X12_menBelow {r9 : Int32} {s0 : SS} {h0 : List aE}  (H0 : HH s0 h0) (hf : f_X12_menBelow s0 = some r9) : AM mX12_menBelow (0) [.ref 67] h0 0 0 (PI fun r' h' => r9 = r' ∧ h0 = h') := by
  unfold f_X12_menBelow at hf
  refine am_of (lv := [some (.ref 67), none, none]) rfl (Nat.le_of_ble_eq_true rfl) rfl ?_
  refine aw_iconst (v := 0) (pc' := 1) dX12_menBelow_0 rfl (by decide) ?_
  refine aw_istore_n (lv' := [_, _, _]) (pc' := 2) dX12_menBelow_1 rfl (Nat.le_of_ble_eq_true rfl) rfl ?_
  refine aw_iconst (v := 0) (pc' := 3) dX12_menBelow_2 rfl (by decide) ?_
  refine aw_istore_n (lv' := [_, _, _]) (pc' := 4) dX12_menBelow_3 rfl (Nat.le_of_ble_eq_true rfl) rfl ?_
  refine t_X12_menBelow_L4 H0  4000 _ _ hf
/-! ThirtyThreeBelowModel.isMachine -/
def f_X12_isMachine (a0 : Int32) : Option Int32 := (b1 (f_X12_in a0 (0 : Int32) (2 : Int32)) fun r1 => some r1)
set_option maxRecDepth 4000 in
theorem t_X12_isMachine {r9 : Int32} {h0 : List aE} {a0 : Int32}  (hf : f_X12_isMachine a0 = some r9) : AM mX12_isMachine (1) [.int a0] h0 0 0 (PI fun r' h' => r9 = r' ∧ h0 = h' ∧ (r9 = 0 ∨ r9 = 1)) := by
  unfold f_X12_isMachine at hf
  refine am_of (lv := [some (.int a0)]) rfl (Nat.le_of_ble_eq_true rfl) rfl ?_
  refine aw_iload_n (pc' := 1) dX12_isMachine_0 rfl rfl ?_
  refine aw_iconst (v := 0) (pc' := 2) dX12_isMachine_1 rfl (by decide) ?_
  refine aw_iconst (v := 2) (pc' := 3) dX12_isMachine_2 rfl (by decide) ?_
  obtain ⟨r1, ec1, hf⟩ := b1_e hf
  refine aw_callSi (M' := mX12_in) (nc' := 0) (ns' := 0) (pc' := 6) dX12_isMachine_3 rfl ml_RX12_230 kX12_in (t_X12_in ec1) rfl rfl (Nat.le_of_ble_eq_true rfl) (rokD (by omega) (Nat.le_of_ble_eq_true rfl) (Nat.le_of_ble_eq_true rfl) (Nat.le_of_ble_eq_true rfl)) rfl rfl (fun _ h1 q1 => ?_)
  obtain ⟨rfl, rfl, zb1⟩ := q1
  obtain rfl := Option.some.inj hf
  exact aw_ri dX12_isMachine_6 rfl (nz zb1) (Nat.le_of_ble_eq_true rfl) (Nat.le_of_ble_eq_true rfl) ⟨rfl, rfl, zb1⟩
/-! ThirtyThreeBelowModel.speed -/
def f_X12_speed (s0 : SS) (a0 : Int32) (a1 : Int32) : Option (Int32 × SS) := (b1 (f_X12_isMachine a0) fun r1 => (if r1 = (0 : Int32) then some ((-1), s0) else (b1 (f_X12_in a1 (10 : Int32) (60 : Int32)) fun r3 => (if r3 = (0 : Int32) then some ((-1), s0) else (gd (inB a0 3) (vl ((zI s0 78 (a0.toInt.toNat))) fun v6 => (gd (inB a0 3) (st (pI s0 78 (a0.toInt.toNat) a1) fun s8 => some (v6, s8)))))))))
set_option maxRecDepth 4000 in
theorem t_X12_speed {r9 : Int32} {s0 s9 : SS} {h0 : List aE} {a0 : Int32} {a1 : Int32} (H0 : HH s0 h0) (hf : f_X12_speed s0 a0 a1 = some (r9, s9)) : AM mX12_speed (2) [.ref 67, .int a0, .int a1] h0 0 0 (PI fun r' h' => r9 = r' ∧ HH s9 h' ∧ Mo s0 s9) := by
  unfold f_X12_speed at hf
  refine am_of (lv := [some (.ref 67), some (.int a0), some (.int a1), none]) rfl (Nat.le_of_ble_eq_true rfl) rfl ?_
  refine aw_iload_n (pc' := 1) dX12_speed_0 rfl rfl ?_
  obtain ⟨r1, ec1, hf⟩ := b1_e hf
  refine aw_callSi (M' := mX12_isMachine) (nc' := 0) (ns' := 0) (pc' := 4) dX12_speed_1 rfl ml_RX12_278 kX12_isMachine (t_X12_isMachine ec1) rfl rfl (Nat.le_of_ble_eq_true rfl) (rokD (by omega) (Nat.le_of_ble_eq_true rfl) (Nat.le_of_ble_eq_true rfl) (Nat.le_of_ble_eq_true rfl)) rfl rfl (fun _ h1 q1 => ?_)
  obtain ⟨rfl, rfl, zb1⟩ := q1
  refine aw_if_eq (tgt := 18) (pc' := 7) dX12_speed_4 (by decide) rfl (fun c2 => ?_) (fun c2 => ?_)
  · replace hf := ifp c2 hf
    refine aw_iconst (v := (-1)) (pc' := 19) dX12_speed_18 rfl (by decide) ?_
    obtain ⟨rfl, rfl⟩ := so2 hf
    exact aw_ri dX12_speed_19 rfl rfl (Nat.le_of_ble_eq_true rfl) (Nat.le_of_ble_eq_true rfl) ⟨rfl, H0, (Mo.rf _)⟩
  · replace hf := ifn c2 hf
    refine aw_iload_n (pc' := 8) dX12_speed_7 rfl rfl ?_
    refine aw_bipush (v := 10) (pc' := 10) dX12_speed_8 rfl (by decide) ?_
    refine aw_bipush (v := 60) (pc' := 12) dX12_speed_10 rfl (by decide) ?_
    obtain ⟨r3, ec3, hf⟩ := b1_e hf
    refine aw_callSi (M' := mX12_in) (nc' := 0) (ns' := 0) (pc' := 15) dX12_speed_12 rfl ml_RX12_230 kX12_in (t_X12_in ec3) rfl rfl (Nat.le_of_ble_eq_true rfl) (rokD (by omega) (Nat.le_of_ble_eq_true rfl) (Nat.le_of_ble_eq_true rfl) (Nat.le_of_ble_eq_true rfl)) rfl rfl (fun _ h3 q3 => ?_)
    obtain ⟨rfl, rfl, zb3⟩ := q3
    refine aw_if_ne (tgt := 20) (pc' := 18) dX12_speed_15 (by decide) rfl (fun c4 => ?_) (fun c4 => ?_)
    · replace hf := ifn c4 hf
      refine aw_aload_n (pc' := 21) dX12_speed_20 rfl rfl rfl ?_
      refine aw_gr (q := 59) (e := 39) (v := .ref 86) (pc' := 24) H0 (H0.fo rfl rfl) (by decide) rfl rfl dX12_speed_21 rfl fl_RX12_69 ?_
      refine aw_iload_n (pc' := 25) dX12_speed_24 rfl rfl ?_
      obtain ⟨g5, hf⟩ := gd_e hf
      refine aw_ia (q := 78) (pc' := 26) H0 (H0.fa rfl rfl rfl) g5 dX12_speed_25 rfl ?_
      obtain ⟨v6, ev6, hf⟩ := vl_e hf
      refine aw_topi ev6 ?_
      refine aw_istore_n (lv' := [_, _, _, _]) (pc' := 27) dX12_speed_26 rfl (Nat.le_of_ble_eq_true rfl) rfl ?_
      refine aw_aload_n (pc' := 28) dX12_speed_27 rfl rfl rfl ?_
      refine aw_gr (q := 59) (e := 39) (v := .ref 86) (pc' := 31) H0 (H0.fo rfl rfl) (by decide) rfl rfl dX12_speed_28 rfl fl_RX12_69 ?_
      refine aw_iload_n (pc' := 32) dX12_speed_31 rfl rfl ?_
      refine aw_iload_n (pc' := 33) dX12_speed_32 rfl rfl ?_
      obtain ⟨g7, hf⟩ := gd_e hf
      obtain ⟨s8, es8, hf⟩ := st_e hf
      refine aw_is (q := 78) (pc' := 34) es8 H0 (H0.fa rfl rfl rfl) g7 dX12_speed_33 rfl (fun h8 H8 => ?_)
      have m8 := Mo.ofI es8
      refine aw_iload_n (pc' := 35) dX12_speed_34 rfl rfl ?_
      obtain ⟨rfl, rfl⟩ := so2 hf
      exact aw_ri dX12_speed_35 rfl rfl (Nat.le_of_ble_eq_true rfl) (Nat.le_of_ble_eq_true rfl) ⟨rfl, H8, m8⟩
    · replace hf := ifp c4 hf
      refine aw_iconst (v := (-1)) (pc' := 19) dX12_speed_18 rfl (by decide) ?_
      obtain ⟨rfl, rfl⟩ := so2 hf
      exact aw_ri dX12_speed_19 rfl rfl (Nat.le_of_ble_eq_true rfl) (Nat.le_of_ble_eq_true rfl) ⟨rfl, H0, (Mo.rf _)⟩
/-! ThirtyThreeBelowModel.set -/
def f_X12_set_L26_b (q0 : Option (Int32 × SS)) (sb : SS) (y1 : Int32) (y2 : Int32) (rc : Int32 → Option (Int32 × SS)) (x3 : Int32) : Option (Int32 × SS) := (if x3 < (3 : Int32) then (jn ((vl (x3 + 1) fun v6 => (rc v6))) fun k5 => (if x3 = y1 then k5 else (if y2 < (0 : Int32) then k5 else (gd (inB x3 3) (if (zI sb 79 (x3.toInt.toNat)) = y2 then some ((-2000000000), sb) else k5))))) else q0)
def f_X12_set_L26 (q0 : Option (Int32 × SS)) (sb : SS) (y1 : Int32) (y2 : Int32) : Nat → Int32 → Option (Int32 × SS)
  | 0, _ => none
  | n + 1, x3 => f_X12_set_L26_b q0 sb y1 y2 (f_X12_set_L26 q0 sb y1 y2 n) x3
set_option maxRecDepth 4000 in
theorem t_X12_set_L26 {r9 : Int32} {s0 sb s9 : SS} {hb : List aE} {q0 : Option (Int32 × SS)} {y1 : Int32} {y2 : Int32} (Hb : HH sb hb) (mb : Mo s0 sb) (hq0 : q0 = some (r9, s9) → AW mX12_set (rmD (3) 0 0) (fin (PI fun r' h' => r9 = r' ∧ HH s9 h' ∧ Mo s0 s9) 0 0) 60 [some (.ref 67), some (.int y1), some (.int y2), none] [] hb 0 0) : ∀ (n : Nat) (x3 : Int32), f_X12_set_L26 q0 sb y1 y2 n x3 = some (r9, s9) → AW mX12_set (rmD (3) 0 0) (fin (PI fun r' h' => r9 = r' ∧ HH s9 h' ∧ Mo s0 s9) 0 0) 26 [some (.ref 67), some (.int y1), some (.int y2), some (.int x3)] [] hb 0 0 := by
  intro n
  induction n with
  | zero =>
    intro x3 hf
    cases hf
  | succ n ih =>
    intro x3 hf
    replace hf : f_X12_set_L26_b q0 sb y1 y2 (f_X12_set_L26 q0 sb y1 y2 n) x3 = some (r9, s9) := hf
    unfold f_X12_set_L26_b at hf
    refine aw_iload_n (pc' := 27) dX12_set_26 rfl rfl ?_
    refine aw_iconst (v := 3) (pc' := 28) dX12_set_27 rfl (by decide) ?_
    refine aw_cge (tgt := 60) (pc' := 31) dX12_set_28 (by decide) rfl (fun c4 => ?_) (fun c4 => ?_)
    · replace hf := ifn c4 hf
      refine AW.lv_le (lz_k (lz_k (lz_k (lz_d lz_0)))) ?_
      exact hq0  hf
    · replace hf := ifp c4 hf
      refine aw_iload_n (pc' := 32) dX12_set_31 rfl rfl ?_
      refine aw_iload_n (pc' := 33) dX12_set_32 rfl rfl ?_
      obtain ⟨k5, ek5, hf⟩ := jn_e hf
      have hk5 : k5 = some (r9, s9) → AW mX12_set (rmD (3) 0 0) (fin (PI fun r' h' => r9 = r' ∧ HH s9 h' ∧ Mo s0 s9) 0 0) 54 [some (.ref 67), some (.int y1), some (.int y2), some (.int x3)] [] hb 0 0 := by
        intro hf
        subst ek5
        obtain ⟨v6, ev6, hf⟩ := vl_e hf
        refine aw_iincV (y := v6) (lv' := [_, _, _, _]) (pc' := 57) dX12_set_54 rfl rfl (Nat.le_of_ble_eq_true rfl) ev6 rfl ?_
        refine aw_goto (tgt := 26) dX12_set_57 (by decide) ?_
        exact ih _ hf
      clear ek5
      refine aw_icmp_eq (tgt := 54) (pc' := 36) dX12_set_33 (by decide) rfl (fun c7 => ?_) (fun c7 => ?_)
      · replace hf := ifp c7 hf
        exact hk5  hf
      · replace hf := ifn c7 hf
        refine aw_iload_n (pc' := 37) dX12_set_36 rfl rfl ?_
        refine aw_zlt (tgt := 54) (pc' := 40) dX12_set_37 (by decide) rfl (fun c8 => ?_) (fun c8 => ?_)
        · replace hf := ifp c8 hf
          exact hk5  hf
        · replace hf := ifn c8 hf
          refine aw_aload_n (pc' := 41) dX12_set_40 rfl rfl rfl ?_
          refine aw_gr (q := 59) (e := 41) (v := .ref 87) (pc' := 44) Hb (Hb.fo rfl rfl) (by decide) rfl rfl dX12_set_41 rfl fl_RX12_72 ?_
          refine aw_iload_n (pc' := 45) dX12_set_44 rfl rfl ?_
          obtain ⟨g9, hf⟩ := gd_e hf
          refine aw_ia (q := 79) (pc' := 46) Hb (Hb.fa rfl rfl rfl) g9 dX12_set_45 rfl ?_
          refine aw_iload_n (pc' := 47) dX12_set_46 rfl rfl ?_
          refine aw_icmp_ne (tgt := 54) (pc' := 50) dX12_set_47 (by decide) rfl (fun c10 => ?_) (fun c10 => ?_)
          · replace hf := ifn c10 hf
            exact hk5  hf
          · replace hf := ifp c10 hf
            refine aw_ldcw (pc' := 53) dX12_set_50 rfl ct_RX12_267 ?_
            obtain ⟨rfl, rfl⟩ := so2 hf
            exact aw_ri dX12_set_53 rfl rfl (Nat.le_of_ble_eq_true rfl) (Nat.le_of_ble_eq_true rfl) ⟨rfl, Hb, mb⟩
def f_X12_set (s0 : SS) (a0 : Int32) (a1 : Int32) : Option (Int32 × SS) := (b1 (f_X12_isMachine a0) fun r1 => (if r1 = (0 : Int32) then some ((-2000000000), s0) else (jn ((f_X12_set_L26 (gd (inB a0 3) (vl ((zI s0 79 (a0.toInt.toNat))) fun v13 => (gd (inB a0 3) (st (pI s0 79 (a0.toInt.toNat) a1) fun s15 => some (v13, s15))))) s0 a0 a1 4000 0)) fun k3 => (if a1 = ((-1) : Int32) then k3 else (b1 (f_X12_isHole s0 a1) fun r17 => (if r17 = (0 : Int32) then some ((-2000000000), s0) else k3))))))
set_option maxRecDepth 4000 in
theorem t_X12_set {r9 : Int32} {s0 s9 : SS} {h0 : List aE} {a0 : Int32} {a1 : Int32} (H0 : HH s0 h0) (hf : f_X12_set s0 a0 a1 = some (r9, s9)) : AM mX12_set (3) [.ref 67, .int a0, .int a1] h0 0 0 (PI fun r' h' => r9 = r' ∧ HH s9 h' ∧ Mo s0 s9) := by
  unfold f_X12_set at hf
  refine am_of (lv := [some (.ref 67), some (.int a0), some (.int a1), none]) rfl (Nat.le_of_ble_eq_true rfl) rfl ?_
  refine aw_iload_n (pc' := 1) dX12_set_0 rfl rfl ?_
  obtain ⟨r1, ec1, hf⟩ := b1_e hf
  refine aw_callSi (M' := mX12_isMachine) (nc' := 0) (ns' := 0) (pc' := 4) dX12_set_1 rfl ml_RX12_278 kX12_isMachine (t_X12_isMachine ec1) rfl rfl (Nat.le_of_ble_eq_true rfl) (rokD (by omega) (Nat.le_of_ble_eq_true rfl) (Nat.le_of_ble_eq_true rfl) (Nat.le_of_ble_eq_true rfl)) rfl rfl (fun _ h1 q1 => ?_)
  obtain ⟨rfl, rfl, zb1⟩ := q1
  refine aw_if_eq (tgt := 20) (pc' := 7) dX12_set_4 (by decide) rfl (fun c2 => ?_) (fun c2 => ?_)
  · replace hf := ifp c2 hf
    refine aw_ldcw (pc' := 23) dX12_set_20 rfl ct_RX12_267 ?_
    obtain ⟨rfl, rfl⟩ := so2 hf
    exact aw_ri dX12_set_23 rfl rfl (Nat.le_of_ble_eq_true rfl) (Nat.le_of_ble_eq_true rfl) ⟨rfl, H0, (Mo.rf _)⟩
  · replace hf := ifn c2 hf
    refine aw_iload_n (pc' := 8) dX12_set_7 rfl rfl ?_
    refine aw_iconst (v := (-1)) (pc' := 9) dX12_set_8 rfl (by decide) ?_
    obtain ⟨k3, ek3, hf⟩ := jn_e hf
    have hk3 : k3 = some (r9, s9) → AW mX12_set (rmD (3) 0 0) (fin (PI fun r' h' => r9 = r' ∧ HH s9 h' ∧ Mo s0 s9) 0 0) 24 [some (.ref 67), some (.int a0), some (.int a1), none] [] h0 0 0 := by
      intro hf
      subst ek3
      refine aw_iconst (v := 0) (pc' := 25) dX12_set_24 rfl (by decide) ?_
      refine aw_istore_n (lv' := [_, _, _, _]) (pc' := 26) dX12_set_25 rfl (Nat.le_of_ble_eq_true rfl) rfl ?_
      refine t_X12_set_L26 H0 (Mo.rf _) (fun hf => ?_) 4000 _ hf
      refine aw_aload_n (pc' := 61) dX12_set_60 rfl rfl rfl ?_
      refine aw_gr (q := 59) (e := 41) (v := .ref 87) (pc' := 64) H0 (H0.fo rfl rfl) (by decide) rfl rfl dX12_set_61 rfl fl_RX12_72 ?_
      refine aw_iload_n (pc' := 65) dX12_set_64 rfl rfl ?_
      obtain ⟨g12, hf⟩ := gd_e hf
      refine aw_ia (q := 79) (pc' := 66) H0 (H0.fa rfl rfl rfl) g12 dX12_set_65 rfl ?_
      obtain ⟨v13, ev13, hf⟩ := vl_e hf
      refine aw_topi ev13 ?_
      refine aw_istore_n (lv' := [_, _, _, _]) (pc' := 67) dX12_set_66 rfl (Nat.le_of_ble_eq_true rfl) rfl ?_
      refine aw_aload_n (pc' := 68) dX12_set_67 rfl rfl rfl ?_
      refine aw_gr (q := 59) (e := 41) (v := .ref 87) (pc' := 71) H0 (H0.fo rfl rfl) (by decide) rfl rfl dX12_set_68 rfl fl_RX12_72 ?_
      refine aw_iload_n (pc' := 72) dX12_set_71 rfl rfl ?_
      refine aw_iload_n (pc' := 73) dX12_set_72 rfl rfl ?_
      obtain ⟨g14, hf⟩ := gd_e hf
      obtain ⟨s15, es15, hf⟩ := st_e hf
      refine aw_is (q := 79) (pc' := 74) es15 H0 (H0.fa rfl rfl rfl) g14 dX12_set_73 rfl (fun h15 H15 => ?_)
      have m15 := Mo.ofI es15
      refine aw_iload_n (pc' := 75) dX12_set_74 rfl rfl ?_
      obtain ⟨rfl, rfl⟩ := so2 hf
      exact aw_ri dX12_set_75 rfl rfl (Nat.le_of_ble_eq_true rfl) (Nat.le_of_ble_eq_true rfl) ⟨rfl, H15, m15⟩
    clear ek3
    refine aw_icmp_eq (tgt := 24) (pc' := 12) dX12_set_9 (by decide) rfl (fun c16 => ?_) (fun c16 => ?_)
    · replace hf := ifp c16 hf
      exact hk3  hf
    · replace hf := ifn c16 hf
      refine aw_aload_n (pc' := 13) dX12_set_12 rfl rfl rfl ?_
      refine aw_iload_n (pc' := 14) dX12_set_13 rfl rfl ?_
      obtain ⟨r17, ec17, hf⟩ := b1_e hf
      refine aw_callVi (M' := mX12_isHole) (nc' := 0) (ns' := 0) (pc' := 17) dX12_set_14 rfl ml_RX12_268 kX12_isHole (t_X12_isHole H0 ec17) (H0.ob (H0.fo rfl rfl) (by decide)) rfl rfl rfl (Nat.le_of_ble_eq_true rfl) (rokD (by omega) (Nat.le_of_ble_eq_true rfl) (Nat.le_of_ble_eq_true rfl) (Nat.le_of_ble_eq_true rfl)) rfl rfl (fun _ h17 q17 => ?_)
      obtain ⟨rfl, rfl, zb17⟩ := q17
      refine aw_if_ne (tgt := 24) (pc' := 20) dX12_set_17 (by decide) rfl (fun c18 => ?_) (fun c18 => ?_)
      · replace hf := ifn c18 hf
        exact hk3  hf
      · replace hf := ifp c18 hf
        refine aw_ldcw (pc' := 23) dX12_set_20 rfl ct_RX12_267 ?_
        obtain ⟨rfl, rfl⟩ := so2 hf
        exact aw_ri dX12_set_23 rfl rfl (Nat.le_of_ble_eq_true rfl) (Nat.le_of_ble_eq_true rfl) ⟨rfl, H0, (Mo.rf _)⟩
/-! ThirtyThreeBelowModel.breaks -/
def f_X12_breaks (s0 : SS) (a0 : Int32) (a1 : Int32) : Option (Int32 × SS) := (b1 (f_X12_isMachine a0) fun r1 => (if r1 = (0 : Int32) then some ((-1), s0) else (b1 (f_X12_in a1 (zS s0 59 1) (1699 : Int32)) fun r3 => (if r3 = (0 : Int32) then some ((-1), s0) else (gd (inB a0 3) (st (pI s0 80 (a0.toInt.toNat) a1) fun s6 => some (1, s6)))))))
set_option maxRecDepth 4000 in
theorem t_X12_breaks {r9 : Int32} {s0 s9 : SS} {h0 : List aE} {a0 : Int32} {a1 : Int32} (H0 : HH s0 h0) (hf : f_X12_breaks s0 a0 a1 = some (r9, s9)) : AM mX12_breaks (2) [.ref 67, .int a0, .int a1] h0 0 0 (PI fun r' h' => r9 = r' ∧ HH s9 h' ∧ Mo s0 s9) := by
  unfold f_X12_breaks at hf
  refine am_of (lv := [some (.ref 67), some (.int a0), some (.int a1)]) rfl (Nat.le_of_ble_eq_true rfl) rfl ?_
  refine aw_iload_n (pc' := 1) dX12_breaks_0 rfl rfl ?_
  obtain ⟨r1, ec1, hf⟩ := b1_e hf
  refine aw_callSi (M' := mX12_isMachine) (nc' := 0) (ns' := 0) (pc' := 4) dX12_breaks_1 rfl ml_RX12_278 kX12_isMachine (t_X12_isMachine ec1) rfl rfl (Nat.le_of_ble_eq_true rfl) (rokD (by omega) (Nat.le_of_ble_eq_true rfl) (Nat.le_of_ble_eq_true rfl) (Nat.le_of_ble_eq_true rfl)) rfl rfl (fun _ h1 q1 => ?_)
  obtain ⟨rfl, rfl, zb1⟩ := q1
  refine aw_if_eq (tgt := 21) (pc' := 7) dX12_breaks_4 (by decide) rfl (fun c2 => ?_) (fun c2 => ?_)
  · replace hf := ifp c2 hf
    refine aw_iconst (v := (-1)) (pc' := 22) dX12_breaks_21 rfl (by decide) ?_
    obtain ⟨rfl, rfl⟩ := so2 hf
    exact aw_ri dX12_breaks_22 rfl rfl (Nat.le_of_ble_eq_true rfl) (Nat.le_of_ble_eq_true rfl) ⟨rfl, H0, (Mo.rf _)⟩
  · replace hf := ifn c2 hf
    refine aw_iload_n (pc' := 8) dX12_breaks_7 rfl rfl ?_
    refine aw_aload_n (pc' := 9) dX12_breaks_8 rfl rfl rfl ?_
    refine aw_gi (q := 59) (pc' := 12) H0 (H0.fo rfl rfl) (by decide) rfl dX12_breaks_9 rfl fl_RX12_281 ?_
    refine aw_sipush (v := 1699) (pc' := 15) dX12_breaks_12 rfl (by decide) ?_
    obtain ⟨r3, ec3, hf⟩ := b1_e hf
    refine aw_callSi (M' := mX12_in) (nc' := 0) (ns' := 0) (pc' := 18) dX12_breaks_15 rfl ml_RX12_230 kX12_in (t_X12_in ec3) rfl rfl (Nat.le_of_ble_eq_true rfl) (rokD (by omega) (Nat.le_of_ble_eq_true rfl) (Nat.le_of_ble_eq_true rfl) (Nat.le_of_ble_eq_true rfl)) rfl rfl (fun _ h3 q3 => ?_)
    obtain ⟨rfl, rfl, zb3⟩ := q3
    refine aw_if_ne (tgt := 23) (pc' := 21) dX12_breaks_18 (by decide) rfl (fun c4 => ?_) (fun c4 => ?_)
    · replace hf := ifn c4 hf
      refine aw_aload_n (pc' := 24) dX12_breaks_23 rfl rfl rfl ?_
      refine aw_gr (q := 59) (e := 43) (v := .ref 88) (pc' := 27) H0 (H0.fo rfl rfl) (by decide) rfl rfl dX12_breaks_24 rfl fl_RX12_75 ?_
      refine aw_iload_n (pc' := 28) dX12_breaks_27 rfl rfl ?_
      refine aw_iload_n (pc' := 29) dX12_breaks_28 rfl rfl ?_
      obtain ⟨g5, hf⟩ := gd_e hf
      obtain ⟨s6, es6, hf⟩ := st_e hf
      refine aw_is (q := 80) (pc' := 30) es6 H0 (H0.fa rfl rfl rfl) g5 dX12_breaks_29 rfl (fun h6 H6 => ?_)
      have m6 := Mo.ofI es6
      refine aw_iconst (v := 1) (pc' := 31) dX12_breaks_30 rfl (by decide) ?_
      obtain ⟨rfl, rfl⟩ := so2 hf
      exact aw_ri dX12_breaks_31 rfl rfl (Nat.le_of_ble_eq_true rfl) (Nat.le_of_ble_eq_true rfl) ⟨rfl, H6, m6⟩
    · replace hf := ifp c4 hf
      refine aw_iconst (v := (-1)) (pc' := 22) dX12_breaks_21 rfl (by decide) ?_
      obtain ⟨rfl, rfl⟩ := so2 hf
      exact aw_ri dX12_breaks_22 rfl rfl (Nat.le_of_ble_eq_true rfl) (Nat.le_of_ble_eq_true rfl) ⟨rfl, H0, (Mo.rf _)⟩
/-! ThirtyThreeBelowModel.yard -/
def f_X12_yard (s0 : SS) (a0 : Int32) (a1 : Int32) : Option (Int32 × SS) := (b1 (f_X12_isHole s0 a0) fun r1 => (if r1 = (0 : Int32) then some ((-1), s0) else (b1 (f_X12_in a1 ((-2) : Int32) (2 : Int32)) fun r3 => (if r3 = (0 : Int32) then some ((-1), s0) else (gd (inB a0 120) (if (0 : Int32) < (zI s0 69 (a0.toInt.toNat)) then some ((-2), s0) else (gd (inB a0 120) (if (zI s0 66 (a0.toInt.toNat)) = (60 : Int32) then some ((-3), s0) else (gd (inB a0 120) (vl (((zI s0 66 (a0.toInt.toNat)) + (1 : Int32))) fun v10 => (gd (inB a0 120) (st (pI s0 66 (a0.toInt.toNat) v10) fun s12 => (gd (inB a0 120) (vl ((((61 : Int32) * a0) + (zI s12 66 (a0.toInt.toNat)))) fun v14 => (gd (inB v14 7320) (st (pI s12 70 (v14.toInt.toNat) a1) fun s16 => (gd (inB a0 120) (some ((zI s16 66 (a0.toInt.toNat)), s16)))))))))))))))))))
set_option maxRecDepth 4000 in
theorem t_X12_yard {r9 : Int32} {s0 s9 : SS} {h0 : List aE} {a0 : Int32} {a1 : Int32} (H0 : HH s0 h0) (hf : f_X12_yard s0 a0 a1 = some (r9, s9)) : AM mX12_yard (3) [.ref 67, .int a0, .int a1] h0 0 0 (PI fun r' h' => r9 = r' ∧ HH s9 h' ∧ Mo s0 s9) := by
  unfold f_X12_yard at hf
  refine am_of (lv := [some (.ref 67), some (.int a0), some (.int a1)]) rfl (Nat.le_of_ble_eq_true rfl) rfl ?_
  refine aw_aload_n (pc' := 1) dX12_yard_0 rfl rfl rfl ?_
  refine aw_iload_n (pc' := 2) dX12_yard_1 rfl rfl ?_
  obtain ⟨r1, ec1, hf⟩ := b1_e hf
  refine aw_callVi (M' := mX12_isHole) (nc' := 0) (ns' := 0) (pc' := 5) dX12_yard_2 rfl ml_RX12_268 kX12_isHole (t_X12_isHole H0 ec1) (H0.ob (H0.fo rfl rfl) (by decide)) rfl rfl rfl (Nat.le_of_ble_eq_true rfl) (rokD (by omega) (Nat.le_of_ble_eq_true rfl) (Nat.le_of_ble_eq_true rfl) (Nat.le_of_ble_eq_true rfl)) rfl rfl (fun _ h1 q1 => ?_)
  obtain ⟨rfl, rfl, zb1⟩ := q1
  refine aw_if_eq (tgt := 18) (pc' := 8) dX12_yard_5 (by decide) rfl (fun c2 => ?_) (fun c2 => ?_)
  · replace hf := ifp c2 hf
    refine aw_iconst (v := (-1)) (pc' := 19) dX12_yard_18 rfl (by decide) ?_
    obtain ⟨rfl, rfl⟩ := so2 hf
    exact aw_ri dX12_yard_19 rfl rfl (Nat.le_of_ble_eq_true rfl) (Nat.le_of_ble_eq_true rfl) ⟨rfl, H0, (Mo.rf _)⟩
  · replace hf := ifn c2 hf
    refine aw_iload_n (pc' := 9) dX12_yard_8 rfl rfl ?_
    refine aw_bipush (v := (-2)) (pc' := 11) dX12_yard_9 rfl (by decide) ?_
    refine aw_iconst (v := 2) (pc' := 12) dX12_yard_11 rfl (by decide) ?_
    obtain ⟨r3, ec3, hf⟩ := b1_e hf
    refine aw_callSi (M' := mX12_in) (nc' := 0) (ns' := 0) (pc' := 15) dX12_yard_12 rfl ml_RX12_230 kX12_in (t_X12_in ec3) rfl rfl (Nat.le_of_ble_eq_true rfl) (rokD (by omega) (Nat.le_of_ble_eq_true rfl) (Nat.le_of_ble_eq_true rfl) (Nat.le_of_ble_eq_true rfl)) rfl rfl (fun _ h3 q3 => ?_)
    obtain ⟨rfl, rfl, zb3⟩ := q3
    refine aw_if_ne (tgt := 20) (pc' := 18) dX12_yard_15 (by decide) rfl (fun c4 => ?_) (fun c4 => ?_)
    · replace hf := ifn c4 hf
      refine aw_aload_n (pc' := 21) dX12_yard_20 rfl rfl rfl ?_
      refine aw_gr (q := 59) (e := 21) (v := .ref 77) (pc' := 24) H0 (H0.fo rfl rfl) (by decide) rfl rfl dX12_yard_21 rfl fl_RX12_38 ?_
      refine aw_iload_n (pc' := 25) dX12_yard_24 rfl rfl ?_
      obtain ⟨g5, hf⟩ := gd_e hf
      refine aw_ia (q := 69) (pc' := 26) H0 (H0.fa rfl rfl rfl) g5 dX12_yard_25 rfl ?_
      refine aw_zle (tgt := 32) (pc' := 29) dX12_yard_26 (by decide) rfl (fun c6 => ?_) (fun c6 => ?_)
      · replace hf := ifn c6 hf
        refine aw_aload_n (pc' := 33) dX12_yard_32 rfl rfl rfl ?_
        refine aw_gr (q := 59) (e := 15) (v := .ref 74) (pc' := 36) H0 (H0.fo rfl rfl) (by decide) rfl rfl dX12_yard_33 rfl fl_RX12_29 ?_
        refine aw_iload_n (pc' := 37) dX12_yard_36 rfl rfl ?_
        obtain ⟨g7, hf⟩ := gd_e hf
        refine aw_ia (q := 66) (pc' := 38) H0 (H0.fa rfl rfl rfl) g7 dX12_yard_37 rfl ?_
        refine aw_bipush (v := 60) (pc' := 40) dX12_yard_38 rfl (by decide) ?_
        refine aw_icmp_ne (tgt := 46) (pc' := 43) dX12_yard_40 (by decide) rfl (fun c8 => ?_) (fun c8 => ?_)
        · replace hf := ifn c8 hf
          refine aw_aload_n (pc' := 47) dX12_yard_46 rfl rfl rfl ?_
          refine aw_gr (q := 59) (e := 15) (v := .ref 74) (pc' := 50) H0 (H0.fo rfl rfl) (by decide) rfl rfl dX12_yard_47 rfl fl_RX12_29 ?_
          refine aw_iload_n (pc' := 51) dX12_yard_50 rfl rfl ?_
          refine aw_dup2 (pc' := 52) dX12_yard_51 rfl rfl rfl ?_
          obtain ⟨g9, hf⟩ := gd_e hf
          refine aw_ia (q := 66) (pc' := 53) H0 (H0.fa rfl rfl rfl) g9 dX12_yard_52 rfl ?_
          refine aw_iconst (v := 1) (pc' := 54) dX12_yard_53 rfl (by decide) ?_
          refine aw_iadd (pc' := 55) dX12_yard_54 rfl ?_
          obtain ⟨v10, ev10, hf⟩ := vl_e hf
          refine aw_topi ev10 ?_
          obtain ⟨g11, hf⟩ := gd_e hf
          obtain ⟨s12, es12, hf⟩ := st_e hf
          refine aw_is (q := 66) (pc' := 56) es12 H0 (H0.fa rfl rfl rfl) g11 dX12_yard_55 rfl (fun h12 H12 => ?_)
          have m12 := Mo.ofI es12
          refine aw_aload_n (pc' := 57) dX12_yard_56 rfl rfl rfl ?_
          refine aw_gr (q := 59) (e := 23) (v := .ref 78) (pc' := 60) H12 (H12.fo rfl rfl) (by decide) rfl rfl dX12_yard_57 rfl fl_RX12_41 ?_
          refine aw_bipush (v := 61) (pc' := 62) dX12_yard_60 rfl (by decide) ?_
          refine aw_iload_n (pc' := 63) dX12_yard_62 rfl rfl ?_
          refine aw_imul (pc' := 64) dX12_yard_63 rfl ?_
          refine aw_aload_n (pc' := 65) dX12_yard_64 rfl rfl rfl ?_
          refine aw_gr (q := 59) (e := 15) (v := .ref 74) (pc' := 68) H12 (H12.fo rfl rfl) (by decide) rfl rfl dX12_yard_65 rfl fl_RX12_29 ?_
          refine aw_iload_n (pc' := 69) dX12_yard_68 rfl rfl ?_
          obtain ⟨g13, hf⟩ := gd_e hf
          refine aw_ia (q := 66) (pc' := 70) H12 (H12.fa rfl rfl rfl) g13 dX12_yard_69 rfl ?_
          refine aw_iadd (pc' := 71) dX12_yard_70 rfl ?_
          refine aw_iload_n (pc' := 72) dX12_yard_71 rfl rfl ?_
          obtain ⟨v14, ev14, hf⟩ := vl_e hf
          refine aw_sndi ev14 ?_
          obtain ⟨g15, hf⟩ := gd_e hf
          obtain ⟨s16, es16, hf⟩ := st_e hf
          refine aw_is (q := 70) (pc' := 73) es16 H12 (H12.fa rfl rfl rfl) g15 dX12_yard_72 rfl (fun h16 H16 => ?_)
          have m16 := Mo.ofI es16
          refine aw_aload_n (pc' := 74) dX12_yard_73 rfl rfl rfl ?_
          refine aw_gr (q := 59) (e := 15) (v := .ref 74) (pc' := 77) H16 (H16.fo rfl rfl) (by decide) rfl rfl dX12_yard_74 rfl fl_RX12_29 ?_
          refine aw_iload_n (pc' := 78) dX12_yard_77 rfl rfl ?_
          obtain ⟨g17, hf⟩ := gd_e hf
          refine aw_ia (q := 66) (pc' := 79) H16 (H16.fa rfl rfl rfl) g17 dX12_yard_78 rfl ?_
          obtain ⟨rfl, rfl⟩ := so2 hf
          exact aw_ri dX12_yard_79 rfl rfl (Nat.le_of_ble_eq_true rfl) (Nat.le_of_ble_eq_true rfl) ⟨rfl, H16, (m12.tr m16)⟩
        · replace hf := ifp c8 hf
          refine aw_bipush (v := (-3)) (pc' := 45) dX12_yard_43 rfl (by decide) ?_
          obtain ⟨rfl, rfl⟩ := so2 hf
          exact aw_ri dX12_yard_45 rfl rfl (Nat.le_of_ble_eq_true rfl) (Nat.le_of_ble_eq_true rfl) ⟨rfl, H0, (Mo.rf _)⟩
      · replace hf := ifp c6 hf
        refine aw_bipush (v := (-2)) (pc' := 31) dX12_yard_29 rfl (by decide) ?_
        obtain ⟨rfl, rfl⟩ := so2 hf
        exact aw_ri dX12_yard_31 rfl rfl (Nat.le_of_ble_eq_true rfl) (Nat.le_of_ble_eq_true rfl) ⟨rfl, H0, (Mo.rf _)⟩
    · replace hf := ifp c4 hf
      refine aw_iconst (v := (-1)) (pc' := 19) dX12_yard_18 rfl (by decide) ?_
      obtain ⟨rfl, rfl⟩ := so2 hf
      exact aw_ri dX12_yard_19 rfl rfl (Nat.le_of_ble_eq_true rfl) (Nat.le_of_ble_eq_true rfl) ⟨rfl, H0, (Mo.rf _)⟩
/-! ThirtyThreeBelowModel.met -/
def f_X12_met (s0 : SS) (a0 : Int32) (a1 : Int32) : Option Int32 := (b1 (f_X12_isHole s0 a0) fun r1 => (if r1 = (0 : Int32) then some (-1) else (gd (inB a0 120) (b1 (f_X12_in a1 (1 : Int32) (zI s0 67 (a0.toInt.toNat))) fun r4 => (if r4 = (0 : Int32) then some (-1) else (vl ((((61 : Int32) * a0) + a1)) fun v6 => (gd (inB v6 7320) (some (zI s0 71 (v6.toInt.toNat))))))))))
set_option maxRecDepth 4000 in
theorem t_X12_met {r9 : Int32} {s0 : SS} {h0 : List aE} {a0 : Int32} {a1 : Int32} (H0 : HH s0 h0) (hf : f_X12_met s0 a0 a1 = some r9) : AM mX12_met (3) [.ref 67, .int a0, .int a1] h0 0 0 (PI fun r' h' => r9 = r' ∧ h0 = h') := by
  unfold f_X12_met at hf
  refine am_of (lv := [some (.ref 67), some (.int a0), some (.int a1)]) rfl (Nat.le_of_ble_eq_true rfl) rfl ?_
  refine aw_aload_n (pc' := 1) dX12_met_0 rfl rfl rfl ?_
  refine aw_iload_n (pc' := 2) dX12_met_1 rfl rfl ?_
  obtain ⟨r1, ec1, hf⟩ := b1_e hf
  refine aw_callVi (M' := mX12_isHole) (nc' := 0) (ns' := 0) (pc' := 5) dX12_met_2 rfl ml_RX12_268 kX12_isHole (t_X12_isHole H0 ec1) (H0.ob (H0.fo rfl rfl) (by decide)) rfl rfl rfl (Nat.le_of_ble_eq_true rfl) (rokD (by omega) (Nat.le_of_ble_eq_true rfl) (Nat.le_of_ble_eq_true rfl) (Nat.le_of_ble_eq_true rfl)) rfl rfl (fun _ h1 q1 => ?_)
  obtain ⟨rfl, rfl, zb1⟩ := q1
  refine aw_if_eq (tgt := 36) (pc' := 8) dX12_met_5 (by decide) rfl (fun c2 => ?_) (fun c2 => ?_)
  · replace hf := ifp c2 hf
    refine aw_iconst (v := (-1)) (pc' := 37) dX12_met_36 rfl (by decide) ?_
    obtain rfl := Option.some.inj hf
    exact aw_ri dX12_met_37 rfl rfl (Nat.le_of_ble_eq_true rfl) (Nat.le_of_ble_eq_true rfl) ⟨rfl, rfl⟩
  · replace hf := ifn c2 hf
    refine aw_iload_n (pc' := 9) dX12_met_8 rfl rfl ?_
    refine aw_iconst (v := 1) (pc' := 10) dX12_met_9 rfl (by decide) ?_
    refine aw_aload_n (pc' := 11) dX12_met_10 rfl rfl rfl ?_
    refine aw_gr (q := 59) (e := 17) (v := .ref 75) (pc' := 14) H0 (H0.fo rfl rfl) (by decide) rfl rfl dX12_met_11 rfl fl_RX12_32 ?_
    refine aw_iload_n (pc' := 15) dX12_met_14 rfl rfl ?_
    obtain ⟨g3, hf⟩ := gd_e hf
    refine aw_ia (q := 67) (pc' := 16) H0 (H0.fa rfl rfl rfl) g3 dX12_met_15 rfl ?_
    obtain ⟨r4, ec4, hf⟩ := b1_e hf
    refine aw_callSi (M' := mX12_in) (nc' := 0) (ns' := 0) (pc' := 19) dX12_met_16 rfl ml_RX12_230 kX12_in (t_X12_in ec4) rfl rfl (Nat.le_of_ble_eq_true rfl) (rokD (by omega) (Nat.le_of_ble_eq_true rfl) (Nat.le_of_ble_eq_true rfl) (Nat.le_of_ble_eq_true rfl)) rfl rfl (fun _ h4 q4 => ?_)
    obtain ⟨rfl, rfl, zb4⟩ := q4
    refine aw_if_eq (tgt := 36) (pc' := 22) dX12_met_19 (by decide) rfl (fun c5 => ?_) (fun c5 => ?_)
    · replace hf := ifp c5 hf
      refine aw_iconst (v := (-1)) (pc' := 37) dX12_met_36 rfl (by decide) ?_
      obtain rfl := Option.some.inj hf
      exact aw_ri dX12_met_37 rfl rfl (Nat.le_of_ble_eq_true rfl) (Nat.le_of_ble_eq_true rfl) ⟨rfl, rfl⟩
    · replace hf := ifn c5 hf
      refine aw_aload_n (pc' := 23) dX12_met_22 rfl rfl rfl ?_
      refine aw_gr (q := 59) (e := 25) (v := .ref 79) (pc' := 26) H0 (H0.fo rfl rfl) (by decide) rfl rfl dX12_met_23 rfl fl_RX12_44 ?_
      refine aw_bipush (v := 61) (pc' := 28) dX12_met_26 rfl (by decide) ?_
      refine aw_iload_n (pc' := 29) dX12_met_28 rfl rfl ?_
      refine aw_imul (pc' := 30) dX12_met_29 rfl ?_
      refine aw_iload_n (pc' := 31) dX12_met_30 rfl rfl ?_
      refine aw_iadd (pc' := 32) dX12_met_31 rfl ?_
      obtain ⟨v6, ev6, hf⟩ := vl_e hf
      refine aw_topi ev6 ?_
      obtain ⟨g7, hf⟩ := gd_e hf
      refine aw_ia (q := 71) (pc' := 33) H0 (H0.fa rfl rfl rfl) g7 dX12_met_32 rfl ?_
      refine aw_goto (tgt := 37) dX12_met_33 (by decide) ?_
      obtain rfl := Option.some.inj hf
      exact aw_ri dX12_met_37 rfl rfl (Nat.le_of_ble_eq_true rfl) (Nat.le_of_ble_eq_true rfl) ⟨rfl, rfl⟩
/-! ThirtyThreeBelowModel.firstThrough -/
def f_X12_firstThrough_L6_b (s0 : SS) (rc : Int32 → Int32 → Option Int32) (x1 : Int32) (x2 : Int32) : Option Int32 := (if x2 < (zS s0 59 4) then (gd (inB x2 120) (jn (fun (j3_1 : Int32) => (vl (x2 + 1) fun v4 => (rc j3_1 v4))) fun k3 => (if (0 : Int32) < (zI s0 69 (x2.toInt.toNat)) then (gd (inB x2 120) (if ((zI s0 69 (x2.toInt.toNat)) - (1 : Int32)) < x1 then (gd (inB x2 120) (vl (((zI s0 69 (x2.toInt.toNat)) - (1 : Int32))) fun v9 => (k3 v9))) else (k3 x1))) else (k3 x1)))) else some x1)
def f_X12_firstThrough_L6 (s0 : SS) : Nat → Int32 → Int32 → Option Int32
  | 0, _, _ => none
  | n + 1, x1, x2 => f_X12_firstThrough_L6_b s0 (f_X12_firstThrough_L6 s0 n) x1 x2
set_option maxRecDepth 4000 in
theorem t_X12_firstThrough_L6 {r9 : Int32} {s0 : SS} {h0 : List aE} (H0 : HH s0 h0)  : ∀ (n : Nat) (x1 : Int32) (x2 : Int32), f_X12_firstThrough_L6 s0 n x1 x2 = some r9 → AW mX12_firstThrough (rmD (0) 0 0) (fin (PI fun r' h' => r9 = r' ∧ h0 = h') 0 0) 6 [some (.ref 67), some (.int x1), some (.int x2)] [] h0 0 0 := by
  intro n
  induction n with
  | zero =>
    intro x1 x2 hf
    cases hf
  | succ n ih =>
    intro x1 x2 hf
    replace hf : f_X12_firstThrough_L6_b s0 (f_X12_firstThrough_L6 s0 n) x1 x2 = some r9 := hf
    unfold f_X12_firstThrough_L6_b at hf
    refine aw_iload_n (pc' := 7) dX12_firstThrough_6 rfl rfl ?_
    refine aw_aload_n (pc' := 8) dX12_firstThrough_7 rfl rfl rfl ?_
    refine aw_gi (q := 59) (pc' := 11) H0 (H0.fo rfl rfl) (by decide) rfl dX12_firstThrough_8 rfl fl_RX12_242 ?_
    refine aw_cge (tgt := 50) (pc' := 14) dX12_firstThrough_11 (by decide) rfl (fun c1 => ?_) (fun c1 => ?_)
    · replace hf := ifn c1 hf
      refine aw_iload_n (pc' := 51) dX12_firstThrough_50 rfl rfl ?_
      obtain rfl := Option.some.inj hf
      exact aw_ri dX12_firstThrough_51 rfl rfl (Nat.le_of_ble_eq_true rfl) (Nat.le_of_ble_eq_true rfl) ⟨rfl, rfl⟩
    · replace hf := ifp c1 hf
      refine aw_aload_n (pc' := 15) dX12_firstThrough_14 rfl rfl rfl ?_
      refine aw_gr (q := 59) (e := 21) (v := .ref 77) (pc' := 18) H0 (H0.fo rfl rfl) (by decide) rfl rfl dX12_firstThrough_15 rfl fl_RX12_38 ?_
      refine aw_iload_n (pc' := 19) dX12_firstThrough_18 rfl rfl ?_
      obtain ⟨g2, hf⟩ := gd_e hf
      refine aw_ia (q := 69) (pc' := 20) H0 (H0.fa rfl rfl rfl) g2 dX12_firstThrough_19 rfl ?_
      obtain ⟨k3, ek3, hf⟩ := jn_e hf
      have hk3 : ∀ (j3_1 : Int32), k3 j3_1 = some r9 → AW mX12_firstThrough (rmD (0) 0 0) (fin (PI fun r' h' => r9 = r' ∧ h0 = h') 0 0) 44 [some (.ref 67), some (.int j3_1), some (.int x2)] [] h0 0 0 := by
        intro j3_1 hf
        subst ek3
        obtain ⟨v4, ev4, hf⟩ := vl_e hf
        refine aw_iincV (y := v4) (lv' := [_, _, _]) (pc' := 47) dX12_firstThrough_44 rfl rfl (Nat.le_of_ble_eq_true rfl) ev4 rfl ?_
        refine aw_goto (tgt := 6) dX12_firstThrough_47 (by decide) ?_
        exact ih _ _ hf
      clear ek3
      refine aw_zle (tgt := 44) (pc' := 23) dX12_firstThrough_20 (by decide) rfl (fun c5 => ?_) (fun c5 => ?_)
      · replace hf := ifn c5 hf
        exact hk3 _ hf
      · replace hf := ifp c5 hf
        refine aw_aload_n (pc' := 24) dX12_firstThrough_23 rfl rfl rfl ?_
        refine aw_gr (q := 59) (e := 21) (v := .ref 77) (pc' := 27) H0 (H0.fo rfl rfl) (by decide) rfl rfl dX12_firstThrough_24 rfl fl_RX12_38 ?_
        refine aw_iload_n (pc' := 28) dX12_firstThrough_27 rfl rfl ?_
        obtain ⟨g6, hf⟩ := gd_e hf
        refine aw_ia (q := 69) (pc' := 29) H0 (H0.fa rfl rfl rfl) g6 dX12_firstThrough_28 rfl ?_
        refine aw_iconst (v := 1) (pc' := 30) dX12_firstThrough_29 rfl (by decide) ?_
        refine aw_isub (pc' := 31) dX12_firstThrough_30 rfl ?_
        refine aw_iload_n (pc' := 32) dX12_firstThrough_31 rfl rfl ?_
        refine aw_cge (tgt := 44) (pc' := 35) dX12_firstThrough_32 (by decide) rfl (fun c7 => ?_) (fun c7 => ?_)
        · replace hf := ifn c7 hf
          exact hk3 _ hf
        · replace hf := ifp c7 hf
          refine aw_aload_n (pc' := 36) dX12_firstThrough_35 rfl rfl rfl ?_
          refine aw_gr (q := 59) (e := 21) (v := .ref 77) (pc' := 39) H0 (H0.fo rfl rfl) (by decide) rfl rfl dX12_firstThrough_36 rfl fl_RX12_38 ?_
          refine aw_iload_n (pc' := 40) dX12_firstThrough_39 rfl rfl ?_
          obtain ⟨g8, hf⟩ := gd_e hf
          refine aw_ia (q := 69) (pc' := 41) H0 (H0.fa rfl rfl rfl) g8 dX12_firstThrough_40 rfl ?_
          refine aw_iconst (v := 1) (pc' := 42) dX12_firstThrough_41 rfl (by decide) ?_
          refine aw_isub (pc' := 43) dX12_firstThrough_42 rfl ?_
          obtain ⟨v9, ev9, hf⟩ := vl_e hf
          refine aw_topi ev9 ?_
          refine aw_istore_n (lv' := [_, _, _]) (pc' := 44) dX12_firstThrough_43 rfl (Nat.le_of_ble_eq_true rfl) rfl ?_
          exact hk3 _ hf
def f_X12_firstThrough (s0 : SS)  : Option Int32 := (f_X12_firstThrough_L6 s0 4000 1700 0)
set_option maxRecDepth 4000 in
theorem t_X12_firstThrough {r9 : Int32} {s0 : SS} {h0 : List aE}  (H0 : HH s0 h0) (hf : f_X12_firstThrough s0 = some r9) : AM mX12_firstThrough (0) [.ref 67] h0 0 0 (PI fun r' h' => r9 = r' ∧ h0 = h') := by
  unfold f_X12_firstThrough at hf
  refine am_of (lv := [some (.ref 67), none, none]) rfl (Nat.le_of_ble_eq_true rfl) rfl ?_
  refine aw_sipush (v := 1700) (pc' := 3) dX12_firstThrough_0 rfl (by decide) ?_
  refine aw_istore_n (lv' := [_, _, _]) (pc' := 4) dX12_firstThrough_3 rfl (Nat.le_of_ble_eq_true rfl) rfl ?_
  refine aw_iconst (v := 0) (pc' := 5) dX12_firstThrough_4 rfl (by decide) ?_
  refine aw_istore_n (lv' := [_, _, _]) (pc' := 6) dX12_firstThrough_5 rfl (Nat.le_of_ble_eq_true rfl) rfl ?_
  refine t_X12_firstThrough_L6 H0  4000 _ _ hf
/-! ThirtyThreeBelowModel.bore -/
def f_X12_bore_L0_b (y1 : Int32) (y2 : Int32) (rc : SS → Option SS) (s : SS) : Option SS := (gd (inB y1 120) (gd (inB y1 120) (if (zI s 67 (y1.toInt.toNat)) < (zI s 66 (y1.toInt.toNat)) then (gd (inB y1 120) (if (zI s 69 (y1.toInt.toNat)) = (0 : Int32) then (gd (inB y1 120) (vl (((zI s 67 (y1.toInt.toNat)) + (1 : Int32))) fun v7 => (gd (inB y1 120) (vl ((((61 : Int32) * y1) + v7)) fun v9 => (gd (inB v9 7320) (b1 (f_X12_held ((zI s 65 (y1.toInt.toNat)) + (zI s 70 (v9.toInt.toNat))) (0 : Int32) (31 : Int32)) fun r11 => (vl ((((61 : Int32) * r11) + v7)) fun v12 => (gd (inB v12 1952) (jn (fun (t14_0 : Int32) => (gd (inB y1 120) (if (zI s 68 (y1.toInt.toNat)) < t14_0 then some s else (gd (inB y1 120) (vl (((zI s 68 (y1.toInt.toNat)) - t14_0)) fun v18 => (gd (inB y1 120) (st (pI s 68 (y1.toInt.toNat) v18) fun s20 => (gd (inB y1 120) (st (pI s20 67 (y1.toInt.toNat) v7) fun s22 => (gd (inB y1 120) (st (pI s22 65 (y1.toInt.toNat) r11) fun s24 => (jn (fun (t25_0 : Int32) => (jn (fun (t26_0 : Int32) => (vl ((((61 : Int32) * y1) + v7)) fun v27 => (gd (inB v27 7320) (st (pI s24 71 (v27.toInt.toNat) t26_0) fun s29 => (jn (fun (s30 : SS)  => (rc s30)) fun k30 => (if t25_0 = (0 : Int32) then (k30 s29) else (vl (((zS s29 59 1) + (1 : Int32))) fun v32 => (gd (inB y1 120) (st (pI s29 69 (y1.toInt.toNat) v32) fun s34 => (k30 s34)))))))))) fun k26 => (if t25_0 = (0 : Int32) then (gd (inB v12 1952) (if (zI s24 61 (v12.toInt.toNat)) = (0 : Int32) then (k26 0) else (k26 1))) else (k26 2)))) fun k25 => (jn ((k25 0)) fun k38 => (if (zS s24 59 21) < (0 : Int32) then k38 else (if v7 = (zS s24 59 24) then (b1 (f_X12_in r11 (zS s24 59 22) (zS s24 59 23)) fun r41 => (if r41 = (0 : Int32) then k38 else (k25 1))) else k38))))))))))))))) fun k14 => (if (zI s 61 (v12.toInt.toNat)) = (0 : Int32) then (gd (inB v12 1952) (k14 (y2 * ((3 : Int32) + (zI s 60 (v12.toInt.toNat)))))) else (k14 0))))))))))) else some s)) else some s)))
def f_X12_bore_L0 (y1 : Int32) (y2 : Int32) : Nat → SS → Option SS
  | 0, _ => none
  | n + 1, s => f_X12_bore_L0_b y1 y2 (f_X12_bore_L0 y1 y2 n) s
set_option maxRecDepth 4000 in
theorem t_X12_bore_L0 {s0 sb s9 : SS} {y1 : Int32} {y2 : Int32} (mb : Mo s0 sb)  : ∀ (n : Nat) (s : SS) (h : List aE), HH s h → Mo sb s → f_X12_bore_L0 y1 y2 n s = some s9 → AW mX12_bore (rmD (1) 0 0) (fin (PV fun h' => HH s9 h' ∧ Mo s0 s9) 0 0) 0 [some (.ref 67), some (.int y1), some (.int y2), none, none, none, none, none] [] h 0 0 := by
  intro n
  induction n with
  | zero =>
    intro s h H ms hf
    cases hf
  | succ n ih =>
    intro s h H ms hf
    replace hf : f_X12_bore_L0_b y1 y2 (f_X12_bore_L0 y1 y2 n) s = some s9 := hf
    unfold f_X12_bore_L0_b at hf
    refine aw_aload_n (pc' := 1) dX12_bore_0 rfl rfl rfl ?_
    refine aw_gr (q := 59) (e := 17) (v := .ref 75) (pc' := 4) H (H.fo rfl rfl) (by decide) rfl rfl dX12_bore_1 rfl fl_RX12_32 ?_
    refine aw_iload_n (pc' := 5) dX12_bore_4 rfl rfl ?_
    obtain ⟨g1, hf⟩ := gd_e hf
    refine aw_ia (q := 67) (pc' := 6) H (H.fa rfl rfl rfl) g1 dX12_bore_5 rfl ?_
    refine aw_aload_n (pc' := 7) dX12_bore_6 rfl rfl rfl ?_
    refine aw_gr (q := 59) (e := 15) (v := .ref 74) (pc' := 10) H (H.fo rfl rfl) (by decide) rfl rfl dX12_bore_7 rfl fl_RX12_29 ?_
    refine aw_iload_n (pc' := 11) dX12_bore_10 rfl rfl ?_
    obtain ⟨g2, hf⟩ := gd_e hf
    refine aw_ia (q := 66) (pc' := 12) H (H.fa rfl rfl rfl) g2 dX12_bore_11 rfl ?_
    refine aw_cge (tgt := 226) (pc' := 15) dX12_bore_12 (by decide) rfl (fun c3 => ?_) (fun c3 => ?_)
    · replace hf := ifn c3 hf
      obtain rfl := Option.some.inj hf
      exact aw_rv dX12_bore_226 rfl (Nat.le_of_ble_eq_true rfl) (Nat.le_of_ble_eq_true rfl) ⟨H, (mb.tr ms)⟩
    · replace hf := ifp c3 hf
      refine aw_aload_n (pc' := 16) dX12_bore_15 rfl rfl rfl ?_
      refine aw_gr (q := 59) (e := 21) (v := .ref 77) (pc' := 19) H (H.fo rfl rfl) (by decide) rfl rfl dX12_bore_16 rfl fl_RX12_38 ?_
      refine aw_iload_n (pc' := 20) dX12_bore_19 rfl rfl ?_
      obtain ⟨g4, hf⟩ := gd_e hf
      refine aw_ia (q := 69) (pc' := 21) H (H.fa rfl rfl rfl) g4 dX12_bore_20 rfl ?_
      refine aw_if_ne (tgt := 226) (pc' := 24) dX12_bore_21 (by decide) rfl (fun c5 => ?_) (fun c5 => ?_)
      · replace hf := ifn c5 hf
        obtain rfl := Option.some.inj hf
        exact aw_rv dX12_bore_226 rfl (Nat.le_of_ble_eq_true rfl) (Nat.le_of_ble_eq_true rfl) ⟨H, (mb.tr ms)⟩
      · replace hf := ifp c5 hf
        refine aw_aload_n (pc' := 25) dX12_bore_24 rfl rfl rfl ?_
        refine aw_gr (q := 59) (e := 17) (v := .ref 75) (pc' := 28) H (H.fo rfl rfl) (by decide) rfl rfl dX12_bore_25 rfl fl_RX12_32 ?_
        refine aw_iload_n (pc' := 29) dX12_bore_28 rfl rfl ?_
        obtain ⟨g6, hf⟩ := gd_e hf
        refine aw_ia (q := 67) (pc' := 30) H (H.fa rfl rfl rfl) g6 dX12_bore_29 rfl ?_
        refine aw_iconst (v := 1) (pc' := 31) dX12_bore_30 rfl (by decide) ?_
        refine aw_iadd (pc' := 32) dX12_bore_31 rfl ?_
        obtain ⟨v7, ev7, hf⟩ := vl_e hf
        refine aw_topi ev7 ?_
        refine aw_istore_n (lv' := [_, _, _, _, _, _, _, _]) (pc' := 33) dX12_bore_32 rfl (Nat.le_of_ble_eq_true rfl) rfl ?_
        refine aw_aload_n (pc' := 34) dX12_bore_33 rfl rfl rfl ?_
        refine aw_gr (q := 59) (e := 13) (v := .ref 73) (pc' := 37) H (H.fo rfl rfl) (by decide) rfl rfl dX12_bore_34 rfl fl_RX12_26 ?_
        refine aw_iload_n (pc' := 38) dX12_bore_37 rfl rfl ?_
        obtain ⟨g8, hf⟩ := gd_e hf
        refine aw_ia (q := 65) (pc' := 39) H (H.fa rfl rfl rfl) g8 dX12_bore_38 rfl ?_
        refine aw_aload_n (pc' := 40) dX12_bore_39 rfl rfl rfl ?_
        refine aw_gr (q := 59) (e := 23) (v := .ref 78) (pc' := 43) H (H.fo rfl rfl) (by decide) rfl rfl dX12_bore_40 rfl fl_RX12_41 ?_
        refine aw_bipush (v := 61) (pc' := 45) dX12_bore_43 rfl (by decide) ?_
        refine aw_iload_n (pc' := 46) dX12_bore_45 rfl rfl ?_
        refine aw_imul (pc' := 47) dX12_bore_46 rfl ?_
        refine aw_iload_n (pc' := 48) dX12_bore_47 rfl rfl ?_
        refine aw_iadd (pc' := 49) dX12_bore_48 rfl ?_
        obtain ⟨v9, ev9, hf⟩ := vl_e hf
        refine aw_topi ev9 ?_
        obtain ⟨g10, hf⟩ := gd_e hf
        refine aw_ia (q := 70) (pc' := 50) H (H.fa rfl rfl rfl) g10 dX12_bore_49 rfl ?_
        refine aw_iadd (pc' := 51) dX12_bore_50 rfl ?_
        refine aw_iconst (v := 0) (pc' := 52) dX12_bore_51 rfl (by decide) ?_
        refine aw_bipush (v := 31) (pc' := 54) dX12_bore_52 rfl (by decide) ?_
        obtain ⟨r11, ec11, hf⟩ := b1_e hf
        refine aw_callSi (M' := mX12_held) (nc' := 0) (ns' := 0) (pc' := 57) dX12_bore_54 rfl ml_RX12_284 kX12_held (t_X12_held ec11) rfl rfl (Nat.le_of_ble_eq_true rfl) (rokD (by omega) (Nat.le_of_ble_eq_true rfl) (Nat.le_of_ble_eq_true rfl) (Nat.le_of_ble_eq_true rfl)) rfl rfl (fun _ h11 q11 => ?_)
        obtain ⟨rfl, rfl⟩ := q11
        refine aw_istore (lv' := [_, _, _, _, _, _, _, _]) (pc' := 59) dX12_bore_57 rfl (Nat.le_of_ble_eq_true rfl) rfl ?_
        refine aw_bipush (v := 61) (pc' := 61) dX12_bore_59 rfl (by decide) ?_
        refine aw_iload (pc' := 63) dX12_bore_61 rfl rfl ?_
        refine aw_imul (pc' := 64) dX12_bore_63 rfl ?_
        refine aw_iload_n (pc' := 65) dX12_bore_64 rfl rfl ?_
        refine aw_iadd (pc' := 66) dX12_bore_65 rfl ?_
        obtain ⟨v12, ev12, hf⟩ := vl_e hf
        refine aw_topi ev12 ?_
        refine aw_istore (lv' := [_, _, _, _, _, _, _, _]) (pc' := 68) dX12_bore_66 rfl (Nat.le_of_ble_eq_true rfl) rfl ?_
        refine aw_aload_n (pc' := 69) dX12_bore_68 rfl rfl rfl ?_
        refine aw_gr (q := 59) (e := 5) (v := .ref 69) (pc' := 72) H (H.fo rfl rfl) (by decide) rfl rfl dX12_bore_69 rfl fl_RX12_13 ?_
        refine aw_iload (pc' := 74) dX12_bore_72 rfl rfl ?_
        obtain ⟨g13, hf⟩ := gd_e hf
        refine aw_za (q := 61) (pc' := 75) H (H.fa rfl rfl rfl) g13 dX12_bore_74 rfl ?_
        obtain ⟨k14, ek14, hf⟩ := jn_e hf
        have hk14 : ∀ (t14_0 : Int32), k14 t14_0 = some s9 → AW mX12_bore (rmD (1) 0 0) (fin (PV fun h' => HH s9 h' ∧ Mo s0 s9) 0 0) 93 [some (.ref 67), some (.int y1), some (.int y2), some (.int v7), some (.int r11), some (.int v12), none, none] [.int t14_0] h 0 0 := by
          intro t14_0 hf
          subst ek14
          refine aw_istore (lv' := [_, _, _, _, _, _, _, _]) (pc' := 95) dX12_bore_93 rfl (Nat.le_of_ble_eq_true rfl) rfl ?_
          refine aw_aload_n (pc' := 96) dX12_bore_95 rfl rfl rfl ?_
          refine aw_gr (q := 59) (e := 19) (v := .ref 76) (pc' := 99) H (H.fo rfl rfl) (by decide) rfl rfl dX12_bore_96 rfl fl_RX12_35 ?_
          refine aw_iload_n (pc' := 100) dX12_bore_99 rfl rfl ?_
          obtain ⟨g15, hf⟩ := gd_e hf
          refine aw_ia (q := 68) (pc' := 101) H (H.fa rfl rfl rfl) g15 dX12_bore_100 rfl ?_
          refine aw_iload (pc' := 103) dX12_bore_101 rfl rfl ?_
          refine aw_cge (tgt := 107) (pc' := 106) dX12_bore_103 (by decide) rfl (fun c16 => ?_) (fun c16 => ?_)
          · replace hf := ifn c16 hf
            refine aw_aload_n (pc' := 108) dX12_bore_107 rfl rfl rfl ?_
            refine aw_gr (q := 59) (e := 19) (v := .ref 76) (pc' := 111) H (H.fo rfl rfl) (by decide) rfl rfl dX12_bore_108 rfl fl_RX12_35 ?_
            refine aw_iload_n (pc' := 112) dX12_bore_111 rfl rfl ?_
            refine aw_dup2 (pc' := 113) dX12_bore_112 rfl rfl rfl ?_
            obtain ⟨g17, hf⟩ := gd_e hf
            refine aw_ia (q := 68) (pc' := 114) H (H.fa rfl rfl rfl) g17 dX12_bore_113 rfl ?_
            refine aw_iload (pc' := 116) dX12_bore_114 rfl rfl ?_
            refine aw_isub (pc' := 117) dX12_bore_116 rfl ?_
            obtain ⟨v18, ev18, hf⟩ := vl_e hf
            refine aw_topi ev18 ?_
            obtain ⟨g19, hf⟩ := gd_e hf
            obtain ⟨s20, es20, hf⟩ := st_e hf
            refine aw_is (q := 68) (pc' := 118) es20 H (H.fa rfl rfl rfl) g19 dX12_bore_117 rfl (fun h20 H20 => ?_)
            have m20 := Mo.ofI es20
            refine aw_aload_n (pc' := 119) dX12_bore_118 rfl rfl rfl ?_
            refine aw_gr (q := 59) (e := 17) (v := .ref 75) (pc' := 122) H20 (H20.fo rfl rfl) (by decide) rfl rfl dX12_bore_119 rfl fl_RX12_32 ?_
            refine aw_iload_n (pc' := 123) dX12_bore_122 rfl rfl ?_
            refine aw_iload_n (pc' := 124) dX12_bore_123 rfl rfl ?_
            obtain ⟨g21, hf⟩ := gd_e hf
            obtain ⟨s22, es22, hf⟩ := st_e hf
            refine aw_is (q := 67) (pc' := 125) es22 H20 (H20.fa rfl rfl rfl) g21 dX12_bore_124 rfl (fun h22 H22 => ?_)
            have m22 := Mo.ofI es22
            refine aw_aload_n (pc' := 126) dX12_bore_125 rfl rfl rfl ?_
            refine aw_gr (q := 59) (e := 13) (v := .ref 73) (pc' := 129) H22 (H22.fo rfl rfl) (by decide) rfl rfl dX12_bore_126 rfl fl_RX12_26 ?_
            refine aw_iload_n (pc' := 130) dX12_bore_129 rfl rfl ?_
            refine aw_iload (pc' := 132) dX12_bore_130 rfl rfl ?_
            obtain ⟨g23, hf⟩ := gd_e hf
            obtain ⟨s24, es24, hf⟩ := st_e hf
            refine aw_is (q := 65) (pc' := 133) es24 H22 (H22.fa rfl rfl rfl) g23 dX12_bore_132 rfl (fun h24 H24 => ?_)
            have m24 := Mo.ofI es24
            refine aw_aload_n (pc' := 134) dX12_bore_133 rfl rfl rfl ?_
            refine aw_gi (q := 59) (pc' := 137) H24 (H24.fo rfl rfl) (by decide) rfl dX12_bore_134 rfl fl_RX12_65 ?_
            obtain ⟨k25, ek25, hf⟩ := jn_e hf
            have hk25 : ∀ (t25_0 : Int32), k25 t25_0 = some s9 → AW mX12_bore (rmD (1) 0 0) (fin (PV fun h' => HH s9 h' ∧ Mo s0 s9) 0 0) 169 [some (.ref 67), some (.int y1), some (.int y2), some (.int v7), none, some (.int v12), none, none] [.int t25_0] h24 0 0 := by
              intro t25_0 hf
              subst ek25
              refine aw_istore (lv' := [_, _, _, _, _, _, _, _]) (pc' := 171) dX12_bore_169 rfl (Nat.le_of_ble_eq_true rfl) rfl ?_
              refine aw_aload_n (pc' := 172) dX12_bore_171 rfl rfl rfl ?_
              refine aw_gr (q := 59) (e := 25) (v := .ref 79) (pc' := 175) H24 (H24.fo rfl rfl) (by decide) rfl rfl dX12_bore_172 rfl fl_RX12_44 ?_
              refine aw_bipush (v := 61) (pc' := 177) dX12_bore_175 rfl (by decide) ?_
              refine aw_iload_n (pc' := 178) dX12_bore_177 rfl rfl ?_
              refine aw_imul (pc' := 179) dX12_bore_178 rfl ?_
              refine aw_iload_n (pc' := 180) dX12_bore_179 rfl rfl ?_
              refine aw_iadd (pc' := 181) dX12_bore_180 rfl ?_
              refine aw_iload (pc' := 183) dX12_bore_181 rfl rfl ?_
              obtain ⟨k26, ek26, hf⟩ := jn_e hf
              have hk26 : ∀ (t26_0 : Int32), k26 t26_0 = some s9 → AW mX12_bore (rmD (1) 0 0) (fin (PV fun h' => HH s9 h' ∧ Mo s0 s9) 0 0) 205 [some (.ref 67), some (.int y1), some (.int y2), none, none, none, none, some (.int t25_0)] [.int t26_0, .int (((61 : Int32) * y1) + v7), .ref 79] h24 0 0 := by
                intro t26_0 hf
                subst ek26
                obtain ⟨v27, ev27, hf⟩ := vl_e hf
                refine aw_sndi ev27 ?_
                obtain ⟨g28, hf⟩ := gd_e hf
                obtain ⟨s29, es29, hf⟩ := st_e hf
                refine aw_is (q := 71) (pc' := 206) es29 H24 (H24.fa rfl rfl rfl) g28 dX12_bore_205 rfl (fun h29 H29 => ?_)
                have m29 := Mo.ofI es29
                refine aw_iload (pc' := 208) dX12_bore_206 rfl rfl ?_
                obtain ⟨k30, ek30, hf⟩ := jn_e hf
                have hk30 : ∀ (s30 : SS) (h30 : List aE), HH s30 h30 → Mo s29 s30 → k30 s30 = some s9 → AW mX12_bore (rmD (1) 0 0) (fin (PV fun h' => HH s9 h' ∧ Mo s0 s9) 0 0) 223 [some (.ref 67), some (.int y1), some (.int y2), none, none, none, none, none] [] h30 0 0 := by
                  intro s30 h30 H30 m30 hf
                  subst ek30
                  refine aw_goto (tgt := 0) dX12_bore_223 (by decide) ?_
                  exact ih _ _ H30 (((((ms.tr m20).tr m22).tr m24).tr m29).tr m30) hf
                clear ek30
                refine aw_if_eq (tgt := 223) (pc' := 211) dX12_bore_208 (by decide) rfl (fun c31 => ?_) (fun c31 => ?_)
                · replace hf := ifp c31 hf
                  refine AW.lv_le (lz_k (lz_k (lz_k (lz_d (lz_d (lz_d (lz_d (lz_d lz_0)))))))) ?_
                  exact hk30 _ _ H29 (Mo.rf _) hf
                · replace hf := ifn c31 hf
                  refine aw_aload_n (pc' := 212) dX12_bore_211 rfl rfl rfl ?_
                  refine aw_gr (q := 59) (e := 21) (v := .ref 77) (pc' := 215) H29 (H29.fo rfl rfl) (by decide) rfl rfl dX12_bore_212 rfl fl_RX12_38 ?_
                  refine aw_iload_n (pc' := 216) dX12_bore_215 rfl rfl ?_
                  refine aw_aload_n (pc' := 217) dX12_bore_216 rfl rfl rfl ?_
                  refine aw_gi (q := 59) (pc' := 220) H29 (H29.fo rfl rfl) (by decide) rfl dX12_bore_217 rfl fl_RX12_281 ?_
                  refine aw_iconst (v := 1) (pc' := 221) dX12_bore_220 rfl (by decide) ?_
                  refine aw_iadd (pc' := 222) dX12_bore_221 rfl ?_
                  obtain ⟨v32, ev32, hf⟩ := vl_e hf
                  refine aw_topi ev32 ?_
                  obtain ⟨g33, hf⟩ := gd_e hf
                  obtain ⟨s34, es34, hf⟩ := st_e hf
                  refine aw_is (q := 69) (pc' := 223) es34 H29 (H29.fa rfl rfl rfl) g33 dX12_bore_222 rfl (fun h34 H34 => ?_)
                  have m34 := Mo.ofI es34
                  refine AW.lv_le (lz_k (lz_k (lz_k (lz_d (lz_d (lz_d (lz_d (lz_d lz_0)))))))) ?_
                  exact hk30 _ _ H34 m34 hf
              clear ek26
              refine aw_if_eq (tgt := 190) (pc' := 186) dX12_bore_183 (by decide) rfl (fun c35 => ?_) (fun c35 => ?_)
              · replace hf := ifp c35 hf
                refine aw_aload_n (pc' := 191) dX12_bore_190 rfl rfl rfl ?_
                refine aw_gr (q := 59) (e := 5) (v := .ref 69) (pc' := 194) H24 (H24.fo rfl rfl) (by decide) rfl rfl dX12_bore_191 rfl fl_RX12_13 ?_
                refine aw_iload (pc' := 196) dX12_bore_194 rfl rfl ?_
                obtain ⟨g36, hf⟩ := gd_e hf
                refine aw_za (q := 61) (pc' := 197) H24 (H24.fa rfl rfl rfl) g36 dX12_bore_196 rfl ?_
                refine aw_if_eq (tgt := 204) (pc' := 200) dX12_bore_197 (by decide) rfl (fun c37 => ?_) (fun c37 => ?_)
                · replace hf := ifp c37 hf
                  refine aw_iconst (v := 0) (pc' := 205) dX12_bore_204 rfl (by decide) ?_
                  refine AW.lv_le (lz_k (lz_k (lz_k (lz_d (lz_d (lz_d (lz_d (lz_k lz_0)))))))) ?_
                  exact hk26 _ hf
                · replace hf := ifn c37 hf
                  refine aw_iconst (v := 1) (pc' := 201) dX12_bore_200 rfl (by decide) ?_
                  refine aw_goto (tgt := 205) dX12_bore_201 (by decide) ?_
                  refine AW.lv_le (lz_k (lz_k (lz_k (lz_d (lz_d (lz_d (lz_d (lz_k lz_0)))))))) ?_
                  exact hk26 _ hf
              · replace hf := ifn c35 hf
                refine aw_iconst (v := 2) (pc' := 187) dX12_bore_186 rfl (by decide) ?_
                refine aw_goto (tgt := 205) dX12_bore_187 (by decide) ?_
                refine AW.lv_le (lz_k (lz_k (lz_k (lz_d (lz_d (lz_d (lz_d (lz_k lz_0)))))))) ?_
                exact hk26 _ hf
            clear ek25
            obtain ⟨k38, ek38, hf⟩ := jn_e hf
            have hk38 : k38 = some s9 → AW mX12_bore (rmD (1) 0 0) (fin (PV fun h' => HH s9 h' ∧ Mo s0 s9) 0 0) 168 [some (.ref 67), some (.int y1), some (.int y2), some (.int v7), none, some (.int v12), none, none] [] h24 0 0 := by
              intro hf
              subst ek38
              refine aw_iconst (v := 0) (pc' := 169) dX12_bore_168 rfl (by decide) ?_
              exact hk25 _ hf
            clear ek38
            refine aw_zlt (tgt := 168) (pc' := 140) dX12_bore_137 (by decide) rfl (fun c39 => ?_) (fun c39 => ?_)
            · replace hf := ifp c39 hf
              refine AW.lv_le (lz_k (lz_k (lz_k (lz_k (lz_d (lz_k (lz_d (lz_d lz_0)))))))) ?_
              exact hk38  hf
            · replace hf := ifn c39 hf
              refine aw_iload_n (pc' := 141) dX12_bore_140 rfl rfl ?_
              refine aw_aload_n (pc' := 142) dX12_bore_141 rfl rfl rfl ?_
              refine aw_gi (q := 59) (pc' := 145) H24 (H24.fo rfl rfl) (by decide) rfl dX12_bore_142 rfl fl_RX12_264 ?_
              refine aw_icmp_ne (tgt := 168) (pc' := 148) dX12_bore_145 (by decide) rfl (fun c40 => ?_) (fun c40 => ?_)
              · replace hf := ifn c40 hf
                refine AW.lv_le (lz_k (lz_k (lz_k (lz_k (lz_d (lz_k (lz_d (lz_d lz_0)))))))) ?_
                exact hk38  hf
              · replace hf := ifp c40 hf
                refine aw_iload (pc' := 150) dX12_bore_148 rfl rfl ?_
                refine aw_aload_n (pc' := 151) dX12_bore_150 rfl rfl rfl ?_
                refine aw_gi (q := 59) (pc' := 154) H24 (H24.fo rfl rfl) (by decide) rfl dX12_bore_151 rfl fl_RX12_258 ?_
                refine aw_aload_n (pc' := 155) dX12_bore_154 rfl rfl rfl ?_
                refine aw_gi (q := 59) (pc' := 158) H24 (H24.fo rfl rfl) (by decide) rfl dX12_bore_155 rfl fl_RX12_261 ?_
                obtain ⟨r41, ec41, hf⟩ := b1_e hf
                refine aw_callSi (M' := mX12_in) (nc' := 0) (ns' := 0) (pc' := 161) dX12_bore_158 rfl ml_RX12_230 kX12_in (t_X12_in ec41) rfl rfl (Nat.le_of_ble_eq_true rfl) (rokD (by omega) (Nat.le_of_ble_eq_true rfl) (Nat.le_of_ble_eq_true rfl) (Nat.le_of_ble_eq_true rfl)) rfl rfl (fun _ h41 q41 => ?_)
                obtain ⟨rfl, rfl, zb41⟩ := q41
                refine aw_if_eq (tgt := 168) (pc' := 164) dX12_bore_161 (by decide) rfl (fun c42 => ?_) (fun c42 => ?_)
                · replace hf := ifp c42 hf
                  refine AW.lv_le (lz_k (lz_k (lz_k (lz_k (lz_d (lz_k (lz_d (lz_d lz_0)))))))) ?_
                  exact hk38  hf
                · replace hf := ifn c42 hf
                  refine aw_iconst (v := 1) (pc' := 165) dX12_bore_164 rfl (by decide) ?_
                  refine aw_goto (tgt := 169) dX12_bore_165 (by decide) ?_
                  refine AW.lv_le (lz_k (lz_k (lz_k (lz_k (lz_d (lz_k (lz_d (lz_d lz_0)))))))) ?_
                  exact hk25 _ hf
          · replace hf := ifp c16 hf
            obtain rfl := Option.some.inj hf
            exact aw_rv dX12_bore_106 rfl (Nat.le_of_ble_eq_true rfl) (Nat.le_of_ble_eq_true rfl) ⟨H, (mb.tr ms)⟩
        clear ek14
        refine aw_if_eq (tgt := 82) (pc' := 78) dX12_bore_75 (by decide) rfl (fun c43 => ?_) (fun c43 => ?_)
        · replace hf := ifp c43 hf
          refine aw_iload_n (pc' := 83) dX12_bore_82 rfl rfl ?_
          refine aw_iconst (v := 3) (pc' := 84) dX12_bore_83 rfl (by decide) ?_
          refine aw_aload_n (pc' := 85) dX12_bore_84 rfl rfl rfl ?_
          refine aw_gr (q := 59) (e := 3) (v := .ref 68) (pc' := 88) H (H.fo rfl rfl) (by decide) rfl rfl dX12_bore_85 rfl fl_RX12_7 ?_
          refine aw_iload (pc' := 90) dX12_bore_88 rfl rfl ?_
          obtain ⟨g44, hf⟩ := gd_e hf
          refine aw_ia (q := 60) (pc' := 91) H (H.fa rfl rfl rfl) g44 dX12_bore_90 rfl ?_
          refine aw_iadd (pc' := 92) dX12_bore_91 rfl ?_
          refine aw_imul (pc' := 93) dX12_bore_92 rfl ?_
          exact hk14 _ hf
        · replace hf := ifn c43 hf
          refine aw_iconst (v := 0) (pc' := 79) dX12_bore_78 rfl (by decide) ?_
          refine aw_goto (tgt := 93) dX12_bore_79 (by decide) ?_
          exact hk14 _ hf
def f_X12_bore (s0 : SS) (a0 : Int32) (a1 : Int32) : Option SS := (f_X12_bore_L0 a0 a1 4000 s0)
set_option maxRecDepth 4000 in
theorem t_X12_bore {s0 s9 : SS} {h0 : List aE} {a0 : Int32} {a1 : Int32} (H0 : HH s0 h0) (hf : f_X12_bore s0 a0 a1 = some s9) : AM mX12_bore (1) [.ref 67, .int a0, .int a1] h0 0 0 (PV fun h' => HH s9 h' ∧ Mo s0 s9) := by
  unfold f_X12_bore at hf
  refine am_of (lv := [some (.ref 67), some (.int a0), some (.int a1), none, none, none, none, none]) rfl (Nat.le_of_ble_eq_true rfl) rfl ?_
  refine t_X12_bore_L0 (Mo.rf _)  4000 _ _ H0 (Mo.rf _) hf
/-! ThirtyThreeBelowModel.spread -/
def f_X12_spread (s0 : SS) (a0 : Int32) : Option (Int32 × SS) := (b1 (f_X12_in a0 (0 : Int32) (8 : Int32)) fun r1 => (if r1 = (0 : Int32) then some ((-1), s0) else (vl ((zS s0 59 29)) fun v3 => (st (pS s0 59 29 a0) fun s4 => some (v3, s4)))))
set_option maxRecDepth 4000 in
theorem t_X12_spread {r9 : Int32} {s0 s9 : SS} {h0 : List aE} {a0 : Int32} (H0 : HH s0 h0) (hf : f_X12_spread s0 a0 = some (r9, s9)) : AM mX12_spread (1) [.ref 67, .int a0] h0 0 0 (PI fun r' h' => r9 = r' ∧ HH s9 h' ∧ Mo s0 s9) := by
  unfold f_X12_spread at hf
  refine am_of (lv := [some (.ref 67), some (.int a0), none]) rfl (Nat.le_of_ble_eq_true rfl) rfl ?_
  refine aw_iload_n (pc' := 1) dX12_spread_0 rfl rfl ?_
  refine aw_iconst (v := 0) (pc' := 2) dX12_spread_1 rfl (by decide) ?_
  refine aw_bipush (v := 8) (pc' := 4) dX12_spread_2 rfl (by decide) ?_
  obtain ⟨r1, ec1, hf⟩ := b1_e hf
  refine aw_callSi (M' := mX12_in) (nc' := 0) (ns' := 0) (pc' := 7) dX12_spread_4 rfl ml_RX12_230 kX12_in (t_X12_in ec1) rfl rfl (Nat.le_of_ble_eq_true rfl) (rokD (by omega) (Nat.le_of_ble_eq_true rfl) (Nat.le_of_ble_eq_true rfl) (Nat.le_of_ble_eq_true rfl)) rfl rfl (fun _ h1 q1 => ?_)
  obtain ⟨rfl, rfl, zb1⟩ := q1
  refine aw_if_ne (tgt := 12) (pc' := 10) dX12_spread_7 (by decide) rfl (fun c2 => ?_) (fun c2 => ?_)
  · replace hf := ifn c2 hf
    refine aw_aload_n (pc' := 13) dX12_spread_12 rfl rfl rfl ?_
    refine aw_gi (q := 59) (pc' := 16) H0 (H0.fo rfl rfl) (by decide) rfl dX12_spread_13 rfl fl_RX12_78 ?_
    obtain ⟨v3, ev3, hf⟩ := vl_e hf
    refine aw_topi ev3 ?_
    refine aw_istore_n (lv' := [_, _, _]) (pc' := 17) dX12_spread_16 rfl (Nat.le_of_ble_eq_true rfl) rfl ?_
    refine aw_aload_n (pc' := 18) dX12_spread_17 rfl rfl rfl ?_
    refine aw_iload_n (pc' := 19) dX12_spread_18 rfl rfl ?_
    obtain ⟨s4, es4, hf⟩ := st_e hf
    refine aw_pi (q := 59) (pc' := 22) es4 H0 (H0.fo rfl rfl) (by decide) rfl dX12_spread_19 rfl fl_RX12_78 rfl (fun h4 H4 => ?_)
    have m4 := Mo.ofS es4
    refine aw_iload_n (pc' := 23) dX12_spread_22 rfl rfl ?_
    obtain ⟨rfl, rfl⟩ := so2 hf
    exact aw_ri dX12_spread_23 rfl rfl (Nat.le_of_ble_eq_true rfl) (Nat.le_of_ble_eq_true rfl) ⟨rfl, H4, m4⟩
  · replace hf := ifp c2 hf
    refine aw_iconst (v := (-1)) (pc' := 11) dX12_spread_10 rfl (by decide) ?_
    obtain ⟨rfl, rfl⟩ := so2 hf
    exact aw_ri dX12_spread_11 rfl rfl (Nat.le_of_ble_eq_true rfl) (Nat.le_of_ble_eq_true rfl) ⟨rfl, H0, (Mo.rf _)⟩
/-! ThirtyThreeBelowModel.isReals -/
def f_X12_isReals (s0 : SS) (a0 : Int32) : Option Int32 := (gd (inB a0 6) (if (zI s0 120 (a0.toInt.toNat)) = ((-5) : Int32) then some 1 else (gd (inB a0 6) (if (zI s0 120 (a0.toInt.toNat)) = ((-6) : Int32) then some 1 else some 0))))
set_option maxRecDepth 4000 in
theorem t_X12_isReals {r9 : Int32} {s0 : SS} {h0 : List aE} {a0 : Int32} (H0 : HH s0 h0) (hf : f_X12_isReals s0 a0 = some r9) : AM mX12_isReals (0) [.ref 67, .int a0] h0 0 0 (PI fun r' h' => r9 = r' ∧ h0 = h' ∧ (r9 = 0 ∨ r9 = 1)) := by
  unfold f_X12_isReals at hf
  refine am_of (lv := [some (.ref 67), some (.int a0)]) rfl (Nat.le_of_ble_eq_true rfl) rfl ?_
  refine aw_aload_n (pc' := 1) dX12_isReals_0 rfl rfl rfl ?_
  refine aw_gr (q := 59) (e := 123) (v := .ref 128) (pc' := 4) H0 (H0.fo rfl rfl) (by decide) rfl rfl dX12_isReals_1 rfl fl_RX12_208 ?_
  refine aw_iload_n (pc' := 5) dX12_isReals_4 rfl rfl ?_
  obtain ⟨g1, hf⟩ := gd_e hf
  refine aw_ia (q := 120) (pc' := 6) H0 (H0.fa rfl rfl rfl) g1 dX12_isReals_5 rfl ?_
  refine aw_bipush (v := (-5)) (pc' := 8) dX12_isReals_6 rfl (by decide) ?_
  refine aw_icmp_eq (tgt := 22) (pc' := 11) dX12_isReals_8 (by decide) rfl (fun c2 => ?_) (fun c2 => ?_)
  · replace hf := ifp c2 hf
    refine aw_iconst (v := 1) (pc' := 23) dX12_isReals_22 rfl (by decide) ?_
    refine aw_goto (tgt := 27) dX12_isReals_23 (by decide) ?_
    obtain rfl := Option.some.inj hf
    exact aw_ri dX12_isReals_27 rfl (by decide) (Nat.le_of_ble_eq_true rfl) (Nat.le_of_ble_eq_true rfl) ⟨rfl, rfl, Or.inr rfl⟩
  · replace hf := ifn c2 hf
    refine aw_aload_n (pc' := 12) dX12_isReals_11 rfl rfl rfl ?_
    refine aw_gr (q := 59) (e := 123) (v := .ref 128) (pc' := 15) H0 (H0.fo rfl rfl) (by decide) rfl rfl dX12_isReals_12 rfl fl_RX12_208 ?_
    refine aw_iload_n (pc' := 16) dX12_isReals_15 rfl rfl ?_
    obtain ⟨g3, hf⟩ := gd_e hf
    refine aw_ia (q := 120) (pc' := 17) H0 (H0.fa rfl rfl rfl) g3 dX12_isReals_16 rfl ?_
    refine aw_bipush (v := (-6)) (pc' := 19) dX12_isReals_17 rfl (by decide) ?_
    refine aw_icmp_ne (tgt := 26) (pc' := 22) dX12_isReals_19 (by decide) rfl (fun c4 => ?_) (fun c4 => ?_)
    · replace hf := ifn c4 hf
      refine aw_iconst (v := 0) (pc' := 27) dX12_isReals_26 rfl (by decide) ?_
      obtain rfl := Option.some.inj hf
      exact aw_ri dX12_isReals_27 rfl (by decide) (Nat.le_of_ble_eq_true rfl) (Nat.le_of_ble_eq_true rfl) ⟨rfl, rfl, Or.inl rfl⟩
    · replace hf := ifp c4 hf
      refine aw_iconst (v := 1) (pc' := 23) dX12_isReals_22 rfl (by decide) ?_
      refine aw_goto (tgt := 27) dX12_isReals_23 (by decide) ?_
      obtain rfl := Option.some.inj hf
      exact aw_ri dX12_isReals_27 rfl (by decide) (Nat.le_of_ble_eq_true rfl) (Nat.le_of_ble_eq_true rfl) ⟨rfl, rfl, Or.inr rfl⟩
/-! ThirtyThreeBelowModel.isShelf -/
def f_X12_isShelf (a0 : Int32) : Option Int32 := (b1 (f_X12_in a0 (0 : Int32) (5 : Int32)) fun r1 => some r1)
set_option maxRecDepth 4000 in
theorem t_X12_isShelf {r9 : Int32} {h0 : List aE} {a0 : Int32}  (hf : f_X12_isShelf a0 = some r9) : AM mX12_isShelf (1) [.int a0] h0 0 0 (PI fun r' h' => r9 = r' ∧ h0 = h' ∧ (r9 = 0 ∨ r9 = 1)) := by
  unfold f_X12_isShelf at hf
  refine am_of (lv := [some (.int a0)]) rfl (Nat.le_of_ble_eq_true rfl) rfl ?_
  refine aw_iload_n (pc' := 1) dX12_isShelf_0 rfl rfl ?_
  refine aw_iconst (v := 0) (pc' := 2) dX12_isShelf_1 rfl (by decide) ?_
  refine aw_iconst (v := 5) (pc' := 3) dX12_isShelf_2 rfl (by decide) ?_
  obtain ⟨r1, ec1, hf⟩ := b1_e hf
  refine aw_callSi (M' := mX12_in) (nc' := 0) (ns' := 0) (pc' := 6) dX12_isShelf_3 rfl ml_RX12_230 kX12_in (t_X12_in ec1) rfl rfl (Nat.le_of_ble_eq_true rfl) (rokD (by omega) (Nat.le_of_ble_eq_true rfl) (Nat.le_of_ble_eq_true rfl) (Nat.le_of_ble_eq_true rfl)) rfl rfl (fun _ h1 q1 => ?_)
  obtain ⟨rfl, rfl, zb1⟩ := q1
  obtain rfl := Option.some.inj hf
  exact aw_ri dX12_isShelf_6 rfl (nz zb1) (Nat.le_of_ble_eq_true rfl) (Nat.le_of_ble_eq_true rfl) ⟨rfl, rfl, zb1⟩
/-! ThirtyThreeBelowModel.log -/
def f_X12_log_L63_b (q0 : SS → Int32 → Int32 → Option (Int32 × SS)) (y1 : Int32) (y2 : Int32) (y3 : Int32) (y4 : Int32) (y5 : Int32) (rc : SS → Int32 → Option (Int32 × SS)) (s : SS) (x6 : Int32) : Option (Int32 × SS) := (if x6 < y5 then (vl ((y4 + x6)) fun v12 => (if (60 : Int32) < v12 then some (x6, s) else (wl ((y3.toInt64 + x6.toInt64)) fun v14 => (gd (inB y2 6) (if (zI s 120 (y2.toInt.toNat)) = ((-1) : Int32) then (q0 s x6 v12) else (if (lg_cmp v14 0) < (0 : Int32) then (q0 s x6 v12) else (gd (inB y2 6) (if (lg_cmp v14 ((zI s 121 (y2.toInt.toNat)).toInt64)) < (0 : Int32) then (vl ((((60 : Int32) * y2) + v14.toInt32)) fun v20 => (jn (fun (t21_0 : Int32) => (gd (inB v20 360) (jn (fun (t23_0 : Int32) => (vl ((((61 : Int32) * y1) + v12)) fun v24 => (gd (inB v24 7320) (st (pI s 73 (v24.toInt.toNat) t23_0) fun s26 => (vl ((((61 : Int32) * y1) + v12)) fun v27 => (gd (inB v27 7320) (st (pI s26 72 (v27.toInt.toNat) ((1 : Int32) &&& 1)) fun s29 => (vl (x6 + 1) fun v30 => (rc s29 v30))))))))) fun k23 => (if (zI s 123 (v20.toInt.toNat)) = (0 : Int32) then (gd (inB v20 360) (k23 ((zJ s 122 (v20.toInt.toNat)).toInt32))) else (k23 t21_0))))) fun k21 => (jn ((k21 0)) fun k33 => (if (1 : Int32) < v12 then (vl (((((61 : Int32) * y1) + v12) - (1 : Int32))) fun v35 => (gd (inB v35 7320) (if (zI s 72 (v35.toInt.toNat)) = (0 : Int32) then k33 else (vl (((((61 : Int32) * y1) + v12) - (1 : Int32))) fun v38 => (gd (inB v38 7320) (k21 (zI s 73 (v38.toInt.toNat)))))))) else k33)))) else (q0 s x6 v12))))))))) else some (y5, s))
def f_X12_log_L63 (q0 : SS → Int32 → Int32 → Option (Int32 × SS)) (y1 : Int32) (y2 : Int32) (y3 : Int32) (y4 : Int32) (y5 : Int32) : Nat → SS → Int32 → Option (Int32 × SS)
  | 0, _, _ => none
  | n + 1, s, x6 => f_X12_log_L63_b q0 y1 y2 y3 y4 y5 (f_X12_log_L63 q0 y1 y2 y3 y4 y5 n) s x6
set_option maxRecDepth 4000 in
theorem t_X12_log_L63 {r9 : Int32} {s0 sb s9 : SS} {q0 : SS → Int32 → Int32 → Option (Int32 × SS)} {y1 : Int32} {y2 : Int32} {y3 : Int32} {y4 : Int32} {y5 : Int32} (mb : Mo s0 sb) (hq0 : ∀ (s : SS) (h : List aE) (x6 : Int32) (x7 : Int32), HH s h → Mo sb s → q0 s x6 x7 = some (r9, s9) → AW mX12_log (rmD (3) 0 0) (fin (PI fun r' h' => r9 = r' ∧ HH s9 h' ∧ Mo s0 s9) 0 0) 125 [some (.ref 67), some (.int y1), none, none, none, none, some (.int x6), some (.int x7), none, none, none, none] [] h 0 0) : ∀ (n : Nat) (s : SS) (h : List aE) (x6 : Int32), HH s h → Mo sb s → f_X12_log_L63 q0 y1 y2 y3 y4 y5 n s x6 = some (r9, s9) → AW mX12_log (rmD (3) 0 0) (fin (PI fun r' h' => r9 = r' ∧ HH s9 h' ∧ Mo s0 s9) 0 0) 63 [some (.ref 67), some (.int y1), some (.int y2), some (.int y3), some (.int y4), some (.int y5), some (.int x6), none, none, none, none, none] [] h 0 0 := by
  intro n
  induction n with
  | zero =>
    intro s h x6 H ms hf
    cases hf
  | succ n ih =>
    intro s h x6 H ms hf
    replace hf : f_X12_log_L63_b q0 y1 y2 y3 y4 y5 (f_X12_log_L63 q0 y1 y2 y3 y4 y5 n) s x6 = some (r9, s9) := hf
    unfold f_X12_log_L63_b at hf
    refine aw_iload (pc' := 65) dX12_log_63 rfl rfl ?_
    refine aw_iload (pc' := 67) dX12_log_65 rfl rfl ?_
    refine aw_cge (tgt := 265) (pc' := 70) dX12_log_67 (by decide) rfl (fun c11 => ?_) (fun c11 => ?_)
    · replace hf := ifn c11 hf
      refine aw_iload (pc' := 267) dX12_log_265 rfl rfl ?_
      obtain ⟨rfl, rfl⟩ := so2 hf
      exact aw_ri dX12_log_267 rfl rfl (Nat.le_of_ble_eq_true rfl) (Nat.le_of_ble_eq_true rfl) ⟨rfl, H, (mb.tr ms)⟩
    · replace hf := ifp c11 hf
      refine aw_iload (pc' := 72) dX12_log_70 rfl rfl ?_
      refine aw_iload (pc' := 74) dX12_log_72 rfl rfl ?_
      refine aw_iadd (pc' := 75) dX12_log_74 rfl ?_
      obtain ⟨v12, ev12, hf⟩ := vl_e hf
      refine aw_topi ev12 ?_
      refine aw_istore (lv' := [_, _, _, _, _, _, _, _, _, _, _, _]) (pc' := 77) dX12_log_75 rfl (Nat.le_of_ble_eq_true rfl) rfl ?_
      refine aw_iload (pc' := 79) dX12_log_77 rfl rfl ?_
      refine aw_bipush (v := 60) (pc' := 81) dX12_log_79 rfl (by decide) ?_
      refine aw_cle (tgt := 87) (pc' := 84) dX12_log_81 (by decide) rfl (fun c13 => ?_) (fun c13 => ?_)
      · replace hf := ifn c13 hf
        refine aw_iload_n (pc' := 88) dX12_log_87 rfl rfl ?_
        refine aw_i2l (pc' := 89) dX12_log_88 rfl ?_
        refine aw_iload (pc' := 91) dX12_log_89 rfl rfl ?_
        refine aw_i2l (pc' := 92) dX12_log_91 rfl ?_
        refine aw_ladd (pc' := 93) dX12_log_92 rfl ?_
        obtain ⟨v14, ev14, hf⟩ := wl_e hf
        refine aw_topl ev14 ?_
        refine aw_lstore (lv' := [_, _, _, _, _, _, _, _, _, _, _, _]) (pc' := 95) dX12_log_93 rfl (Nat.le_of_ble_eq_true rfl) rfl ?_
        refine aw_aload_n (pc' := 96) dX12_log_95 rfl rfl rfl ?_
        refine aw_gr (q := 59) (e := 123) (v := .ref 128) (pc' := 99) H (H.fo rfl rfl) (by decide) rfl rfl dX12_log_96 rfl fl_RX12_208 ?_
        refine aw_iload_n (pc' := 100) dX12_log_99 rfl rfl ?_
        obtain ⟨g15, hf⟩ := gd_e hf
        refine aw_ia (q := 120) (pc' := 101) H (H.fa rfl rfl rfl) g15 dX12_log_100 rfl ?_
        refine aw_iconst (v := (-1)) (pc' := 102) dX12_log_101 rfl (by decide) ?_
        refine aw_icmp_eq (tgt := 125) (pc' := 105) dX12_log_102 (by decide) rfl (fun c16 => ?_) (fun c16 => ?_)
        · replace hf := ifp c16 hf
          refine AW.lv_le (lz_k (lz_k (lz_d (lz_d (lz_d (lz_d (lz_k (lz_k (lz_d (lz_d (lz_d (lz_d lz_0)))))))))))) ?_
          exact hq0 _ _ _ _ H ms hf
        · replace hf := ifn c16 hf
          refine aw_lload (pc' := 107) dX12_log_105 rfl rfl ?_
          refine aw_lconst (v := 0) (pc' := 108) dX12_log_107 rfl (by decide) ?_
          refine aw_lcmp (pc' := 109) dX12_log_108 rfl ?_
          refine aw_zlt (tgt := 125) (pc' := 112) dX12_log_109 (by decide) rfl (fun c17 => ?_) (fun c17 => ?_)
          · replace hf := ifp c17 hf
            refine AW.lv_le (lz_k (lz_k (lz_d (lz_d (lz_d (lz_d (lz_k (lz_k (lz_d (lz_d (lz_d (lz_d lz_0)))))))))))) ?_
            exact hq0 _ _ _ _ H ms hf
          · replace hf := ifn c17 hf
            refine aw_lload (pc' := 114) dX12_log_112 rfl rfl ?_
            refine aw_aload_n (pc' := 115) dX12_log_114 rfl rfl rfl ?_
            refine aw_gr (q := 59) (e := 125) (v := .ref 129) (pc' := 118) H (H.fo rfl rfl) (by decide) rfl rfl dX12_log_115 rfl fl_RX12_211 ?_
            refine aw_iload_n (pc' := 119) dX12_log_118 rfl rfl ?_
            obtain ⟨g18, hf⟩ := gd_e hf
            refine aw_ia (q := 121) (pc' := 120) H (H.fa rfl rfl rfl) g18 dX12_log_119 rfl ?_
            refine aw_i2l (pc' := 121) dX12_log_120 rfl ?_
            refine aw_lcmp (pc' := 122) dX12_log_121 rfl ?_
            refine aw_zlt (tgt := 158) (pc' := 125) dX12_log_122 (by decide) rfl (fun c19 => ?_) (fun c19 => ?_)
            · replace hf := ifp c19 hf
              refine aw_bipush (v := 60) (pc' := 160) dX12_log_158 rfl (by decide) ?_
              refine aw_iload_n (pc' := 161) dX12_log_160 rfl rfl ?_
              refine aw_imul (pc' := 162) dX12_log_161 rfl ?_
              refine aw_lload (pc' := 164) dX12_log_162 rfl rfl ?_
              refine aw_l2i (pc' := 165) dX12_log_164 rfl ?_
              refine aw_iadd (pc' := 166) dX12_log_165 rfl ?_
              obtain ⟨v20, ev20, hf⟩ := vl_e hf
              refine aw_topi ev20 ?_
              refine aw_istore (lv' := [_, _, _, _, _, _, _, _, _, _, _, _]) (pc' := 168) dX12_log_166 rfl (Nat.le_of_ble_eq_true rfl) rfl ?_
              refine aw_iload (pc' := 170) dX12_log_168 rfl rfl ?_
              refine aw_iconst (v := 1) (pc' := 171) dX12_log_170 rfl (by decide) ?_
              obtain ⟨k21, ek21, hf⟩ := jn_e hf
              have hk21 : ∀ (t21_0 : Int32), k21 t21_0 = some (r9, s9) → AW mX12_log (rmD (3) 0 0) (fin (PI fun r' h' => r9 = r' ∧ HH s9 h' ∧ Mo s0 s9) 0 0) 209 [some (.ref 67), some (.int y1), some (.int y2), some (.int y3), some (.int y4), some (.int y5), some (.int x6), some (.int v12), none, none, some (.int v20), none] [.int t21_0] h 0 0 := by
                intro t21_0 hf
                subst ek21
                refine aw_istore (lv' := [_, _, _, _, _, _, _, _, _, _, _, _]) (pc' := 211) dX12_log_209 rfl (Nat.le_of_ble_eq_true rfl) rfl ?_
                refine aw_aload_n (pc' := 212) dX12_log_211 rfl rfl rfl ?_
                refine aw_gr (q := 59) (e := 29) (v := .ref 81) (pc' := 215) H (H.fo rfl rfl) (by decide) rfl rfl dX12_log_212 rfl fl_RX12_50 ?_
                refine aw_bipush (v := 61) (pc' := 217) dX12_log_215 rfl (by decide) ?_
                refine aw_iload_n (pc' := 218) dX12_log_217 rfl rfl ?_
                refine aw_imul (pc' := 219) dX12_log_218 rfl ?_
                refine aw_iload (pc' := 221) dX12_log_219 rfl rfl ?_
                refine aw_iadd (pc' := 222) dX12_log_221 rfl ?_
                refine aw_aload_n (pc' := 223) dX12_log_222 rfl rfl rfl ?_
                refine aw_gr (q := 59) (e := 129) (v := .ref 131) (pc' := 226) H (H.fo rfl rfl) (by decide) rfl rfl dX12_log_223 rfl fl_RX12_218 ?_
                refine aw_iload (pc' := 228) dX12_log_226 rfl rfl ?_
                obtain ⟨g22, hf⟩ := gd_e hf
                refine aw_za (q := 123) (pc' := 229) H (H.fa rfl rfl rfl) g22 dX12_log_228 rfl ?_
                obtain ⟨k23, ek23, hf⟩ := jn_e hf
                have hk23 : ∀ (t23_0 : Int32), k23 t23_0 = some (r9, s9) → AW mX12_log (rmD (3) 0 0) (fin (PI fun r' h' => r9 = r' ∧ HH s9 h' ∧ Mo s0 s9) 0 0) 245 [some (.ref 67), some (.int y1), some (.int y2), some (.int y3), some (.int y4), some (.int y5), some (.int x6), some (.int v12), none, none, none, none] [.int t23_0, .int (((61 : Int32) * y1) + v12), .ref 81] h 0 0 := by
                  intro t23_0 hf
                  subst ek23
                  obtain ⟨v24, ev24, hf⟩ := vl_e hf
                  refine aw_sndi ev24 ?_
                  obtain ⟨g25, hf⟩ := gd_e hf
                  obtain ⟨s26, es26, hf⟩ := st_e hf
                  refine aw_is (q := 73) (pc' := 246) es26 H (H.fa rfl rfl rfl) g25 dX12_log_245 rfl (fun h26 H26 => ?_)
                  have m26 := Mo.ofI es26
                  refine aw_aload_n (pc' := 247) dX12_log_246 rfl rfl rfl ?_
                  refine aw_gr (q := 59) (e := 27) (v := .ref 80) (pc' := 250) H26 (H26.fo rfl rfl) (by decide) rfl rfl dX12_log_247 rfl fl_RX12_47 ?_
                  refine aw_bipush (v := 61) (pc' := 252) dX12_log_250 rfl (by decide) ?_
                  refine aw_iload_n (pc' := 253) dX12_log_252 rfl rfl ?_
                  refine aw_imul (pc' := 254) dX12_log_253 rfl ?_
                  refine aw_iload (pc' := 256) dX12_log_254 rfl rfl ?_
                  refine aw_iadd (pc' := 257) dX12_log_256 rfl ?_
                  refine aw_iconst (v := 1) (pc' := 258) dX12_log_257 rfl (by decide) ?_
                  obtain ⟨v27, ev27, hf⟩ := vl_e hf
                  refine aw_sndi ev27 ?_
                  obtain ⟨g28, hf⟩ := gd_e hf
                  obtain ⟨s29, es29, hf⟩ := st_e hf
                  refine aw_zs (q := 72) (pc' := 259) es29 H26 (H26.fa rfl rfl rfl) g28 dX12_log_258 rfl (fun h29 H29 => ?_)
                  have m29 := Mo.ofI es29
                  obtain ⟨v30, ev30, hf⟩ := vl_e hf
                  refine aw_iincV (y := v30) (lv' := [_, _, _, _, _, _, _, _, _, _, _, _]) (pc' := 262) dX12_log_259 rfl rfl (Nat.le_of_ble_eq_true rfl) ev30 rfl ?_
                  refine aw_goto (tgt := 63) dX12_log_262 (by decide) ?_
                  refine AW.lv_le (lz_k (lz_k (lz_k (lz_k (lz_k (lz_k (lz_k (lz_d (lz_d (lz_d (lz_d (lz_d lz_0)))))))))))) ?_
                  exact ih _ _ _ H29 ((ms.tr m26).tr m29) hf
                clear ek23
                refine aw_if_eq (tgt := 237) (pc' := 232) dX12_log_229 (by decide) rfl (fun c31 => ?_) (fun c31 => ?_)
                · replace hf := ifp c31 hf
                  refine aw_aload_n (pc' := 238) dX12_log_237 rfl rfl rfl ?_
                  refine aw_gr (q := 59) (e := 127) (v := .ref 130) (pc' := 241) H (H.fo rfl rfl) (by decide) rfl rfl dX12_log_238 rfl fl_RX12_214 ?_
                  refine aw_iload (pc' := 243) dX12_log_241 rfl rfl ?_
                  obtain ⟨g32, hf⟩ := gd_e hf
                  refine aw_ja (q := 122) (pc' := 244) H (H.fa rfl rfl rfl) g32 dX12_log_243 rfl ?_
                  refine aw_l2i (pc' := 245) dX12_log_244 rfl ?_
                  refine AW.lv_le (lz_k (lz_k (lz_k (lz_k (lz_k (lz_k (lz_k (lz_k (lz_d (lz_d (lz_d (lz_d lz_0)))))))))))) ?_
                  exact hk23 _ hf
                · replace hf := ifn c31 hf
                  refine aw_iload (pc' := 234) dX12_log_232 rfl rfl ?_
                  refine aw_goto (tgt := 245) dX12_log_234 (by decide) ?_
                  refine AW.lv_le (lz_k (lz_k (lz_k (lz_k (lz_k (lz_k (lz_k (lz_k (lz_d (lz_d (lz_d (lz_d lz_0)))))))))))) ?_
                  exact hk23 _ hf
              clear ek21
              obtain ⟨k33, ek33, hf⟩ := jn_e hf
              have hk33 : k33 = some (r9, s9) → AW mX12_log (rmD (3) 0 0) (fin (PI fun r' h' => r9 = r' ∧ HH s9 h' ∧ Mo s0 s9) 0 0) 208 [some (.ref 67), some (.int y1), some (.int y2), some (.int y3), some (.int y4), some (.int y5), some (.int x6), some (.int v12), none, none, some (.int v20), none] [] h 0 0 := by
                intro hf
                subst ek33
                refine aw_iconst (v := 0) (pc' := 209) dX12_log_208 rfl (by decide) ?_
                exact hk21 _ hf
              clear ek33
              refine aw_cle (tgt := 208) (pc' := 174) dX12_log_171 (by decide) rfl (fun c34 => ?_) (fun c34 => ?_)
              · replace hf := ifn c34 hf
                refine AW.lv_le (lz_k (lz_k (lz_k (lz_k (lz_k (lz_k (lz_k (lz_k (lz_d (lz_d (lz_k (lz_d lz_0)))))))))))) ?_
                exact hk33  hf
              · replace hf := ifp c34 hf
                refine aw_aload_n (pc' := 175) dX12_log_174 rfl rfl rfl ?_
                refine aw_gr (q := 59) (e := 27) (v := .ref 80) (pc' := 178) H (H.fo rfl rfl) (by decide) rfl rfl dX12_log_175 rfl fl_RX12_47 ?_
                refine aw_bipush (v := 61) (pc' := 180) dX12_log_178 rfl (by decide) ?_
                refine aw_iload_n (pc' := 181) dX12_log_180 rfl rfl ?_
                refine aw_imul (pc' := 182) dX12_log_181 rfl ?_
                refine aw_iload (pc' := 184) dX12_log_182 rfl rfl ?_
                refine aw_iadd (pc' := 185) dX12_log_184 rfl ?_
                refine aw_iconst (v := 1) (pc' := 186) dX12_log_185 rfl (by decide) ?_
                refine aw_isub (pc' := 187) dX12_log_186 rfl ?_
                obtain ⟨v35, ev35, hf⟩ := vl_e hf
                refine aw_topi ev35 ?_
                obtain ⟨g36, hf⟩ := gd_e hf
                refine aw_za (q := 72) (pc' := 188) H (H.fa rfl rfl rfl) g36 dX12_log_187 rfl ?_
                refine aw_if_eq (tgt := 208) (pc' := 191) dX12_log_188 (by decide) rfl (fun c37 => ?_) (fun c37 => ?_)
                · replace hf := ifp c37 hf
                  refine AW.lv_le (lz_k (lz_k (lz_k (lz_k (lz_k (lz_k (lz_k (lz_k (lz_d (lz_d (lz_k (lz_d lz_0)))))))))))) ?_
                  exact hk33  hf
                · replace hf := ifn c37 hf
                  refine aw_aload_n (pc' := 192) dX12_log_191 rfl rfl rfl ?_
                  refine aw_gr (q := 59) (e := 29) (v := .ref 81) (pc' := 195) H (H.fo rfl rfl) (by decide) rfl rfl dX12_log_192 rfl fl_RX12_50 ?_
                  refine aw_bipush (v := 61) (pc' := 197) dX12_log_195 rfl (by decide) ?_
                  refine aw_iload_n (pc' := 198) dX12_log_197 rfl rfl ?_
                  refine aw_imul (pc' := 199) dX12_log_198 rfl ?_
                  refine aw_iload (pc' := 201) dX12_log_199 rfl rfl ?_
                  refine aw_iadd (pc' := 202) dX12_log_201 rfl ?_
                  refine aw_iconst (v := 1) (pc' := 203) dX12_log_202 rfl (by decide) ?_
                  refine aw_isub (pc' := 204) dX12_log_203 rfl ?_
                  obtain ⟨v38, ev38, hf⟩ := vl_e hf
                  refine aw_topi ev38 ?_
                  obtain ⟨g39, hf⟩ := gd_e hf
                  refine aw_ia (q := 73) (pc' := 205) H (H.fa rfl rfl rfl) g39 dX12_log_204 rfl ?_
                  refine aw_goto (tgt := 209) dX12_log_205 (by decide) ?_
                  refine AW.lv_le (lz_k (lz_k (lz_k (lz_k (lz_k (lz_k (lz_k (lz_k (lz_d (lz_d (lz_k (lz_d lz_0)))))))))))) ?_
                  exact hk21 _ hf
            · replace hf := ifn c19 hf
              refine AW.lv_le (lz_k (lz_k (lz_d (lz_d (lz_d (lz_d (lz_k (lz_k (lz_d (lz_d (lz_d (lz_d lz_0)))))))))))) ?_
              exact hq0 _ _ _ _ H ms hf
      · replace hf := ifp c13 hf
        refine aw_iload (pc' := 86) dX12_log_84 rfl rfl ?_
        obtain ⟨rfl, rfl⟩ := so2 hf
        exact aw_ri dX12_log_86 rfl rfl (Nat.le_of_ble_eq_true rfl) (Nat.le_of_ble_eq_true rfl) ⟨rfl, H, (mb.tr ms)⟩
def f_X12_log_L129_b (y1 : Int32) (y6 : Int32) (rc : SS → Int32 → Option (Int32 × SS)) (s : SS) (x10 : Int32) : Option (Int32 × SS) := (if (60 : Int32) < x10 then some (y6, s) else (vl ((((61 : Int32) * y1) + x10)) fun v42 => (gd (inB v42 7320) (st (pI s 72 (v42.toInt.toNat) ((0 : Int32) &&& 1)) fun s44 => (vl (x10 + 1) fun v45 => (rc s44 v45))))))
def f_X12_log_L129 (y1 : Int32) (y6 : Int32) : Nat → SS → Int32 → Option (Int32 × SS)
  | 0, _, _ => none
  | n + 1, s, x10 => f_X12_log_L129_b y1 y6 (f_X12_log_L129 y1 y6 n) s x10
set_option maxRecDepth 4000 in
theorem t_X12_log_L129 {r9 : Int32} {s0 sb s9 : SS} {y1 : Int32} {y6 : Int32} (mb : Mo s0 sb)  : ∀ (n : Nat) (s : SS) (h : List aE) (x10 : Int32), HH s h → Mo sb s → f_X12_log_L129 y1 y6 n s x10 = some (r9, s9) → AW mX12_log (rmD (3) 0 0) (fin (PI fun r' h' => r9 = r' ∧ HH s9 h' ∧ Mo s0 s9) 0 0) 129 [some (.ref 67), some (.int y1), none, none, none, none, some (.int y6), none, none, none, some (.int x10), none] [] h 0 0 := by
  intro n
  induction n with
  | zero =>
    intro s h x10 H ms hf
    cases hf
  | succ n ih =>
    intro s h x10 H ms hf
    replace hf : f_X12_log_L129_b y1 y6 (f_X12_log_L129 y1 y6 n) s x10 = some (r9, s9) := hf
    unfold f_X12_log_L129_b at hf
    refine aw_iload (pc' := 131) dX12_log_129 rfl rfl ?_
    refine aw_bipush (v := 60) (pc' := 133) dX12_log_131 rfl (by decide) ?_
    refine aw_cgt (tgt := 155) (pc' := 136) dX12_log_133 (by decide) rfl (fun c41 => ?_) (fun c41 => ?_)
    · replace hf := ifp c41 hf
      refine aw_iload (pc' := 157) dX12_log_155 rfl rfl ?_
      obtain ⟨rfl, rfl⟩ := so2 hf
      exact aw_ri dX12_log_157 rfl rfl (Nat.le_of_ble_eq_true rfl) (Nat.le_of_ble_eq_true rfl) ⟨rfl, H, (mb.tr ms)⟩
    · replace hf := ifn c41 hf
      refine aw_aload_n (pc' := 137) dX12_log_136 rfl rfl rfl ?_
      refine aw_gr (q := 59) (e := 27) (v := .ref 80) (pc' := 140) H (H.fo rfl rfl) (by decide) rfl rfl dX12_log_137 rfl fl_RX12_47 ?_
      refine aw_bipush (v := 61) (pc' := 142) dX12_log_140 rfl (by decide) ?_
      refine aw_iload_n (pc' := 143) dX12_log_142 rfl rfl ?_
      refine aw_imul (pc' := 144) dX12_log_143 rfl ?_
      refine aw_iload (pc' := 146) dX12_log_144 rfl rfl ?_
      refine aw_iadd (pc' := 147) dX12_log_146 rfl ?_
      refine aw_iconst (v := 0) (pc' := 148) dX12_log_147 rfl (by decide) ?_
      obtain ⟨v42, ev42, hf⟩ := vl_e hf
      refine aw_sndi ev42 ?_
      obtain ⟨g43, hf⟩ := gd_e hf
      obtain ⟨s44, es44, hf⟩ := st_e hf
      refine aw_zs (q := 72) (pc' := 149) es44 H (H.fa rfl rfl rfl) g43 dX12_log_148 rfl (fun h44 H44 => ?_)
      have m44 := Mo.ofI es44
      obtain ⟨v45, ev45, hf⟩ := vl_e hf
      refine aw_iincV (y := v45) (lv' := [_, _, _, _, _, _, _, _, _, _, _, _]) (pc' := 152) dX12_log_149 rfl rfl (Nat.le_of_ble_eq_true rfl) ev45 rfl ?_
      refine aw_goto (tgt := 129) dX12_log_152 (by decide) ?_
      exact ih _ _ _ H44 (ms.tr m44) hf
def f_X12_log (s0 : SS) (a0 : Int32) (a1 : Int32) (a2 : Int32) (a3 : Int32) (a4 : Int32) : Option (Int32 × SS) := (b1 (f_X12_isHole s0 a0) fun r1 => (if r1 = (0 : Int32) then some ((-1), s0) else (b1 (f_X12_isShelf a1) fun r3 => (if r3 = (0 : Int32) then some ((-1), s0) else (b1 (f_X12_in a3 (1 : Int32) (60 : Int32)) fun r5 => (if r5 = (0 : Int32) then some ((-1), s0) else (b1 (f_X12_in a4 (1 : Int32) (60 : Int32)) fun r7 => (if r7 = (0 : Int32) then some ((-1), s0) else (gd (inB a1 6) (jn ((f_X12_log_L63 (fun (s40 : SS) (x40_6 : Int32) (x40_7 : Int32) => (f_X12_log_L129 a0 x40_6 4000 s40 x40_7)) a0 a1 a2 a3 a4 4000 s0 0)) fun k10 => (if (zI s0 120 (a1.toInt.toNat)) = ((-1) : Int32) then k10 else (b1 (f_X12_isReals s0 a1) fun r47 => (if r47 = (0 : Int32) then some ((-12), s0) else k10)))))))))))))
set_option maxRecDepth 4000 in
theorem t_X12_log {r9 : Int32} {s0 s9 : SS} {h0 : List aE} {a0 : Int32} {a1 : Int32} {a2 : Int32} {a3 : Int32} {a4 : Int32} (H0 : HH s0 h0) (hf : f_X12_log s0 a0 a1 a2 a3 a4 = some (r9, s9)) : AM mX12_log (3) [.ref 67, .int a0, .int a1, .int a2, .int a3, .int a4] h0 0 0 (PI fun r' h' => r9 = r' ∧ HH s9 h' ∧ Mo s0 s9) := by
  unfold f_X12_log at hf
  refine am_of (lv := [some (.ref 67), some (.int a0), some (.int a1), some (.int a2), some (.int a3), some (.int a4), none, none, none, none, none, none]) rfl (Nat.le_of_ble_eq_true rfl) rfl ?_
  refine aw_aload_n (pc' := 1) dX12_log_0 rfl rfl rfl ?_
  refine aw_iload_n (pc' := 2) dX12_log_1 rfl rfl ?_
  obtain ⟨r1, ec1, hf⟩ := b1_e hf
  refine aw_callVi (M' := mX12_isHole) (nc' := 0) (ns' := 0) (pc' := 5) dX12_log_2 rfl ml_RX12_268 kX12_isHole (t_X12_isHole H0 ec1) (H0.ob (H0.fo rfl rfl) (by decide)) rfl rfl rfl (Nat.le_of_ble_eq_true rfl) (rokD (by omega) (Nat.le_of_ble_eq_true rfl) (Nat.le_of_ble_eq_true rfl) (Nat.le_of_ble_eq_true rfl)) rfl rfl (fun _ h1 q1 => ?_)
  obtain ⟨rfl, rfl, zb1⟩ := q1
  refine aw_if_eq (tgt := 37) (pc' := 8) dX12_log_5 (by decide) rfl (fun c2 => ?_) (fun c2 => ?_)
  · replace hf := ifp c2 hf
    refine aw_iconst (v := (-1)) (pc' := 38) dX12_log_37 rfl (by decide) ?_
    obtain ⟨rfl, rfl⟩ := so2 hf
    exact aw_ri dX12_log_38 rfl rfl (Nat.le_of_ble_eq_true rfl) (Nat.le_of_ble_eq_true rfl) ⟨rfl, H0, (Mo.rf _)⟩
  · replace hf := ifn c2 hf
    refine aw_iload_n (pc' := 9) dX12_log_8 rfl rfl ?_
    obtain ⟨r3, ec3, hf⟩ := b1_e hf
    refine aw_callSi (M' := mX12_isShelf) (nc' := 0) (ns' := 0) (pc' := 12) dX12_log_9 rfl ml_RX12_288 kX12_isShelf (t_X12_isShelf ec3) rfl rfl (Nat.le_of_ble_eq_true rfl) (rokD (by omega) (Nat.le_of_ble_eq_true rfl) (Nat.le_of_ble_eq_true rfl) (Nat.le_of_ble_eq_true rfl)) rfl rfl (fun _ h3 q3 => ?_)
    obtain ⟨rfl, rfl, zb3⟩ := q3
    refine aw_if_eq (tgt := 37) (pc' := 15) dX12_log_12 (by decide) rfl (fun c4 => ?_) (fun c4 => ?_)
    · replace hf := ifp c4 hf
      refine aw_iconst (v := (-1)) (pc' := 38) dX12_log_37 rfl (by decide) ?_
      obtain ⟨rfl, rfl⟩ := so2 hf
      exact aw_ri dX12_log_38 rfl rfl (Nat.le_of_ble_eq_true rfl) (Nat.le_of_ble_eq_true rfl) ⟨rfl, H0, (Mo.rf _)⟩
    · replace hf := ifn c4 hf
      refine aw_iload (pc' := 17) dX12_log_15 rfl rfl ?_
      refine aw_iconst (v := 1) (pc' := 18) dX12_log_17 rfl (by decide) ?_
      refine aw_bipush (v := 60) (pc' := 20) dX12_log_18 rfl (by decide) ?_
      obtain ⟨r5, ec5, hf⟩ := b1_e hf
      refine aw_callSi (M' := mX12_in) (nc' := 0) (ns' := 0) (pc' := 23) dX12_log_20 rfl ml_RX12_230 kX12_in (t_X12_in ec5) rfl rfl (Nat.le_of_ble_eq_true rfl) (rokD (by omega) (Nat.le_of_ble_eq_true rfl) (Nat.le_of_ble_eq_true rfl) (Nat.le_of_ble_eq_true rfl)) rfl rfl (fun _ h5 q5 => ?_)
      obtain ⟨rfl, rfl, zb5⟩ := q5
      refine aw_if_eq (tgt := 37) (pc' := 26) dX12_log_23 (by decide) rfl (fun c6 => ?_) (fun c6 => ?_)
      · replace hf := ifp c6 hf
        refine aw_iconst (v := (-1)) (pc' := 38) dX12_log_37 rfl (by decide) ?_
        obtain ⟨rfl, rfl⟩ := so2 hf
        exact aw_ri dX12_log_38 rfl rfl (Nat.le_of_ble_eq_true rfl) (Nat.le_of_ble_eq_true rfl) ⟨rfl, H0, (Mo.rf _)⟩
      · replace hf := ifn c6 hf
        refine aw_iload (pc' := 28) dX12_log_26 rfl rfl ?_
        refine aw_iconst (v := 1) (pc' := 29) dX12_log_28 rfl (by decide) ?_
        refine aw_bipush (v := 60) (pc' := 31) dX12_log_29 rfl (by decide) ?_
        obtain ⟨r7, ec7, hf⟩ := b1_e hf
        refine aw_callSi (M' := mX12_in) (nc' := 0) (ns' := 0) (pc' := 34) dX12_log_31 rfl ml_RX12_230 kX12_in (t_X12_in ec7) rfl rfl (Nat.le_of_ble_eq_true rfl) (rokD (by omega) (Nat.le_of_ble_eq_true rfl) (Nat.le_of_ble_eq_true rfl) (Nat.le_of_ble_eq_true rfl)) rfl rfl (fun _ h7 q7 => ?_)
        obtain ⟨rfl, rfl, zb7⟩ := q7
        refine aw_if_ne (tgt := 39) (pc' := 37) dX12_log_34 (by decide) rfl (fun c8 => ?_) (fun c8 => ?_)
        · replace hf := ifn c8 hf
          refine aw_aload_n (pc' := 40) dX12_log_39 rfl rfl rfl ?_
          refine aw_gr (q := 59) (e := 123) (v := .ref 128) (pc' := 43) H0 (H0.fo rfl rfl) (by decide) rfl rfl dX12_log_40 rfl fl_RX12_208 ?_
          refine aw_iload_n (pc' := 44) dX12_log_43 rfl rfl ?_
          obtain ⟨g9, hf⟩ := gd_e hf
          refine aw_ia (q := 120) (pc' := 45) H0 (H0.fa rfl rfl rfl) g9 dX12_log_44 rfl ?_
          refine aw_iconst (v := (-1)) (pc' := 46) dX12_log_45 rfl (by decide) ?_
          obtain ⟨k10, ek10, hf⟩ := jn_e hf
          have hk10 : k10 = some (r9, s9) → AW mX12_log (rmD (3) 0 0) (fin (PI fun r' h' => r9 = r' ∧ HH s9 h' ∧ Mo s0 s9) 0 0) 60 [some (.ref 67), some (.int a0), some (.int a1), some (.int a2), some (.int a3), some (.int a4), none, none, none, none, none, none] [] h0 0 0 := by
            intro hf
            subst ek10
            refine aw_iconst (v := 0) (pc' := 61) dX12_log_60 rfl (by decide) ?_
            refine aw_istore (lv' := [_, _, _, _, _, _, _, _, _, _, _, _]) (pc' := 63) dX12_log_61 rfl (Nat.le_of_ble_eq_true rfl) rfl ?_
            refine t_X12_log_L63 (Mo.rf _) (fun s40 h40 x40_6 x40_7 H40 m40 hf => ?_) 4000 _ _ _ H0 (Mo.rf _) hf
            refine aw_iload (pc' := 127) dX12_log_125 rfl rfl ?_
            refine aw_istore (lv' := [_, _, _, _, _, _, _, _, _, _, _, _]) (pc' := 129) dX12_log_127 rfl (Nat.le_of_ble_eq_true rfl) rfl ?_
            refine AW.lv_le (lz_k (lz_k (lz_d (lz_d (lz_d (lz_d (lz_k (lz_d (lz_d (lz_d (lz_k (lz_d lz_0)))))))))))) ?_
            refine t_X12_log_L129 m40  4000 _ _ _ H40 (Mo.rf _) hf
          clear ek10
          refine aw_icmp_eq (tgt := 60) (pc' := 49) dX12_log_46 (by decide) rfl (fun c46 => ?_) (fun c46 => ?_)
          · replace hf := ifp c46 hf
            exact hk10  hf
          · replace hf := ifn c46 hf
            refine aw_aload_n (pc' := 50) dX12_log_49 rfl rfl rfl ?_
            refine aw_iload_n (pc' := 51) dX12_log_50 rfl rfl ?_
            obtain ⟨r47, ec47, hf⟩ := b1_e hf
            refine aw_callVi (M' := mX12_isReals) (nc' := 0) (ns' := 0) (pc' := 54) dX12_log_51 rfl ml_RX12_291 kX12_isReals (t_X12_isReals H0 ec47) (H0.ob (H0.fo rfl rfl) (by decide)) rfl rfl rfl (Nat.le_of_ble_eq_true rfl) (rokD (by omega) (Nat.le_of_ble_eq_true rfl) (Nat.le_of_ble_eq_true rfl) (Nat.le_of_ble_eq_true rfl)) rfl rfl (fun _ h47 q47 => ?_)
            obtain ⟨rfl, rfl, zb47⟩ := q47
            refine aw_if_ne (tgt := 60) (pc' := 57) dX12_log_54 (by decide) rfl (fun c48 => ?_) (fun c48 => ?_)
            · replace hf := ifn c48 hf
              exact hk10  hf
            · replace hf := ifp c48 hf
              refine aw_bipush (v := (-12)) (pc' := 59) dX12_log_57 rfl (by decide) ?_
              obtain ⟨rfl, rfl⟩ := so2 hf
              exact aw_ri dX12_log_59 rfl rfl (Nat.le_of_ble_eq_true rfl) (Nat.le_of_ble_eq_true rfl) ⟨rfl, H0, (Mo.rf _)⟩
        · replace hf := ifp c8 hf
          refine aw_iconst (v := (-1)) (pc' := 38) dX12_log_37 rfl (by decide) ?_
          obtain ⟨rfl, rfl⟩ := so2 hf
          exact aw_ri dX12_log_38 rfl rfl (Nat.le_of_ble_eq_true rfl) (Nat.le_of_ble_eq_true rfl) ⟨rfl, H0, (Mo.rf _)⟩
/-! ThirtyThreeBelowModel.down4 -/
def f_X12_down4 (a0 : Int32) : Option Int32 := (if a0 < (0 : Int32) then some (-(((3 : Int32) - a0) / (4 : Int32))) else some (a0 / (4 : Int32)))
set_option maxRecDepth 4000 in
theorem t_X12_down4 {r9 : Int32} {h0 : List aE} {a0 : Int32}  (hf : f_X12_down4 a0 = some r9) : AM mX12_down4 (0) [.int a0] h0 0 0 (PI fun r' h' => r9 = r' ∧ h0 = h') := by
  unfold f_X12_down4 at hf
  refine am_of (lv := [some (.int a0)]) rfl (Nat.le_of_ble_eq_true rfl) rfl ?_
  refine aw_iload_n (pc' := 1) dX12_down4_0 rfl rfl ?_
  refine aw_zlt (tgt := 10) (pc' := 4) dX12_down4_1 (by decide) rfl (fun c1 => ?_) (fun c1 => ?_)
  · replace hf := ifp c1 hf
    refine aw_iconst (v := 3) (pc' := 11) dX12_down4_10 rfl (by decide) ?_
    refine aw_iload_n (pc' := 12) dX12_down4_11 rfl rfl ?_
    refine aw_isub (pc' := 13) dX12_down4_12 rfl ?_
    refine aw_iconst (v := 4) (pc' := 14) dX12_down4_13 rfl (by decide) ?_
    refine aw_idiv (pc' := 15) dX12_down4_14 rfl (by decide) ?_
    refine aw_ineg (pc' := 16) dX12_down4_15 rfl ?_
    obtain rfl := Option.some.inj hf
    exact aw_ri dX12_down4_16 rfl rfl (Nat.le_of_ble_eq_true rfl) (Nat.le_of_ble_eq_true rfl) ⟨rfl, rfl⟩
  · replace hf := ifn c1 hf
    refine aw_iload_n (pc' := 5) dX12_down4_4 rfl rfl ?_
    refine aw_iconst (v := 4) (pc' := 6) dX12_down4_5 rfl (by decide) ?_
    refine aw_idiv (pc' := 7) dX12_down4_6 rfl (by decide) ?_
    refine aw_goto (tgt := 16) dX12_down4_7 (by decide) ?_
    obtain rfl := Option.some.inj hf
    exact aw_ri dX12_down4_16 rfl rfl (Nat.le_of_ble_eq_true rfl) (Nat.le_of_ble_eq_true rfl) ⟨rfl, rfl⟩
