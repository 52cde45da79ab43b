/-! what ties the two: a relation that every call keeps, and by which the answers are alike -/
def RelPre (σ τ : qx_S) (P S n : Nat) : Prop := wS σ P S ∧ wN σ n ∧ (σ 7 2 = 0 ∨ σ 7 2 = 1) ∧ (σ 32 2 = 0 ∨ σ 32 2 = 1) ∧ mW τ P S n ∧ mS τ P S ∧ (∀ i, mPre (qf (mGoS S n) (τ, 0) i).1 S)
def RelSame (R : qx_S → qx_S → Prop) (p q : Int32 × qx_S) : Prop := p.1 = q.1 ∧ R p.2 q.2
def RelSet (R : qx_S → qx_S → Prop) (σ τ : qx_S) (P S n : Nat) : Prop := (∀ a, RelSame R (fStreet σ a) (mStreet τ a)) ∧ (∀ a b c, RelSame R (fPlace σ a b c) (mPlace τ a b c)) ∧ (∀ a b, RelSame R (fLimit σ a b) (mLimit τ a b)) ∧ (∀ a b is, is = 0 ∨ is = 1 → RelSame R (fClash σ a b is) (mClash τ a b is)) ∧ (∀ a b, RelSame R (fRule σ a b) (mRule τ a b)) ∧ (∀ a b c d e f, RelSame R (fStall σ a b c d e f S) (mStall τ a b c d e f S)) ∧ (∀ a b c, RelSame R (fChange σ a b c) (mChange τ a b c))
def RelPlan (R : qx_S → qx_S → Prop) (σ τ : qx_S) (P S n : Nat) : Prop := (∀ a b, RelSame R (fLayout σ a b P S) (mLayout τ a b P S)) ∧ (∀ a, RelSame R (fWorth σ a P S) (mWorth τ a P S)) ∧ (∀ a, RelSame R (fOpen σ a P S) (mOpenF τ a P S))
def RelNight (R : qx_S → qx_S → Prop) (σ τ : qx_S) (P S n : Nat) : Prop := RelSame R (fShut σ) (mShut τ) ∧ (∀ a b, RelSame R (fGuest σ a b n) (mGuest τ a b n)) ∧ (∀ a, RelSame R (fGo σ a n) (mGo τ a S n)) ∧ (∀ a b, RelSame R (fPlug σ a b) (mPlug τ a b S)) ∧ (∀ a, RelSame R (fReset σ a) (mReset τ a S)) ∧ (∀ a, RelSame R (fPull σ a) (mPull τ a))
def RelTell (σ τ : qx_S) (P S n : Nat) : Prop := (∀ a b, fOf σ a b n = mOfF τ a b n) ∧ (∀ a b, fGuestOf σ a b = mGuestOf τ a b) ∧ (∀ a b c, fSusp σ a b c n = mSusp τ a b c n) ∧ (∀ a b, fLineOf σ a b = mLineOf τ a b S) ∧ (∀ a, fMany σ a P n = mMany τ a P S n)
def RelKept (R : qx_S → qx_S → Prop) (σ τ : qx_S) : Prop := R (kpt σ) (qs (mAll1 τ) 0 6 1) ∧ RelSame R (fBack σ) (mBack τ)
def LawOK (R : qx_S → qx_S → Prop) : Prop := ∀ σ τ, R σ τ → ∃ P S n, RelPre σ τ P S n ∧ RelSet R σ τ P S n ∧ RelPlan R σ τ P S n ∧ RelNight R σ τ P S n ∧ RelTell σ τ P S n ∧ RelKept R σ τ
theorem qx_roomL {a maxL : Nat} (h : a ≤ 100) (hm : maxL ≤ 21) : (qx_R a).cells = 0 ∧ (qx_R a).slots = 0 ∧ (qx_R a).frames + 1 ≤ 2048 ∧ 8 + (maxL + 11) + (qx_R a).locals ≤ 84000 := by
  refine ⟨rfl, rfl, ?_, ?_⟩
  · show a + 1 ≤ 2048
    omega
  · show 8 + (maxL + 11) + 40 * a ≤ 84000
    omega
set_option maxRecDepth 20000 in
set_option maxHeartbeats 2000000 in
theorem lw_case_street {K : qx_K} {G : lx_G} {b L cn sn : Nat} {xs : Nat → Int32} {σ τ : qx_S} (C : lx_C K G b L xs) (Dd : lx_D K G) (hc : cn ≤ 600000 ∧ sn ≤ 7302250) (R : qx_S → qx_S → Prop) (P S n i : Nat) (hi : i + 7 ≤ L) (hL : L ≤ 3584) (RP : RelPre σ τ P S n) (RS : RelSet R σ τ P S n) (RL : RelPlan R σ τ P S n) (RN : RelNight R σ τ P S n) (RT : RelTell σ τ P S n) (RK : RelKept R σ τ) (h0 : R σ τ) (kk : ∀ σ1 τ1, R σ1 τ1 → lx_X K G cn sn σ1 τ1 867 [some (.ref b), some (.ref (fa (gC G) 0)), some (.ref (fa (gM G) 0)), some (.int (nI i))] []) : lx_X K G cn sn σ τ 140 [some (.ref b), some (.ref (fa (gC G) 0)), some (.ref (fa (gM G) 0)), some (.int (nI i))] [] := by
  obtain ⟨hwS, hwN, hb, hbk, mw, ms, mp⟩ := RP
  refine lx_aload_n C dL_law_140 rfl rfl ?_
  refine lx_aload_n C dL_law_141 rfl rfl ?_
  refine lx_iload_n C dL_law_142 rfl rfl ?_
  refine lx_iconst C (v := 1) dL_law_143 rfl ?_
  refine lx_iaddN C (k := 1) rfl dL_law_144 ?_
  refine lx_sld C ⟨by omega, hL⟩ dL_law_145 ?_
  refine lx_callC C Dd (As := [_]) (n := 1) (c_X4_street (gC G) 0 σ (xs (i + 1))) qw_212 qw_213 qw_214 qw_39 qw_215 ⟨rfl, by decide, by decide, by decide +kernel⟩ (qx_roomL (by decide) (by decide)) hc rfl rfl (Nat.le_of_ble_eq_true rfl) dL_law_146 ?_
  refine lx_aload_n C dL_law_149 rfl rfl ?_
  refine lx_aload_n C dL_law_150 rfl rfl ?_
  refine lx_iload_n C dL_law_151 rfl rfl ?_
  refine lx_iconst C (v := 1) dL_law_152 rfl ?_
  refine lx_iaddN C (k := 1) rfl dL_law_153 ?_
  refine lx_sld C ⟨by omega, hL⟩ dL_law_154 ?_
  refine lx_callM C Dd (As := [_]) (n := 1) (c_X5_street (gM G) 0 τ (xs (i + 1))) qw_622 qw_623 qw_624 qw_44 qw_625 ⟨rfl, by decide, by decide, by decide +kernel⟩ (qx_roomL (by decide) (by decide)) hc rfl rfl (Nat.le_of_ble_eq_true rfl) dL_law_155 ?_
  refine lx_icmp_eq C (tgt := 867) dL_law_158 (by decide) (fun _ => ?_) (fun h => absurd (RS.1 (xs (i + 1))).1 h)
  exact kk _ _ (RS.1 (xs (i + 1))).2
set_option maxRecDepth 20000 in
set_option maxHeartbeats 2000000 in
theorem lw_case_place {K : qx_K} {G : lx_G} {b L cn sn : Nat} {xs : Nat → Int32} {σ τ : qx_S} (C : lx_C K G b L xs) (Dd : lx_D K G) (hc : cn ≤ 600000 ∧ sn ≤ 7302250) (R : qx_S → qx_S → Prop) (P S n i : Nat) (hi : i + 7 ≤ L) (hL : L ≤ 3584) (RP : RelPre σ τ P S n) (RS : RelSet R σ τ P S n) (RL : RelPlan R σ τ P S n) (RN : RelNight R σ τ P S n) (RT : RelTell σ τ P S n) (RK : RelKept R σ τ) (h0 : R σ τ) (kk : ∀ σ1 τ1, R σ1 τ1 → lx_X K G cn sn σ1 τ1 867 [some (.ref b), some (.ref (fa (gC G) 0)), some (.ref (fa (gM G) 0)), some (.int (nI i))] []) : lx_X K G cn sn σ τ 163 [some (.ref b), some (.ref (fa (gC G) 0)), some (.ref (fa (gM G) 0)), some (.int (nI i))] [] := by
  obtain ⟨hwS, hwN, hb, hbk, mw, ms, mp⟩ := RP
  refine lx_aload_n C dL_law_163 rfl rfl ?_
  refine lx_aload_n C dL_law_164 rfl rfl ?_
  refine lx_iload_n C dL_law_165 rfl rfl ?_
  refine lx_iconst C (v := 1) dL_law_166 rfl ?_
  refine lx_iaddN C (k := 1) rfl dL_law_167 ?_
  refine lx_sld C ⟨by omega, hL⟩ dL_law_168 ?_
  refine lx_aload_n C dL_law_169 rfl rfl ?_
  refine lx_iload_n C dL_law_170 rfl rfl ?_
  refine lx_iconst C (v := 2) dL_law_171 rfl ?_
  refine lx_iaddN C (k := 2) rfl dL_law_172 ?_
  refine lx_sld C ⟨by omega, hL⟩ dL_law_173 ?_
  refine lx_aload_n C dL_law_174 rfl rfl ?_
  refine lx_iload_n C dL_law_175 rfl rfl ?_
  refine lx_iconst C (v := 3) dL_law_176 rfl ?_
  refine lx_iaddN C (k := 3) rfl dL_law_177 ?_
  refine lx_sld C ⟨by omega, hL⟩ dL_law_178 ?_
  refine lx_callC C Dd (As := [_, _, _]) (n := 3) (c_X4_place (gC G) 0 σ (xs (i + 1)) (xs (i + 2)) (xs (i + 3)) P hwS.2.2.1 hwS.2.2.2.1 G.2.2.2.2.2.1 rfl) qw_227 qw_228 qw_229 qw_39 qw_230 ⟨rfl, by decide, by decide, by decide +kernel⟩ (qx_roomL (by decide) (by decide)) hc rfl rfl (Nat.le_of_ble_eq_true rfl) dL_law_179 ?_
  refine lx_aload_n C dL_law_182 rfl rfl ?_
  refine lx_aload_n C dL_law_183 rfl rfl ?_
  refine lx_iload_n C dL_law_184 rfl rfl ?_
  refine lx_iconst C (v := 1) dL_law_185 rfl ?_
  refine lx_iaddN C (k := 1) rfl dL_law_186 ?_
  refine lx_sld C ⟨by omega, hL⟩ dL_law_187 ?_
  refine lx_aload_n C dL_law_188 rfl rfl ?_
  refine lx_iload_n C dL_law_189 rfl rfl ?_
  refine lx_iconst C (v := 2) dL_law_190 rfl ?_
  refine lx_iaddN C (k := 2) rfl dL_law_191 ?_
  refine lx_sld C ⟨by omega, hL⟩ dL_law_192 ?_
  refine lx_aload_n C dL_law_193 rfl rfl ?_
  refine lx_iload_n C dL_law_194 rfl rfl ?_
  refine lx_iconst C (v := 3) dL_law_195 rfl ?_
  refine lx_iaddN C (k := 3) rfl dL_law_196 ?_
  refine lx_sld C ⟨by omega, hL⟩ dL_law_197 ?_
  refine lx_callM C Dd (As := [_, _, _]) (n := 3) (c_X5_place (gM G) 0 τ (xs (i + 1)) (xs (i + 2)) (xs (i + 3)) P mw.1.1 mw.1.2) qw_637 qw_638 qw_639 qw_44 qw_640 ⟨rfl, by decide, by decide, by decide +kernel⟩ (qx_roomL (by decide) (by decide)) hc rfl rfl (Nat.le_of_ble_eq_true rfl) dL_law_198 ?_
  refine lx_icmp_eq C (tgt := 867) dL_law_201 (by decide) (fun _ => ?_) (fun h => absurd (RS.2.1 (xs (i + 1)) (xs (i + 2)) (xs (i + 3))).1 h)
  exact kk _ _ (RS.2.1 (xs (i + 1)) (xs (i + 2)) (xs (i + 3))).2
set_option maxRecDepth 20000 in
set_option maxHeartbeats 2000000 in
theorem lw_case_limit {K : qx_K} {G : lx_G} {b L cn sn : Nat} {xs : Nat → Int32} {σ τ : qx_S} (C : lx_C K G b L xs) (Dd : lx_D K G) (hc : cn ≤ 600000 ∧ sn ≤ 7302250) (R : qx_S → qx_S → Prop) (P S n i : Nat) (hi : i + 7 ≤ L) (hL : L ≤ 3584) (RP : RelPre σ τ P S n) (RS : RelSet R σ τ P S n) (RL : RelPlan R σ τ P S n) (RN : RelNight R σ τ P S n) (RT : RelTell σ τ P S n) (RK : RelKept R σ τ) (h0 : R σ τ) (kk : ∀ σ1 τ1, R σ1 τ1 → lx_X K G cn sn σ1 τ1 867 [some (.ref b), some (.ref (fa (gC G) 0)), some (.ref (fa (gM G) 0)), some (.int (nI i))] []) : lx_X K G cn sn σ τ 206 [some (.ref b), some (.ref (fa (gC G) 0)), some (.ref (fa (gM G) 0)), some (.int (nI i))] [] := by
  obtain ⟨hwS, hwN, hb, hbk, mw, ms, mp⟩ := RP
  refine lx_aload_n C dL_law_206 rfl rfl ?_
  refine lx_aload_n C dL_law_207 rfl rfl ?_
  refine lx_iload_n C dL_law_208 rfl rfl ?_
  refine lx_iconst C (v := 1) dL_law_209 rfl ?_
  refine lx_iaddN C (k := 1) rfl dL_law_210 ?_
  refine lx_sld C ⟨by omega, hL⟩ dL_law_211 ?_
  refine lx_aload_n C dL_law_212 rfl rfl ?_
  refine lx_iload_n C dL_law_213 rfl rfl ?_
  refine lx_iconst C (v := 2) dL_law_214 rfl ?_
  refine lx_iaddN C (k := 2) rfl dL_law_215 ?_
  refine lx_sld C ⟨by omega, hL⟩ dL_law_216 ?_
  refine lx_callC C Dd (As := [_, _]) (n := 2) (c_X4_limit (gC G) 0 σ (xs (i + 1)) (xs (i + 2))) qw_246 qw_247 qw_248 qw_39 qw_249 ⟨rfl, by decide, by decide, by decide +kernel⟩ (qx_roomL (by decide) (by decide)) hc rfl rfl (Nat.le_of_ble_eq_true rfl) dL_law_217 ?_
  refine lx_aload_n C dL_law_220 rfl rfl ?_
  refine lx_aload_n C dL_law_221 rfl rfl ?_
  refine lx_iload_n C dL_law_222 rfl rfl ?_
  refine lx_iconst C (v := 1) dL_law_223 rfl ?_
  refine lx_iaddN C (k := 1) rfl dL_law_224 ?_
  refine lx_sld C ⟨by omega, hL⟩ dL_law_225 ?_
  refine lx_aload_n C dL_law_226 rfl rfl ?_
  refine lx_iload_n C dL_law_227 rfl rfl ?_
  refine lx_iconst C (v := 2) dL_law_228 rfl ?_
  refine lx_iaddN C (k := 2) rfl dL_law_229 ?_
  refine lx_sld C ⟨by omega, hL⟩ dL_law_230 ?_
  refine lx_callM C Dd (As := [_, _]) (n := 2) (c_X5_limit (gM G) 0 τ (xs (i + 1)) (xs (i + 2))) qw_645 qw_646 qw_647 qw_44 qw_648 ⟨rfl, by decide, by decide, by decide +kernel⟩ (qx_roomL (by decide) (by decide)) hc rfl rfl (Nat.le_of_ble_eq_true rfl) dL_law_231 ?_
  refine lx_icmp_eq C (tgt := 867) dL_law_234 (by decide) (fun _ => ?_) (fun h => absurd (RS.2.2.1 (xs (i + 1)) (xs (i + 2))).1 h)
  exact kk _ _ (RS.2.2.1 (xs (i + 1)) (xs (i + 2))).2
set_option maxRecDepth 20000 in
set_option maxHeartbeats 2000000 in
theorem lw_case_clash_0 {K : qx_K} {G : lx_G} {b L cn sn : Nat} {xs : Nat → Int32} {σ τ : qx_S} (C : lx_C K G b L xs) (Dd : lx_D K G) (hc : cn ≤ 600000 ∧ sn ≤ 7302250) (R : qx_S → qx_S → Prop) (P S n i : Nat) (hi : i + 7 ≤ L) (hL : L ≤ 3584) (RP : RelPre σ τ P S n) (RS : RelSet R σ τ P S n) (RL : RelPlan R σ τ P S n) (RN : RelNight R σ τ P S n) (RT : RelTell σ τ P S n) (RK : RelKept R σ τ) (h0 : R σ τ) (hx : xs (i + 3) = 0) (kk : ∀ σ1 τ1, R σ1 τ1 → lx_X K G cn sn σ1 τ1 867 [some (.ref b), some (.ref (fa (gC G) 0)), some (.ref (fa (gM G) 0)), some (.int (nI i))] []) : lx_X K G cn sn σ τ 239 [some (.ref b), some (.ref (fa (gC G) 0)), some (.ref (fa (gM G) 0)), some (.int (nI i))] [] := by
  obtain ⟨hwS, hwN, hb, hbk, mw, ms, mp⟩ := RP
  refine lx_aload_n C dL_law_239 rfl rfl ?_
  refine lx_aload_n C dL_law_240 rfl rfl ?_
  refine lx_iload_n C dL_law_241 rfl rfl ?_
  refine lx_iconst C (v := 1) dL_law_242 rfl ?_
  refine lx_iaddN C (k := 1) rfl dL_law_243 ?_
  refine lx_sld C ⟨by omega, hL⟩ dL_law_244 ?_
  refine lx_aload_n C dL_law_245 rfl rfl ?_
  refine lx_iload_n C dL_law_246 rfl rfl ?_
  refine lx_iconst C (v := 2) dL_law_247 rfl ?_
  refine lx_iaddN C (k := 2) rfl dL_law_248 ?_
  refine lx_sld C ⟨by omega, hL⟩ dL_law_249 ?_
  refine lx_aload_n C dL_law_250 rfl rfl ?_
  refine lx_iload_n C dL_law_251 rfl rfl ?_
  refine lx_iconst C (v := 3) dL_law_252 rfl ?_
  refine lx_iaddN C (k := 3) rfl dL_law_253 ?_
  refine lx_sld C ⟨by omega, hL⟩ dL_law_254 ?_
  refine lx_if_eq C (tgt := 262) dL_law_255 (by decide) (fun _ => ?_) (fun h => absurd hx h)
  refine lx_iconst C (v := 0) dL_law_262 rfl ?_
  refine lx_callC C Dd (As := [_, _, _]) (n := 3) (c_X4_clash0 (gC G) 0 σ (xs (i + 1)) (xs (i + 2))) qw_257 qw_258 qw_259 qw_39 qw_260 ⟨rfl, by decide, by decide, by decide +kernel⟩ (qx_roomL (by decide) (by decide)) hc rfl rfl (Nat.le_of_ble_eq_true rfl) dL_law_263 ?_
  refine lx_aload_n C dL_law_266 rfl rfl ?_
  refine lx_aload_n C dL_law_267 rfl rfl ?_
  refine lx_iload_n C dL_law_268 rfl rfl ?_
  refine lx_iconst C (v := 1) dL_law_269 rfl ?_
  refine lx_iaddN C (k := 1) rfl dL_law_270 ?_
  refine lx_sld C ⟨by omega, hL⟩ dL_law_271 ?_
  refine lx_aload_n C dL_law_272 rfl rfl ?_
  refine lx_iload_n C dL_law_273 rfl rfl ?_
  refine lx_iconst C (v := 2) dL_law_274 rfl ?_
  refine lx_iaddN C (k := 2) rfl dL_law_275 ?_
  refine lx_sld C ⟨by omega, hL⟩ dL_law_276 ?_
  refine lx_aload_n C dL_law_277 rfl rfl ?_
  refine lx_iload_n C dL_law_278 rfl rfl ?_
  refine lx_iconst C (v := 3) dL_law_279 rfl ?_
  refine lx_iaddN C (k := 3) rfl dL_law_280 ?_
  refine lx_sld C ⟨by omega, hL⟩ dL_law_281 ?_
  refine lx_if_eq C (tgt := 289) dL_law_282 (by decide) (fun _ => ?_) (fun h => absurd hx h)
  refine lx_iconst C (v := 0) dL_law_289 rfl ?_
  refine lx_callM C Dd (As := [_, _, _]) (n := 3) (c_X5_clash0 (gM G) 0 τ (xs (i + 1)) (xs (i + 2))) qw_652 qw_653 qw_654 qw_44 qw_655 ⟨rfl, by decide, by decide, by decide +kernel⟩ (qx_roomL (by decide) (by decide)) hc rfl rfl (Nat.le_of_ble_eq_true rfl) dL_law_290 ?_
  refine lx_icmp_eq C (tgt := 867) dL_law_293 (by decide) (fun _ => ?_) (fun h => absurd (RS.2.2.2.1 (xs (i + 1)) (xs (i + 2)) 0 (by decide)).1 h)
  exact kk _ _ (RS.2.2.2.1 (xs (i + 1)) (xs (i + 2)) 0 (by decide)).2
set_option maxRecDepth 20000 in
set_option maxHeartbeats 2000000 in
theorem lw_case_clash_1 {K : qx_K} {G : lx_G} {b L cn sn : Nat} {xs : Nat → Int32} {σ τ : qx_S} (C : lx_C K G b L xs) (Dd : lx_D K G) (hc : cn ≤ 600000 ∧ sn ≤ 7302250) (R : qx_S → qx_S → Prop) (P S n i : Nat) (hi : i + 7 ≤ L) (hL : L ≤ 3584) (RP : RelPre σ τ P S n) (RS : RelSet R σ τ P S n) (RL : RelPlan R σ τ P S n) (RN : RelNight R σ τ P S n) (RT : RelTell σ τ P S n) (RK : RelKept R σ τ) (h0 : R σ τ) (hx : ¬ xs (i + 3) = 0) (kk : ∀ σ1 τ1, R σ1 τ1 → lx_X K G cn sn σ1 τ1 867 [some (.ref b), some (.ref (fa (gC G) 0)), some (.ref (fa (gM G) 0)), some (.int (nI i))] []) : lx_X K G cn sn σ τ 239 [some (.ref b), some (.ref (fa (gC G) 0)), some (.ref (fa (gM G) 0)), some (.int (nI i))] [] := by
  obtain ⟨hwS, hwN, hb, hbk, mw, ms, mp⟩ := RP
  refine lx_aload_n C dL_law_239 rfl rfl ?_
  refine lx_aload_n C dL_law_240 rfl rfl ?_
  refine lx_iload_n C dL_law_241 rfl rfl ?_
  refine lx_iconst C (v := 1) dL_law_242 rfl ?_
  refine lx_iaddN C (k := 1) rfl dL_law_243 ?_
  refine lx_sld C ⟨by omega, hL⟩ dL_law_244 ?_
  refine lx_aload_n C dL_law_245 rfl rfl ?_
  refine lx_iload_n C dL_law_246 rfl rfl ?_
  refine lx_iconst C (v := 2) dL_law_247 rfl ?_
  refine lx_iaddN C (k := 2) rfl dL_law_248 ?_
  refine lx_sld C ⟨by omega, hL⟩ dL_law_249 ?_
  refine lx_aload_n C dL_law_250 rfl rfl ?_
  refine lx_iload_n C dL_law_251 rfl rfl ?_
  refine lx_iconst C (v := 3) dL_law_252 rfl ?_
  refine lx_iaddN C (k := 3) rfl dL_law_253 ?_
  refine lx_sld C ⟨by omega, hL⟩ dL_law_254 ?_
  refine lx_if_eq C (tgt := 262) dL_law_255 (by decide) (fun h => absurd h hx) (fun _ => ?_)
  refine lx_iconst C (v := 1) dL_law_258 rfl ?_
  refine lx_goto C (tgt := 263) dL_law_259 (by decide) ?_
  refine lx_callC C Dd (As := [_, _, _]) (n := 3) (c_X4_clash1 (gC G) 0 σ (xs (i + 1)) (xs (i + 2))) qw_257 qw_258 qw_259 qw_39 qw_260 ⟨rfl, by decide, by decide, by decide +kernel⟩ (qx_roomL (by decide) (by decide)) hc rfl rfl (Nat.le_of_ble_eq_true rfl) dL_law_263 ?_
  refine lx_aload_n C dL_law_266 rfl rfl ?_
  refine lx_aload_n C dL_law_267 rfl rfl ?_
  refine lx_iload_n C dL_law_268 rfl rfl ?_
  refine lx_iconst C (v := 1) dL_law_269 rfl ?_
  refine lx_iaddN C (k := 1) rfl dL_law_270 ?_
  refine lx_sld C ⟨by omega, hL⟩ dL_law_271 ?_
  refine lx_aload_n C dL_law_272 rfl rfl ?_
  refine lx_iload_n C dL_law_273 rfl rfl ?_
  refine lx_iconst C (v := 2) dL_law_274 rfl ?_
  refine lx_iaddN C (k := 2) rfl dL_law_275 ?_
  refine lx_sld C ⟨by omega, hL⟩ dL_law_276 ?_
  refine lx_aload_n C dL_law_277 rfl rfl ?_
  refine lx_iload_n C dL_law_278 rfl rfl ?_
  refine lx_iconst C (v := 3) dL_law_279 rfl ?_
  refine lx_iaddN C (k := 3) rfl dL_law_280 ?_
  refine lx_sld C ⟨by omega, hL⟩ dL_law_281 ?_
  refine lx_if_eq C (tgt := 289) dL_law_282 (by decide) (fun h => absurd h hx) (fun _ => ?_)
  refine lx_iconst C (v := 1) dL_law_285 rfl ?_
  refine lx_goto C (tgt := 290) dL_law_286 (by decide) ?_
  refine lx_callM C Dd (As := [_, _, _]) (n := 3) (c_X5_clash1 (gM G) 0 τ (xs (i + 1)) (xs (i + 2))) qw_652 qw_653 qw_654 qw_44 qw_655 ⟨rfl, by decide, by decide, by decide +kernel⟩ (qx_roomL (by decide) (by decide)) hc rfl rfl (Nat.le_of_ble_eq_true rfl) dL_law_290 ?_
  refine lx_icmp_eq C (tgt := 867) dL_law_293 (by decide) (fun _ => ?_) (fun h => absurd (RS.2.2.2.1 (xs (i + 1)) (xs (i + 2)) 1 (by decide)).1 h)
  exact kk _ _ (RS.2.2.2.1 (xs (i + 1)) (xs (i + 2)) 1 (by decide)).2
set_option maxRecDepth 20000 in
set_option maxHeartbeats 2000000 in
theorem lw_case_rule {K : qx_K} {G : lx_G} {b L cn sn : Nat} {xs : Nat → Int32} {σ τ : qx_S} (C : lx_C K G b L xs) (Dd : lx_D K G) (hc : cn ≤ 600000 ∧ sn ≤ 7302250) (R : qx_S → qx_S → Prop) (P S n i : Nat) (hi : i + 7 ≤ L) (hL : L ≤ 3584) (RP : RelPre σ τ P S n) (RS : RelSet R σ τ P S n) (RL : RelPlan R σ τ P S n) (RN : RelNight R σ τ P S n) (RT : RelTell σ τ P S n) (RK : RelKept R σ τ) (h0 : R σ τ) (kk : ∀ σ1 τ1, R σ1 τ1 → lx_X K G cn sn σ1 τ1 867 [some (.ref b), some (.ref (fa (gC G) 0)), some (.ref (fa (gM G) 0)), some (.int (nI i))] []) : lx_X K G cn sn σ τ 298 [some (.ref b), some (.ref (fa (gC G) 0)), some (.ref (fa (gM G) 0)), some (.int (nI i))] [] := by
  obtain ⟨hwS, hwN, hb, hbk, mw, ms, mp⟩ := RP
  refine lx_aload_n C dL_law_298 rfl rfl ?_
  refine lx_aload_n C dL_law_299 rfl rfl ?_
  refine lx_iload_n C dL_law_300 rfl rfl ?_
  refine lx_iconst C (v := 1) dL_law_301 rfl ?_
  refine lx_iaddN C (k := 1) rfl dL_law_302 ?_
  refine lx_sld C ⟨by omega, hL⟩ dL_law_303 ?_
  refine lx_aload_n C dL_law_304 rfl rfl ?_
  refine lx_iload_n C dL_law_305 rfl rfl ?_
  refine lx_iconst C (v := 2) dL_law_306 rfl ?_
  refine lx_iaddN C (k := 2) rfl dL_law_307 ?_
  refine lx_sld C ⟨by omega, hL⟩ dL_law_308 ?_
  refine lx_callC C Dd (As := [_, _]) (n := 2) (c_X4_rule (gC G) 0 σ (xs (i + 1)) (xs (i + 2)) G.2.2.2.2.2.1 rfl) qw_269 qw_270 qw_271 qw_39 qw_272 ⟨rfl, by decide, by decide, by decide +kernel⟩ (qx_roomL (by decide) (by decide)) hc rfl rfl (Nat.le_of_ble_eq_true rfl) dL_law_309 ?_
  refine lx_aload_n C dL_law_312 rfl rfl ?_
  refine lx_aload_n C dL_law_313 rfl rfl ?_
  refine lx_iload_n C dL_law_314 rfl rfl ?_
  refine lx_iconst C (v := 1) dL_law_315 rfl ?_
  refine lx_iaddN C (k := 1) rfl dL_law_316 ?_
  refine lx_sld C ⟨by omega, hL⟩ dL_law_317 ?_
  refine lx_aload_n C dL_law_318 rfl rfl ?_
  refine lx_iload_n C dL_law_319 rfl rfl ?_
  refine lx_iconst C (v := 2) dL_law_320 rfl ?_
  refine lx_iaddN C (k := 2) rfl dL_law_321 ?_
  refine lx_sld C ⟨by omega, hL⟩ dL_law_322 ?_
  refine lx_callM C Dd (As := [_, _]) (n := 2) (c_X5_rule (gM G) 0 τ (xs (i + 1)) (xs (i + 2))) qw_656 qw_657 qw_658 qw_44 qw_659 ⟨rfl, by decide, by decide, by decide +kernel⟩ (qx_roomL (by decide) (by decide)) hc rfl rfl (Nat.le_of_ble_eq_true rfl) dL_law_323 ?_
  refine lx_icmp_eq C (tgt := 867) dL_law_326 (by decide) (fun _ => ?_) (fun h => absurd (RS.2.2.2.2.1 (xs (i + 1)) (xs (i + 2))).1 h)
  exact kk _ _ (RS.2.2.2.2.1 (xs (i + 1)) (xs (i + 2))).2
set_option maxRecDepth 20000 in
set_option maxHeartbeats 2000000 in
theorem lw_case_stall {K : qx_K} {G : lx_G} {b L cn sn : Nat} {xs : Nat → Int32} {σ τ : qx_S} (C : lx_C K G b L xs) (Dd : lx_D K G) (hc : cn ≤ 600000 ∧ sn ≤ 7302250) (R : qx_S → qx_S → Prop) (P S n i : Nat) (hi : i + 7 ≤ L) (hL : L ≤ 3584) (RP : RelPre σ τ P S n) (RS : RelSet R σ τ P S n) (RL : RelPlan R σ τ P S n) (RN : RelNight R σ τ P S n) (RT : RelTell σ τ P S n) (RK : RelKept R σ τ) (h0 : R σ τ) (kk : ∀ σ1 τ1, R σ1 τ1 → lx_X K G cn sn σ1 τ1 867 [some (.ref b), some (.ref (fa (gC G) 0)), some (.ref (fa (gM G) 0)), some (.int (nI i))] []) : lx_X K G cn sn σ τ 331 [some (.ref b), some (.ref (fa (gC G) 0)), some (.ref (fa (gM G) 0)), some (.int (nI i))] [] := by
  obtain ⟨hwS, hwN, hb, hbk, mw, ms, mp⟩ := RP
  refine lx_aload_n C dL_law_331 rfl rfl ?_
  refine lx_aload_n C dL_law_332 rfl rfl ?_
  refine lx_iload_n C dL_law_333 rfl rfl ?_
  refine lx_iconst C (v := 1) dL_law_334 rfl ?_
  refine lx_iaddN C (k := 1) rfl dL_law_335 ?_
  refine lx_sld C ⟨by omega, hL⟩ dL_law_336 ?_
  refine lx_aload_n C dL_law_337 rfl rfl ?_
  refine lx_iload_n C dL_law_338 rfl rfl ?_
  refine lx_iconst C (v := 2) dL_law_339 rfl ?_
  refine lx_iaddN C (k := 2) rfl dL_law_340 ?_
  refine lx_sld C ⟨by omega, hL⟩ dL_law_341 ?_
  refine lx_aload_n C dL_law_342 rfl rfl ?_
  refine lx_iload_n C dL_law_343 rfl rfl ?_
  refine lx_iconst C (v := 3) dL_law_344 rfl ?_
  refine lx_iaddN C (k := 3) rfl dL_law_345 ?_
  refine lx_sld C ⟨by omega, hL⟩ dL_law_346 ?_
  refine lx_aload_n C dL_law_347 rfl rfl ?_
  refine lx_iload_n C dL_law_348 rfl rfl ?_
  refine lx_iconst C (v := 4) dL_law_349 rfl ?_
  refine lx_iaddN C (k := 4) rfl dL_law_350 ?_
  refine lx_sld C ⟨by omega, hL⟩ dL_law_351 ?_
  refine lx_aload_n C dL_law_352 rfl rfl ?_
  refine lx_iload_n C dL_law_353 rfl rfl ?_
  refine lx_iconst C (v := 5) dL_law_354 rfl ?_
  refine lx_iaddN C (k := 5) rfl dL_law_355 ?_
  refine lx_sld C ⟨by omega, hL⟩ dL_law_356 ?_
  refine lx_aload_n C dL_law_357 rfl rfl ?_
  refine lx_iload_n C dL_law_358 rfl rfl ?_
  refine lx_bipush C (v := 6) dL_law_359 rfl ?_
  refine lx_iaddN C (k := 6) rfl dL_law_361 ?_
  refine lx_sld C ⟨by omega, hL⟩ dL_law_362 ?_
  refine lx_callC C Dd (As := [_, _, _, _, _, _]) (n := 6) (c_X4_stall (gC G) 0 σ (xs (i + 1)) (xs (i + 2)) (xs (i + 3)) (xs (i + 4)) (xs (i + 5)) (xs (i + 6)) S hwS.2.2.2.2.1 hwS.2.2.2.2.2 G.2.2.2.2.2.1 rfl) qw_279 qw_280 qw_281 qw_39 qw_282 ⟨rfl, by decide, by decide, by decide +kernel⟩ (qx_roomL (by decide) (by decide)) hc rfl rfl (Nat.le_of_ble_eq_true rfl) dL_law_363 ?_
  refine lx_aload_n C dL_law_366 rfl rfl ?_
  refine lx_aload_n C dL_law_367 rfl rfl ?_
  refine lx_iload_n C dL_law_368 rfl rfl ?_
  refine lx_iconst C (v := 1) dL_law_369 rfl ?_
  refine lx_iaddN C (k := 1) rfl dL_law_370 ?_
  refine lx_sld C ⟨by omega, hL⟩ dL_law_371 ?_
  refine lx_aload_n C dL_law_372 rfl rfl ?_
  refine lx_iload_n C dL_law_373 rfl rfl ?_
  refine lx_iconst C (v := 2) dL_law_374 rfl ?_
  refine lx_iaddN C (k := 2) rfl dL_law_375 ?_
  refine lx_sld C ⟨by omega, hL⟩ dL_law_376 ?_
  refine lx_aload_n C dL_law_377 rfl rfl ?_
  refine lx_iload_n C dL_law_378 rfl rfl ?_
  refine lx_iconst C (v := 3) dL_law_379 rfl ?_
  refine lx_iaddN C (k := 3) rfl dL_law_380 ?_
  refine lx_sld C ⟨by omega, hL⟩ dL_law_381 ?_
  refine lx_aload_n C dL_law_382 rfl rfl ?_
  refine lx_iload_n C dL_law_383 rfl rfl ?_
  refine lx_iconst C (v := 4) dL_law_384 rfl ?_
  refine lx_iaddN C (k := 4) rfl dL_law_385 ?_
  refine lx_sld C ⟨by omega, hL⟩ dL_law_386 ?_
  refine lx_aload_n C dL_law_387 rfl rfl ?_
  refine lx_iload_n C dL_law_388 rfl rfl ?_
  refine lx_iconst C (v := 5) dL_law_389 rfl ?_
  refine lx_iaddN C (k := 5) rfl dL_law_390 ?_
  refine lx_sld C ⟨by omega, hL⟩ dL_law_391 ?_
  refine lx_aload_n C dL_law_392 rfl rfl ?_
  refine lx_iload_n C dL_law_393 rfl rfl ?_
  refine lx_bipush C (v := 6) dL_law_394 rfl ?_
  refine lx_iaddN C (k := 6) rfl dL_law_396 ?_
  refine lx_sld C ⟨by omega, hL⟩ dL_law_397 ?_
  refine lx_callM C Dd (As := [_, _, _, _, _, _]) (n := 6) (c_X5_stall (gM G) 0 τ (xs (i + 1)) (xs (i + 2)) (xs (i + 3)) (xs (i + 4)) (xs (i + 5)) (xs (i + 6)) S mw.2.1.1 mw.2.1.2) qw_660 qw_661 qw_662 qw_44 qw_663 ⟨rfl, by decide, by decide, by decide +kernel⟩ (qx_roomL (by decide) (by decide)) hc rfl rfl (Nat.le_of_ble_eq_true rfl) dL_law_398 ?_
  refine lx_icmp_eq C (tgt := 867) dL_law_401 (by decide) (fun _ => ?_) (fun h => absurd (RS.2.2.2.2.2.1 (xs (i + 1)) (xs (i + 2)) (xs (i + 3)) (xs (i + 4)) (xs (i + 5)) (xs (i + 6))).1 h)
  exact kk _ _ (RS.2.2.2.2.2.1 (xs (i + 1)) (xs (i + 2)) (xs (i + 3)) (xs (i + 4)) (xs (i + 5)) (xs (i + 6))).2
set_option maxRecDepth 20000 in
set_option maxHeartbeats 2000000 in
theorem lw_case_change {K : qx_K} {G : lx_G} {b L cn sn : Nat} {xs : Nat → Int32} {σ τ : qx_S} (C : lx_C K G b L xs) (Dd : lx_D K G) (hc : cn ≤ 600000 ∧ sn ≤ 7302250) (R : qx_S → qx_S → Prop) (P S n i : Nat) (hi : i + 7 ≤ L) (hL : L ≤ 3584) (RP : RelPre σ τ P S n) (RS : RelSet R σ τ P S n) (RL : RelPlan R σ τ P S n) (RN : RelNight R σ τ P S n) (RT : RelTell σ τ P S n) (RK : RelKept R σ τ) (h0 : R σ τ) (kk : ∀ σ1 τ1, R σ1 τ1 → lx_X K G cn sn σ1 τ1 867 [some (.ref b), some (.ref (fa (gC G) 0)), some (.ref (fa (gM G) 0)), some (.int (nI i))] []) : lx_X K G cn sn σ τ 406 [some (.ref b), some (.ref (fa (gC G) 0)), some (.ref (fa (gM G) 0)), some (.int (nI i))] [] := by
  obtain ⟨hwS, hwN, hb, hbk, mw, ms, mp⟩ := RP
  refine lx_aload_n C dL_law_406 rfl rfl ?_
  refine lx_aload_n C dL_law_407 rfl rfl ?_
  refine lx_iload_n C dL_law_408 rfl rfl ?_
  refine lx_iconst C (v := 1) dL_law_409 rfl ?_
  refine lx_iaddN C (k := 1) rfl dL_law_410 ?_
  refine lx_sld C ⟨by omega, hL⟩ dL_law_411 ?_
  refine lx_aload_n C dL_law_412 rfl rfl ?_
  refine lx_iload_n C dL_law_413 rfl rfl ?_
  refine lx_iconst C (v := 2) dL_law_414 rfl ?_
  refine lx_iaddN C (k := 2) rfl dL_law_415 ?_
  refine lx_sld C ⟨by omega, hL⟩ dL_law_416 ?_
  refine lx_aload_n C dL_law_417 rfl rfl ?_
  refine lx_iload_n C dL_law_418 rfl rfl ?_
  refine lx_iconst C (v := 3) dL_law_419 rfl ?_
  refine lx_iaddN C (k := 3) rfl dL_law_420 ?_
  refine lx_sld C ⟨by omega, hL⟩ dL_law_421 ?_
  refine lx_callC C Dd (As := [_, _, _]) (n := 3) (c_X4_change (gC G) 0 σ (xs (i + 1)) (xs (i + 2)) (xs (i + 3)) S hwS.2.2.2.2.1 hwS.2.2.2.2.2 G.2.2.2.2.2.1 rfl) qw_298 qw_299 qw_300 qw_39 qw_301 ⟨rfl, by decide, by decide, by decide +kernel⟩ (qx_roomL (by decide) (by decide)) hc rfl rfl (Nat.le_of_ble_eq_true rfl) dL_law_422 ?_
  refine lx_aload_n C dL_law_425 rfl rfl ?_
  refine lx_aload_n C dL_law_426 rfl rfl ?_
  refine lx_iload_n C dL_law_427 rfl rfl ?_
  refine lx_iconst C (v := 1) dL_law_428 rfl ?_
  refine lx_iaddN C (k := 1) rfl dL_law_429 ?_
  refine lx_sld C ⟨by omega, hL⟩ dL_law_430 ?_
  refine lx_aload_n C dL_law_431 rfl rfl ?_
  refine lx_iload_n C dL_law_432 rfl rfl ?_
  refine lx_iconst C (v := 2) dL_law_433 rfl ?_
  refine lx_iaddN C (k := 2) rfl dL_law_434 ?_
  refine lx_sld C ⟨by omega, hL⟩ dL_law_435 ?_
  refine lx_aload_n C dL_law_436 rfl rfl ?_
  refine lx_iload_n C dL_law_437 rfl rfl ?_
  refine lx_iconst C (v := 3) dL_law_438 rfl ?_
  refine lx_iaddN C (k := 3) rfl dL_law_439 ?_
  refine lx_sld C ⟨by omega, hL⟩ dL_law_440 ?_
  refine lx_callM C Dd (As := [_, _, _]) (n := 3) (c_X5_change (gM G) 0 τ (xs (i + 1)) (xs (i + 2)) (xs (i + 3)) S mw.2.1.1 mw.2.1.2) qw_667 qw_668 qw_669 qw_44 qw_670 ⟨rfl, by decide, by decide, by decide +kernel⟩ (qx_roomL (by decide) (by decide)) hc rfl rfl (Nat.le_of_ble_eq_true rfl) dL_law_441 ?_
  refine lx_icmp_eq C (tgt := 867) dL_law_444 (by decide) (fun _ => ?_) (fun h => absurd (RS.2.2.2.2.2.2 (xs (i + 1)) (xs (i + 2)) (xs (i + 3))).1 h)
  exact kk _ _ (RS.2.2.2.2.2.2 (xs (i + 1)) (xs (i + 2)) (xs (i + 3))).2
set_option maxRecDepth 20000 in
set_option maxHeartbeats 2000000 in
theorem lw_case_layout {K : qx_K} {G : lx_G} {b L cn sn : Nat} {xs : Nat → Int32} {σ τ : qx_S} (C : lx_C K G b L xs) (Dd : lx_D K G) (hc : cn ≤ 600000 ∧ sn ≤ 7302250) (R : qx_S → qx_S → Prop) (P S n i : Nat) (hi : i + 7 ≤ L) (hL : L ≤ 3584) (RP : RelPre σ τ P S n) (RS : RelSet R σ τ P S n) (RL : RelPlan R σ τ P S n) (RN : RelNight R σ τ P S n) (RT : RelTell σ τ P S n) (RK : RelKept R σ τ) (h0 : R σ τ) (kk : ∀ σ1 τ1, R σ1 τ1 → lx_X K G cn sn σ1 τ1 867 [some (.ref b), some (.ref (fa (gC G) 0)), some (.ref (fa (gM G) 0)), some (.int (nI i))] []) : lx_X K G cn sn σ τ 449 [some (.ref b), some (.ref (fa (gC G) 0)), some (.ref (fa (gM G) 0)), some (.int (nI i))] [] := by
  obtain ⟨hwS, hwN, hb, hbk, mw, ms, mp⟩ := RP
  refine lx_aload_n C dL_law_449 rfl rfl ?_
  refine lx_aload_n C dL_law_450 rfl rfl ?_
  refine lx_iload_n C dL_law_451 rfl rfl ?_
  refine lx_iconst C (v := 1) dL_law_452 rfl ?_
  refine lx_iaddN C (k := 1) rfl dL_law_453 ?_
  refine lx_sld C ⟨by omega, hL⟩ dL_law_454 ?_
  refine lx_aload_n C dL_law_455 rfl rfl ?_
  refine lx_iload_n C dL_law_456 rfl rfl ?_
  refine lx_iconst C (v := 2) dL_law_457 rfl ?_
  refine lx_iaddN C (k := 2) rfl dL_law_458 ?_
  refine lx_sld C ⟨by omega, hL⟩ dL_law_459 ?_
  refine lx_callC C Dd (As := [_, _]) (n := 2) (c_X4_layout (gC G) 0 σ (xs (i + 1)) (xs (i + 2)) P S hwS) qw_306 qw_307 qw_308 qw_39 qw_309 ⟨rfl, by decide, by decide, by decide +kernel⟩ (qx_roomL (by decide) (by decide)) hc rfl rfl (Nat.le_of_ble_eq_true rfl) dL_law_460 ?_
  refine lx_aload_n C dL_law_463 rfl rfl ?_
  refine lx_aload_n C dL_law_464 rfl rfl ?_
  refine lx_iload_n C dL_law_465 rfl rfl ?_
  refine lx_iconst C (v := 1) dL_law_466 rfl ?_
  refine lx_iaddN C (k := 1) rfl dL_law_467 ?_
  refine lx_sld C ⟨by omega, hL⟩ dL_law_468 ?_
  refine lx_aload_n C dL_law_469 rfl rfl ?_
  refine lx_iload_n C dL_law_470 rfl rfl ?_
  refine lx_iconst C (v := 2) dL_law_471 rfl ?_
  refine lx_iaddN C (k := 2) rfl dL_law_472 ?_
  refine lx_sld C ⟨by omega, hL⟩ dL_law_473 ?_
  refine lx_callM C Dd (As := [_, _]) (n := 2) (c_X5_layout (gM G) 0 τ (xs (i + 1)) (xs (i + 2)) P S ms) qw_675 qw_676 qw_677 qw_44 qw_678 ⟨rfl, by decide, by decide, by decide +kernel⟩ (qx_roomL (by decide) (by decide)) hc rfl rfl (Nat.le_of_ble_eq_true rfl) dL_law_474 ?_
  refine lx_icmp_eq C (tgt := 867) dL_law_477 (by decide) (fun _ => ?_) (fun h => absurd (RL.1 (xs (i + 1)) (xs (i + 2))).1 h)
  exact kk _ _ (RL.1 (xs (i + 1)) (xs (i + 2))).2
set_option maxRecDepth 20000 in
set_option maxHeartbeats 2000000 in
theorem lw_case_worth {K : qx_K} {G : lx_G} {b L cn sn : Nat} {xs : Nat → Int32} {σ τ : qx_S} (C : lx_C K G b L xs) (Dd : lx_D K G) (hc : cn ≤ 600000 ∧ sn ≤ 7302250) (R : qx_S → qx_S → Prop) (P S n i : Nat) (hi : i + 7 ≤ L) (hL : L ≤ 3584) (RP : RelPre σ τ P S n) (RS : RelSet R σ τ P S n) (RL : RelPlan R σ τ P S n) (RN : RelNight R σ τ P S n) (RT : RelTell σ τ P S n) (RK : RelKept R σ τ) (h0 : R σ τ) (kk : ∀ σ1 τ1, R σ1 τ1 → lx_X K G cn sn σ1 τ1 867 [some (.ref b), some (.ref (fa (gC G) 0)), some (.ref (fa (gM G) 0)), some (.int (nI i))] []) : lx_X K G cn sn σ τ 482 [some (.ref b), some (.ref (fa (gC G) 0)), some (.ref (fa (gM G) 0)), some (.int (nI i))] [] := by
  obtain ⟨hwS, hwN, hb, hbk, mw, ms, mp⟩ := RP
  refine lx_aload_n C dL_law_482 rfl rfl ?_
  refine lx_aload_n C dL_law_483 rfl rfl ?_
  refine lx_iload_n C dL_law_484 rfl rfl ?_
  refine lx_iconst C (v := 1) dL_law_485 rfl ?_
  refine lx_iaddN C (k := 1) rfl dL_law_486 ?_
  refine lx_sld C ⟨by omega, hL⟩ dL_law_487 ?_
  refine lx_callC C Dd (As := [_]) (n := 1) (c_X4_worth (gC G) 0 σ (xs (i + 1)) P S hwS) qw_388 qw_389 qw_390 qw_39 qw_391 ⟨rfl, by decide, by decide, by decide +kernel⟩ (qx_roomL (by decide) (by decide)) hc rfl rfl (Nat.le_of_ble_eq_true rfl) dL_law_488 ?_
  refine lx_aload_n C dL_law_491 rfl rfl ?_
  refine lx_aload_n C dL_law_492 rfl rfl ?_
  refine lx_iload_n C dL_law_493 rfl rfl ?_
  refine lx_iconst C (v := 1) dL_law_494 rfl ?_
  refine lx_iaddN C (k := 1) rfl dL_law_495 ?_
  refine lx_sld C ⟨by omega, hL⟩ dL_law_496 ?_
  refine lx_callM C Dd (As := [_]) (n := 1) (c_X5_worth (gM G) 0 τ (xs (i + 1)) P S ms) qw_697 qw_698 qw_699 qw_44 qw_700 ⟨rfl, by decide, by decide, by decide +kernel⟩ (qx_roomL (by decide) (by decide)) hc rfl rfl (Nat.le_of_ble_eq_true rfl) dL_law_497 ?_
  refine lx_icmp_eq C (tgt := 867) dL_law_500 (by decide) (fun _ => ?_) (fun h => absurd (RL.2.1 (xs (i + 1))).1 h)
  exact kk _ _ (RL.2.1 (xs (i + 1))).2
set_option maxRecDepth 20000 in
set_option maxHeartbeats 2000000 in
theorem lw_case_open {K : qx_K} {G : lx_G} {b L cn sn : Nat} {xs : Nat → Int32} {σ τ : qx_S} (C : lx_C K G b L xs) (Dd : lx_D K G) (hc : cn ≤ 600000 ∧ sn ≤ 7302250) (R : qx_S → qx_S → Prop) (P S n i : Nat) (hi : i + 7 ≤ L) (hL : L ≤ 3584) (RP : RelPre σ τ P S n) (RS : RelSet R σ τ P S n) (RL : RelPlan R σ τ P S n) (RN : RelNight R σ τ P S n) (RT : RelTell σ τ P S n) (RK : RelKept R σ τ) (h0 : R σ τ) (kk : ∀ σ1 τ1, R σ1 τ1 → lx_X K G cn sn σ1 τ1 867 [some (.ref b), some (.ref (fa (gC G) 0)), some (.ref (fa (gM G) 0)), some (.int (nI i))] []) : lx_X K G cn sn σ τ 505 [some (.ref b), some (.ref (fa (gC G) 0)), some (.ref (fa (gM G) 0)), some (.int (nI i))] [] := by
  obtain ⟨hwS, hwN, hb, hbk, mw, ms, mp⟩ := RP
  refine lx_aload_n C dL_law_505 rfl rfl ?_
  refine lx_aload_n C dL_law_506 rfl rfl ?_
  refine lx_iload_n C dL_law_507 rfl rfl ?_
  refine lx_iconst C (v := 1) dL_law_508 rfl ?_
  refine lx_iaddN C (k := 1) rfl dL_law_509 ?_
  refine lx_sld C ⟨by omega, hL⟩ dL_law_510 ?_
  refine lx_callC C Dd (As := [_]) (n := 1) (c_X4_open (gC G) 0 σ (xs (i + 1)) P S hwS) qw_392 qw_393 qw_394 qw_39 qw_395 ⟨rfl, by decide, by decide, by decide +kernel⟩ (qx_roomL (by decide) (by decide)) hc rfl rfl (Nat.le_of_ble_eq_true rfl) dL_law_511 ?_
  refine lx_aload_n C dL_law_514 rfl rfl ?_
  refine lx_aload_n C dL_law_515 rfl rfl ?_
  refine lx_iload_n C dL_law_516 rfl rfl ?_
  refine lx_iconst C (v := 1) dL_law_517 rfl ?_
  refine lx_iaddN C (k := 1) rfl dL_law_518 ?_
  refine lx_sld C ⟨by omega, hL⟩ dL_law_519 ?_
  refine lx_callM C Dd (As := [_]) (n := 1) (c_X5_open (gM G) 0 τ (xs (i + 1)) P S ms) qw_701 qw_702 qw_703 qw_44 qw_704 ⟨rfl, by decide, by decide, by decide +kernel⟩ (qx_roomL (by decide) (by decide)) hc rfl rfl (Nat.le_of_ble_eq_true rfl) dL_law_520 ?_
  refine lx_icmp_eq C (tgt := 867) dL_law_523 (by decide) (fun _ => ?_) (fun h => absurd (RL.2.2 (xs (i + 1))).1 h)
  exact kk _ _ (RL.2.2 (xs (i + 1))).2
set_option maxRecDepth 20000 in
set_option maxHeartbeats 2000000 in
theorem lw_case_shut {K : qx_K} {G : lx_G} {b L cn sn : Nat} {xs : Nat → Int32} {σ τ : qx_S} (C : lx_C K G b L xs) (Dd : lx_D K G) (hc : cn ≤ 600000 ∧ sn ≤ 7302250) (R : qx_S → qx_S → Prop) (P S n i : Nat) (hi : i + 7 ≤ L) (hL : L ≤ 3584) (RP : RelPre σ τ P S n) (RS : RelSet R σ τ P S n) (RL : RelPlan R σ τ P S n) (RN : RelNight R σ τ P S n) (RT : RelTell σ τ P S n) (RK : RelKept R σ τ) (h0 : R σ τ) (kk : ∀ σ1 τ1, R σ1 τ1 → lx_X K G cn sn σ1 τ1 867 [some (.ref b), some (.ref (fa (gC G) 0)), some (.ref (fa (gM G) 0)), some (.int (nI i))] []) : lx_X K G cn sn σ τ 528 [some (.ref b), some (.ref (fa (gC G) 0)), some (.ref (fa (gM G) 0)), some (.int (nI i))] [] := by
  obtain ⟨hwS, hwN, hb, hbk, mw, ms, mp⟩ := RP
  refine lx_aload_n C dL_law_528 rfl rfl ?_
  refine lx_callC C Dd (As := []) (n := 0) (c_X4_shut (gC G) 0 σ) qw_405 qw_406 qw_407 qw_39 qw_408 ⟨rfl, by decide, by decide, by decide +kernel⟩ (qx_roomL (by decide) (by decide)) hc rfl rfl (Nat.le_of_ble_eq_true rfl) dL_law_529 ?_
  refine lx_aload_n C dL_law_532 rfl rfl ?_
  refine lx_callM C Dd (As := []) (n := 0) (c_X5_shut (gM G) 0 τ) qw_713 qw_714 qw_715 qw_44 qw_716 ⟨rfl, by decide, by decide, by decide +kernel⟩ (qx_roomL (by decide) (by decide)) hc rfl rfl (Nat.le_of_ble_eq_true rfl) dL_law_533 ?_
  refine lx_icmp_eq C (tgt := 867) dL_law_536 (by decide) (fun _ => ?_) (fun h => absurd (RN.1).1 h)
  exact kk _ _ (RN.1).2
set_option maxRecDepth 20000 in
set_option maxHeartbeats 2000000 in
theorem lw_case_guest {K : qx_K} {G : lx_G} {b L cn sn : Nat} {xs : Nat → Int32} {σ τ : qx_S} (C : lx_C K G b L xs) (Dd : lx_D K G) (hc : cn ≤ 600000 ∧ sn ≤ 7302250) (R : qx_S → qx_S → Prop) (P S n i : Nat) (hi : i + 7 ≤ L) (hL : L ≤ 3584) (RP : RelPre σ τ P S n) (RS : RelSet R σ τ P S n) (RL : RelPlan R σ τ P S n) (RN : RelNight R σ τ P S n) (RT : RelTell σ τ P S n) (RK : RelKept R σ τ) (h0 : R σ τ) (kk : ∀ σ1 τ1, R σ1 τ1 → lx_X K G cn sn σ1 τ1 867 [some (.ref b), some (.ref (fa (gC G) 0)), some (.ref (fa (gM G) 0)), some (.int (nI i))] []) : lx_X K G cn sn σ τ 541 [some (.ref b), some (.ref (fa (gC G) 0)), some (.ref (fa (gM G) 0)), some (.int (nI i))] [] := by
  obtain ⟨hwS, hwN, hb, hbk, mw, ms, mp⟩ := RP
  refine lx_aload_n C dL_law_541 rfl rfl ?_
  refine lx_aload_n C dL_law_542 rfl rfl ?_
  refine lx_iload_n C dL_law_543 rfl rfl ?_
  refine lx_iconst C (v := 1) dL_law_544 rfl ?_
  refine lx_iaddN C (k := 1) rfl dL_law_545 ?_
  refine lx_sld C ⟨by omega, hL⟩ dL_law_546 ?_
  refine lx_aload_n C dL_law_547 rfl rfl ?_
  refine lx_iload_n C dL_law_548 rfl rfl ?_
  refine lx_iconst C (v := 2) dL_law_549 rfl ?_
  refine lx_iaddN C (k := 2) rfl dL_law_550 ?_
  refine lx_sld C ⟨by omega, hL⟩ dL_law_551 ?_
  refine lx_callC C Dd (As := [_, _]) (n := 2) (c_X4_guest (gC G) 0 σ (xs (i + 1)) (xs (i + 2)) n hwN.2.2.1 hwN.2.2.2) qw_409 qw_410 qw_411 qw_39 qw_412 ⟨rfl, by decide, by decide, by decide +kernel⟩ (qx_roomL (by decide) (by decide)) hc rfl rfl (Nat.le_of_ble_eq_true rfl) dL_law_552 ?_
  refine lx_aload_n C dL_law_555 rfl rfl ?_
  refine lx_aload_n C dL_law_556 rfl rfl ?_
  refine lx_iload_n C dL_law_557 rfl rfl ?_
  refine lx_iconst C (v := 1) dL_law_558 rfl ?_
  refine lx_iaddN C (k := 1) rfl dL_law_559 ?_
  refine lx_sld C ⟨by omega, hL⟩ dL_law_560 ?_
  refine lx_aload_n C dL_law_561 rfl rfl ?_
  refine lx_iload_n C dL_law_562 rfl rfl ?_
  refine lx_iconst C (v := 2) dL_law_563 rfl ?_
  refine lx_iaddN C (k := 2) rfl dL_law_564 ?_
  refine lx_sld C ⟨by omega, hL⟩ dL_law_565 ?_
  refine lx_callM C Dd (As := [_, _]) (n := 2) (c_X5_guest (gM G) 0 τ (xs (i + 1)) (xs (i + 2)) n mw.2.2.1.1 mw.2.2.1.2) qw_717 qw_718 qw_719 qw_44 qw_720 ⟨rfl, by decide, by decide, by decide +kernel⟩ (qx_roomL (by decide) (by decide)) hc rfl rfl (Nat.le_of_ble_eq_true rfl) dL_law_566 ?_
  refine lx_icmp_eq C (tgt := 867) dL_law_569 (by decide) (fun _ => ?_) (fun h => absurd (RN.2.1 (xs (i + 1)) (xs (i + 2))).1 h)
  exact kk _ _ (RN.2.1 (xs (i + 1)) (xs (i + 2))).2
set_option maxRecDepth 20000 in
set_option maxHeartbeats 2000000 in
theorem lw_case_go {K : qx_K} {G : lx_G} {b L cn sn : Nat} {xs : Nat → Int32} {σ τ : qx_S} (C : lx_C K G b L xs) (Dd : lx_D K G) (hc : cn ≤ 600000 ∧ sn ≤ 7302250) (R : qx_S → qx_S → Prop) (P S n i : Nat) (hi : i + 7 ≤ L) (hL : L ≤ 3584) (RP : RelPre σ τ P S n) (RS : RelSet R σ τ P S n) (RL : RelPlan R σ τ P S n) (RN : RelNight R σ τ P S n) (RT : RelTell σ τ P S n) (RK : RelKept R σ τ) (h0 : R σ τ) (kk : ∀ σ1 τ1, R σ1 τ1 → lx_X K G cn sn σ1 τ1 867 [some (.ref b), some (.ref (fa (gC G) 0)), some (.ref (fa (gM G) 0)), some (.int (nI i))] []) : lx_X K G cn sn σ τ 574 [some (.ref b), some (.ref (fa (gC G) 0)), some (.ref (fa (gM G) 0)), some (.int (nI i))] [] := by
  obtain ⟨hwS, hwN, hb, hbk, mw, ms, mp⟩ := RP
  refine lx_aload_n C dL_law_574 rfl rfl ?_
  refine lx_aload_n C dL_law_575 rfl rfl ?_
  refine lx_iload_n C dL_law_576 rfl rfl ?_
  refine lx_iconst C (v := 1) dL_law_577 rfl ?_
  refine lx_iaddN C (k := 1) rfl dL_law_578 ?_
  refine lx_sld C ⟨by omega, hL⟩ dL_law_579 ?_
  refine lx_callC C Dd (As := [_]) (n := 1) (c_X4_go (gC G) 0 σ (xs (i + 1)) n hwN) qw_417 qw_418 qw_419 qw_39 qw_420 ⟨rfl, by decide, by decide, by decide +kernel⟩ (qx_roomL (by decide) (by decide)) hc rfl rfl (Nat.le_of_ble_eq_true rfl) dL_law_580 ?_
  refine lx_aload_n C dL_law_583 rfl rfl ?_
  refine lx_aload_n C dL_law_584 rfl rfl ?_
  refine lx_iload_n C dL_law_585 rfl rfl ?_
  refine lx_iconst C (v := 1) dL_law_586 rfl ?_
  refine lx_iaddN C (k := 1) rfl dL_law_587 ?_
  refine lx_sld C ⟨by omega, hL⟩ dL_law_588 ?_
  refine lx_callM C Dd (As := [_]) (n := 1) (c_X5_go (gM G) 0 τ (xs (i + 1)) P S n mw (fun j _ => mp j)) qw_721 qw_722 qw_723 qw_44 qw_724 ⟨rfl, by decide, by decide, by decide +kernel⟩ (qx_roomL (by decide) (by decide)) hc rfl rfl (Nat.le_of_ble_eq_true rfl) dL_law_589 ?_
  refine lx_icmp_eq C (tgt := 867) dL_law_592 (by decide) (fun _ => ?_) (fun h => absurd (RN.2.2.1 (xs (i + 1))).1 h)
  exact kk _ _ (RN.2.2.1 (xs (i + 1))).2
set_option maxRecDepth 20000 in
set_option maxHeartbeats 2000000 in
theorem lw_case_plug {K : qx_K} {G : lx_G} {b L cn sn : Nat} {xs : Nat → Int32} {σ τ : qx_S} (C : lx_C K G b L xs) (Dd : lx_D K G) (hc : cn ≤ 600000 ∧ sn ≤ 7302250) (R : qx_S → qx_S → Prop) (P S n i : Nat) (hi : i + 7 ≤ L) (hL : L ≤ 3584) (RP : RelPre σ τ P S n) (RS : RelSet R σ τ P S n) (RL : RelPlan R σ τ P S n) (RN : RelNight R σ τ P S n) (RT : RelTell σ τ P S n) (RK : RelKept R σ τ) (h0 : R σ τ) (kk : ∀ σ1 τ1, R σ1 τ1 → lx_X K G cn sn σ1 τ1 867 [some (.ref b), some (.ref (fa (gC G) 0)), some (.ref (fa (gM G) 0)), some (.int (nI i))] []) : lx_X K G cn sn σ τ 597 [some (.ref b), some (.ref (fa (gC G) 0)), some (.ref (fa (gM G) 0)), some (.int (nI i))] [] := by
  obtain ⟨hwS, hwN, hb, hbk, mw, ms, mp⟩ := RP
  refine lx_aload_n C dL_law_597 rfl rfl ?_
  refine lx_aload_n C dL_law_598 rfl rfl ?_
  refine lx_iload_n C dL_law_599 rfl rfl ?_
  refine lx_iconst C (v := 1) dL_law_600 rfl ?_
  refine lx_iaddN C (k := 1) rfl dL_law_601 ?_
  refine lx_sld C ⟨by omega, hL⟩ dL_law_602 ?_
  refine lx_aload_n C dL_law_603 rfl rfl ?_
  refine lx_iload_n C dL_law_604 rfl rfl ?_
  refine lx_iconst C (v := 2) dL_law_605 rfl ?_
  refine lx_iaddN C (k := 2) rfl dL_law_606 ?_
  refine lx_sld C ⟨by omega, hL⟩ dL_law_607 ?_
  refine lx_callC C Dd (As := [_, _]) (n := 2) (c_X4_plug (gC G) 0 σ (xs (i + 1)) (xs (i + 2)) n hwN) qw_475 qw_476 qw_477 qw_39 qw_478 ⟨rfl, by decide, by decide, by decide +kernel⟩ (qx_roomL (by decide) (by decide)) hc rfl rfl (Nat.le_of_ble_eq_true rfl) dL_law_608 ?_
  refine lx_aload_n C dL_law_611 rfl rfl ?_
  refine lx_aload_n C dL_law_612 rfl rfl ?_
  refine lx_iload_n C dL_law_613 rfl rfl ?_
  refine lx_iconst C (v := 1) dL_law_614 rfl ?_
  refine lx_iaddN C (k := 1) rfl dL_law_615 ?_
  refine lx_sld C ⟨by omega, hL⟩ dL_law_616 ?_
  refine lx_aload_n C dL_law_617 rfl rfl ?_
  refine lx_iload_n C dL_law_618 rfl rfl ?_
  refine lx_iconst C (v := 2) dL_law_619 rfl ?_
  refine lx_iaddN C (k := 2) rfl dL_law_620 ?_
  refine lx_sld C ⟨by omega, hL⟩ dL_law_621 ?_
  refine lx_callM C Dd (As := [_, _]) (n := 2) (c_X5_plug (gM G) 0 τ (xs (i + 1)) (xs (i + 2)) P S n mw) qw_753 qw_754 qw_755 qw_44 qw_756 ⟨rfl, by decide, by decide, by decide +kernel⟩ (qx_roomL (by decide) (by decide)) hc rfl rfl (Nat.le_of_ble_eq_true rfl) dL_law_622 ?_
  refine lx_icmp_eq C (tgt := 867) dL_law_625 (by decide) (fun _ => ?_) (fun h => absurd (RN.2.2.2.1 (xs (i + 1)) (xs (i + 2))).1 h)
  exact kk _ _ (RN.2.2.2.1 (xs (i + 1)) (xs (i + 2))).2
set_option maxRecDepth 20000 in
set_option maxHeartbeats 2000000 in
theorem lw_case_reset {K : qx_K} {G : lx_G} {b L cn sn : Nat} {xs : Nat → Int32} {σ τ : qx_S} (C : lx_C K G b L xs) (Dd : lx_D K G) (hc : cn ≤ 600000 ∧ sn ≤ 7302250) (R : qx_S → qx_S → Prop) (P S n i : Nat) (hi : i + 7 ≤ L) (hL : L ≤ 3584) (RP : RelPre σ τ P S n) (RS : RelSet R σ τ P S n) (RL : RelPlan R σ τ P S n) (RN : RelNight R σ τ P S n) (RT : RelTell σ τ P S n) (RK : RelKept R σ τ) (h0 : R σ τ) (kk : ∀ σ1 τ1, R σ1 τ1 → lx_X K G cn sn σ1 τ1 867 [some (.ref b), some (.ref (fa (gC G) 0)), some (.ref (fa (gM G) 0)), some (.int (nI i))] []) : lx_X K G cn sn σ τ 630 [some (.ref b), some (.ref (fa (gC G) 0)), some (.ref (fa (gM G) 0)), some (.int (nI i))] [] := by
  obtain ⟨hwS, hwN, hb, hbk, mw, ms, mp⟩ := RP
  refine lx_aload_n C dL_law_630 rfl rfl ?_
  refine lx_aload_n C dL_law_631 rfl rfl ?_
  refine lx_iload_n C dL_law_632 rfl rfl ?_
  refine lx_iconst C (v := 1) dL_law_633 rfl ?_
  refine lx_iaddN C (k := 1) rfl dL_law_634 ?_
  refine lx_sld C ⟨by omega, hL⟩ dL_law_635 ?_
  refine lx_callC C Dd (As := [_]) (n := 1) (c_X4_reset (gC G) 0 σ (xs (i + 1)) n hwN) qw_488 qw_489 qw_490 qw_39 qw_491 ⟨rfl, by decide, by decide, by decide +kernel⟩ (qx_roomL (by decide) (by decide)) hc rfl rfl (Nat.le_of_ble_eq_true rfl) dL_law_636 ?_
  refine lx_aload_n C dL_law_639 rfl rfl ?_
  refine lx_aload_n C dL_law_640 rfl rfl ?_
  refine lx_iload_n C dL_law_641 rfl rfl ?_
  refine lx_iconst C (v := 1) dL_law_642 rfl ?_
  refine lx_iaddN C (k := 1) rfl dL_law_643 ?_
  refine lx_sld C ⟨by omega, hL⟩ dL_law_644 ?_
  refine lx_callM C Dd (As := [_]) (n := 1) (c_X5_reset (gM G) 0 τ (xs (i + 1)) P S n mw) qw_765 qw_766 qw_767 qw_44 qw_768 ⟨rfl, by decide, by decide, by decide +kernel⟩ (qx_roomL (by decide) (by decide)) hc rfl rfl (Nat.le_of_ble_eq_true rfl) dL_law_645 ?_
  refine lx_icmp_eq C (tgt := 867) dL_law_648 (by decide) (fun _ => ?_) (fun h => absurd (RN.2.2.2.2.1 (xs (i + 1))).1 h)
  exact kk _ _ (RN.2.2.2.2.1 (xs (i + 1))).2
set_option maxRecDepth 20000 in
set_option maxHeartbeats 2000000 in
theorem lw_case_pull {K : qx_K} {G : lx_G} {b L cn sn : Nat} {xs : Nat → Int32} {σ τ : qx_S} (C : lx_C K G b L xs) (Dd : lx_D K G) (hc : cn ≤ 600000 ∧ sn ≤ 7302250) (R : qx_S → qx_S → Prop) (P S n i : Nat) (hi : i + 7 ≤ L) (hL : L ≤ 3584) (RP : RelPre σ τ P S n) (RS : RelSet R σ τ P S n) (RL : RelPlan R σ τ P S n) (RN : RelNight R σ τ P S n) (RT : RelTell σ τ P S n) (RK : RelKept R σ τ) (h0 : R σ τ) (kk : ∀ σ1 τ1, R σ1 τ1 → lx_X K G cn sn σ1 τ1 867 [some (.ref b), some (.ref (fa (gC G) 0)), some (.ref (fa (gM G) 0)), some (.int (nI i))] []) : lx_X K G cn sn σ τ 653 [some (.ref b), some (.ref (fa (gC G) 0)), some (.ref (fa (gM G) 0)), some (.int (nI i))] [] := by
  obtain ⟨hwS, hwN, hb, hbk, mw, ms, mp⟩ := RP
  refine lx_aload_n C dL_law_653 rfl rfl ?_
  refine lx_aload_n C dL_law_654 rfl rfl ?_
  refine lx_iload_n C dL_law_655 rfl rfl ?_
  refine lx_iconst C (v := 1) dL_law_656 rfl ?_
  refine lx_iaddN C (k := 1) rfl dL_law_657 ?_
  refine lx_sld C ⟨by omega, hL⟩ dL_law_658 ?_
  refine lx_callC C Dd (As := [_]) (n := 1) (c_X4_pull (gC G) 0 σ (xs (i + 1))) qw_492 qw_493 qw_494 qw_39 qw_495 ⟨rfl, by decide, by decide, by decide +kernel⟩ (qx_roomL (by decide) (by decide)) hc rfl rfl (Nat.le_of_ble_eq_true rfl) dL_law_659 ?_
  refine lx_aload_n C dL_law_662 rfl rfl ?_
  refine lx_aload_n C dL_law_663 rfl rfl ?_
  refine lx_iload_n C dL_law_664 rfl rfl ?_
  refine lx_iconst C (v := 1) dL_law_665 rfl ?_
  refine lx_iaddN C (k := 1) rfl dL_law_666 ?_
  refine lx_sld C ⟨by omega, hL⟩ dL_law_667 ?_
  refine lx_callM C Dd (As := [_]) (n := 1) (c_X5_pull (gM G) 0 τ (xs (i + 1))) qw_769 qw_770 qw_771 qw_44 qw_772 ⟨rfl, by decide, by decide, by decide +kernel⟩ (qx_roomL (by decide) (by decide)) hc rfl rfl (Nat.le_of_ble_eq_true rfl) dL_law_668 ?_
  refine lx_icmp_eq C (tgt := 867) dL_law_671 (by decide) (fun _ => ?_) (fun h => absurd (RN.2.2.2.2.2 (xs (i + 1))).1 h)
  exact kk _ _ (RN.2.2.2.2.2 (xs (i + 1))).2
set_option maxRecDepth 20000 in
set_option maxHeartbeats 2000000 in
theorem lw_case_of {K : qx_K} {G : lx_G} {b L cn sn : Nat} {xs : Nat → Int32} {σ τ : qx_S} (C : lx_C K G b L xs) (Dd : lx_D K G) (hc : cn ≤ 600000 ∧ sn ≤ 7302250) (R : qx_S → qx_S → Prop) (P S n i : Nat) (hi : i + 7 ≤ L) (hL : L ≤ 3584) (RP : RelPre σ τ P S n) (RS : RelSet R σ τ P S n) (RL : RelPlan R σ τ P S n) (RN : RelNight R σ τ P S n) (RT : RelTell σ τ P S n) (RK : RelKept R σ τ) (h0 : R σ τ) (kk : ∀ σ1 τ1, R σ1 τ1 → lx_X K G cn sn σ1 τ1 867 [some (.ref b), some (.ref (fa (gC G) 0)), some (.ref (fa (gM G) 0)), some (.int (nI i))] []) : lx_X K G cn sn σ τ 676 [some (.ref b), some (.ref (fa (gC G) 0)), some (.ref (fa (gM G) 0)), some (.int (nI i))] [] := by
  obtain ⟨hwS, hwN, hb, hbk, mw, ms, mp⟩ := RP
  refine lx_aload_n C dL_law_676 rfl rfl ?_
  refine lx_aload_n C dL_law_677 rfl rfl ?_
  refine lx_iload_n C dL_law_678 rfl rfl ?_
  refine lx_iconst C (v := 1) dL_law_679 rfl ?_
  refine lx_iaddN C (k := 1) rfl dL_law_680 ?_
  refine lx_sld C ⟨by omega, hL⟩ dL_law_681 ?_
  refine lx_aload_n C dL_law_682 rfl rfl ?_
  refine lx_iload_n C dL_law_683 rfl rfl ?_
  refine lx_iconst C (v := 2) dL_law_684 rfl ?_
  refine lx_iaddN C (k := 2) rfl dL_law_685 ?_
  refine lx_sld C ⟨by omega, hL⟩ dL_law_686 ?_
  refine lx_callC C Dd (As := [_, _]) (n := 2) (c_X4_of (gC G) 0 σ (xs (i + 1)) (xs (i + 2)) S hwS.2.2.2.2.1 hwS.2.2.2.2.2 n hwN) qw_496 qw_497 qw_498 qw_39 qw_499 ⟨rfl, by decide, by decide, by decide +kernel⟩ (qx_roomL (by decide) (by decide)) hc rfl rfl (Nat.le_of_ble_eq_true rfl) dL_law_687 ?_
  refine lx_aload_n C dL_law_690 rfl rfl ?_
  refine lx_aload_n C dL_law_691 rfl rfl ?_
  refine lx_iload_n C dL_law_692 rfl rfl ?_
  refine lx_iconst C (v := 1) dL_law_693 rfl ?_
  refine lx_iaddN C (k := 1) rfl dL_law_694 ?_
  refine lx_sld C ⟨by omega, hL⟩ dL_law_695 ?_
  refine lx_aload_n C dL_law_696 rfl rfl ?_
  refine lx_iload_n C dL_law_697 rfl rfl ?_
  refine lx_iconst C (v := 2) dL_law_698 rfl ?_
  refine lx_iaddN C (k := 2) rfl dL_law_699 ?_
  refine lx_sld C ⟨by omega, hL⟩ dL_law_700 ?_
  refine lx_callM C Dd (As := [_, _]) (n := 2) (c_X5_of (gM G) 0 τ (xs (i + 1)) (xs (i + 2)) P S n mw) qw_773 qw_774 qw_775 qw_44 qw_776 ⟨rfl, by decide, by decide, by decide +kernel⟩ (qx_roomL (by decide) (by decide)) hc rfl rfl (Nat.le_of_ble_eq_true rfl) dL_law_701 ?_
  refine lx_icmp_eq C (tgt := 867) dL_law_704 (by decide) (fun _ => ?_) (fun h => absurd (RT.1 (xs (i + 1)) (xs (i + 2))) h)
  exact kk _ _ h0
set_option maxRecDepth 20000 in
set_option maxHeartbeats 2000000 in
theorem lw_case_guestOf {K : qx_K} {G : lx_G} {b L cn sn : Nat} {xs : Nat → Int32} {σ τ : qx_S} (C : lx_C K G b L xs) (Dd : lx_D K G) (hc : cn ≤ 600000 ∧ sn ≤ 7302250) (R : qx_S → qx_S → Prop) (P S n i : Nat) (hi : i + 7 ≤ L) (hL : L ≤ 3584) (RP : RelPre σ τ P S n) (RS : RelSet R σ τ P S n) (RL : RelPlan R σ τ P S n) (RN : RelNight R σ τ P S n) (RT : RelTell σ τ P S n) (RK : RelKept R σ τ) (h0 : R σ τ) (kk : ∀ σ1 τ1, R σ1 τ1 → lx_X K G cn sn σ1 τ1 867 [some (.ref b), some (.ref (fa (gC G) 0)), some (.ref (fa (gM G) 0)), some (.int (nI i))] []) : lx_X K G cn sn σ τ 709 [some (.ref b), some (.ref (fa (gC G) 0)), some (.ref (fa (gM G) 0)), some (.int (nI i))] [] := by
  obtain ⟨hwS, hwN, hb, hbk, mw, ms, mp⟩ := RP
  refine lx_aload_n C dL_law_709 rfl rfl ?_
  refine lx_aload_n C dL_law_710 rfl rfl ?_
  refine lx_iload_n C dL_law_711 rfl rfl ?_
  refine lx_iconst C (v := 1) dL_law_712 rfl ?_
  refine lx_iaddN C (k := 1) rfl dL_law_713 ?_
  refine lx_sld C ⟨by omega, hL⟩ dL_law_714 ?_
  refine lx_aload_n C dL_law_715 rfl rfl ?_
  refine lx_iload_n C dL_law_716 rfl rfl ?_
  refine lx_iconst C (v := 2) dL_law_717 rfl ?_
  refine lx_iaddN C (k := 2) rfl dL_law_718 ?_
  refine lx_sld C ⟨by omega, hL⟩ dL_law_719 ?_
  refine lx_callC C Dd (As := [_, _]) (n := 2) (c_X4_guestOf (gC G) 0 σ (xs (i + 1)) (xs (i + 2)) n hwN.2.2.1 hwN.2.2.2) qw_511 qw_512 qw_513 qw_39 qw_514 ⟨rfl, by decide, by decide, by decide +kernel⟩ (qx_roomL (by decide) (by decide)) hc rfl rfl (Nat.le_of_ble_eq_true rfl) dL_law_720 ?_
  refine lx_aload_n C dL_law_723 rfl rfl ?_
  refine lx_aload_n C dL_law_724 rfl rfl ?_
  refine lx_iload_n C dL_law_725 rfl rfl ?_
  refine lx_iconst C (v := 1) dL_law_726 rfl ?_
  refine lx_iaddN C (k := 1) rfl dL_law_727 ?_
  refine lx_sld C ⟨by omega, hL⟩ dL_law_728 ?_
  refine lx_aload_n C dL_law_729 rfl rfl ?_
  refine lx_iload_n C dL_law_730 rfl rfl ?_
  refine lx_iconst C (v := 2) dL_law_731 rfl ?_
  refine lx_iaddN C (k := 2) rfl dL_law_732 ?_
  refine lx_sld C ⟨by omega, hL⟩ dL_law_733 ?_
  refine lx_callM C Dd (As := [_, _]) (n := 2) (c_X5_guestOf (gM G) 0 τ (xs (i + 1)) (xs (i + 2)) n mw.2.2.1.1 mw.2.2.1.2) qw_781 qw_782 qw_783 qw_44 qw_784 ⟨rfl, by decide, by decide, by decide +kernel⟩ (qx_roomL (by decide) (by decide)) hc rfl rfl (Nat.le_of_ble_eq_true rfl) dL_law_734 ?_
  refine lx_icmp_eq C (tgt := 867) dL_law_737 (by decide) (fun _ => ?_) (fun h => absurd (RT.2.1 (xs (i + 1)) (xs (i + 2))) h)
  exact kk _ _ h0
set_option maxRecDepth 20000 in
set_option maxHeartbeats 2000000 in
theorem lw_case_suspects {K : qx_K} {G : lx_G} {b L cn sn : Nat} {xs : Nat → Int32} {σ τ : qx_S} (C : lx_C K G b L xs) (Dd : lx_D K G) (hc : cn ≤ 600000 ∧ sn ≤ 7302250) (R : qx_S → qx_S → Prop) (P S n i : Nat) (hi : i + 7 ≤ L) (hL : L ≤ 3584) (RP : RelPre σ τ P S n) (RS : RelSet R σ τ P S n) (RL : RelPlan R σ τ P S n) (RN : RelNight R σ τ P S n) (RT : RelTell σ τ P S n) (RK : RelKept R σ τ) (h0 : R σ τ) (kk : ∀ σ1 τ1, R σ1 τ1 → lx_X K G cn sn σ1 τ1 867 [some (.ref b), some (.ref (fa (gC G) 0)), some (.ref (fa (gM G) 0)), some (.int (nI i))] []) : lx_X K G cn sn σ τ 742 [some (.ref b), some (.ref (fa (gC G) 0)), some (.ref (fa (gM G) 0)), some (.int (nI i))] [] := by
  obtain ⟨hwS, hwN, hb, hbk, mw, ms, mp⟩ := RP
  refine lx_aload_n C dL_law_742 rfl rfl ?_
  refine lx_aload_n C dL_law_743 rfl rfl ?_
  refine lx_iload_n C dL_law_744 rfl rfl ?_
  refine lx_iconst C (v := 1) dL_law_745 rfl ?_
  refine lx_iaddN C (k := 1) rfl dL_law_746 ?_
  refine lx_sld C ⟨by omega, hL⟩ dL_law_747 ?_
  refine lx_aload_n C dL_law_748 rfl rfl ?_
  refine lx_iload_n C dL_law_749 rfl rfl ?_
  refine lx_iconst C (v := 2) dL_law_750 rfl ?_
  refine lx_iaddN C (k := 2) rfl dL_law_751 ?_
  refine lx_sld C ⟨by omega, hL⟩ dL_law_752 ?_
  refine lx_aload_n C dL_law_753 rfl rfl ?_
  refine lx_iload_n C dL_law_754 rfl rfl ?_
  refine lx_iconst C (v := 3) dL_law_755 rfl ?_
  refine lx_iaddN C (k := 3) rfl dL_law_756 ?_
  refine lx_sld C ⟨by omega, hL⟩ dL_law_757 ?_
  refine lx_callC C Dd (As := [_, _, _]) (n := 3) (c_X4_suspects (gC G) 0 σ (xs (i + 1)) (xs (i + 2)) (xs (i + 3)) n hwN.2.2.1 hwN.2.2.2) qw_519 qw_520 qw_521 qw_39 qw_522 ⟨rfl, by decide, by decide, by decide +kernel⟩ (qx_roomL (by decide) (by decide)) hc rfl rfl (Nat.le_of_ble_eq_true rfl) dL_law_758 ?_
  refine lx_aload_n C dL_law_761 rfl rfl ?_
  refine lx_aload_n C dL_law_762 rfl rfl ?_
  refine lx_iload_n C dL_law_763 rfl rfl ?_
  refine lx_iconst C (v := 1) dL_law_764 rfl ?_
  refine lx_iaddN C (k := 1) rfl dL_law_765 ?_
  refine lx_sld C ⟨by omega, hL⟩ dL_law_766 ?_
  refine lx_aload_n C dL_law_767 rfl rfl ?_
  refine lx_iload_n C dL_law_768 rfl rfl ?_
  refine lx_iconst C (v := 2) dL_law_769 rfl ?_
  refine lx_iaddN C (k := 2) rfl dL_law_770 ?_
  refine lx_sld C ⟨by omega, hL⟩ dL_law_771 ?_
  refine lx_aload_n C dL_law_772 rfl rfl ?_
  refine lx_iload_n C dL_law_773 rfl rfl ?_
  refine lx_iconst C (v := 3) dL_law_774 rfl ?_
  refine lx_iaddN C (k := 3) rfl dL_law_775 ?_
  refine lx_sld C ⟨by omega, hL⟩ dL_law_776 ?_
  refine lx_callM C Dd (As := [_, _, _]) (n := 3) (c_X5_suspects (gM G) 0 τ (xs (i + 1)) (xs (i + 2)) (xs (i + 3)) n mw.2.2.1.1 mw.2.2.1.2) qw_785 qw_786 qw_787 qw_44 qw_788 ⟨rfl, by decide, by decide, by decide +kernel⟩ (qx_roomL (by decide) (by decide)) hc rfl rfl (Nat.le_of_ble_eq_true rfl) dL_law_777 ?_
  refine lx_icmp_eq C (tgt := 867) dL_law_780 (by decide) (fun _ => ?_) (fun h => absurd (RT.2.2.1 (xs (i + 1)) (xs (i + 2)) (xs (i + 3))) h)
  exact kk _ _ h0
set_option maxRecDepth 20000 in
set_option maxHeartbeats 2000000 in
theorem lw_case_lineOf {K : qx_K} {G : lx_G} {b L cn sn : Nat} {xs : Nat → Int32} {σ τ : qx_S} (C : lx_C K G b L xs) (Dd : lx_D K G) (hc : cn ≤ 600000 ∧ sn ≤ 7302250) (R : qx_S → qx_S → Prop) (P S n i : Nat) (hi : i + 7 ≤ L) (hL : L ≤ 3584) (RP : RelPre σ τ P S n) (RS : RelSet R σ τ P S n) (RL : RelPlan R σ τ P S n) (RN : RelNight R σ τ P S n) (RT : RelTell σ τ P S n) (RK : RelKept R σ τ) (h0 : R σ τ) (kk : ∀ σ1 τ1, R σ1 τ1 → lx_X K G cn sn σ1 τ1 867 [some (.ref b), some (.ref (fa (gC G) 0)), some (.ref (fa (gM G) 0)), some (.int (nI i))] []) : lx_X K G cn sn σ τ 785 [some (.ref b), some (.ref (fa (gC G) 0)), some (.ref (fa (gM G) 0)), some (.int (nI i))] [] := by
  obtain ⟨hwS, hwN, hb, hbk, mw, ms, mp⟩ := RP
  refine lx_aload_n C dL_law_785 rfl rfl ?_
  refine lx_aload_n C dL_law_786 rfl rfl ?_
  refine lx_iload_n C dL_law_787 rfl rfl ?_
  refine lx_iconst C (v := 1) dL_law_788 rfl ?_
  refine lx_iaddN C (k := 1) rfl dL_law_789 ?_
  refine lx_sld C ⟨by omega, hL⟩ dL_law_790 ?_
  refine lx_aload_n C dL_law_791 rfl rfl ?_
  refine lx_iload_n C dL_law_792 rfl rfl ?_
  refine lx_iconst C (v := 2) dL_law_793 rfl ?_
  refine lx_iaddN C (k := 2) rfl dL_law_794 ?_
  refine lx_sld C ⟨by omega, hL⟩ dL_law_795 ?_
  refine lx_callC C Dd (As := [_, _]) (n := 2) (c_X4_lineOf (gC G) 0 σ (xs (i + 1)) (xs (i + 2)) n hwN) qw_527 qw_528 qw_529 qw_39 qw_530 ⟨rfl, by decide, by decide, by decide +kernel⟩ (qx_roomL (by decide) (by decide)) hc rfl rfl (Nat.le_of_ble_eq_true rfl) dL_law_796 ?_
  refine lx_aload_n C dL_law_799 rfl rfl ?_
  refine lx_aload_n C dL_law_800 rfl rfl ?_
  refine lx_iload_n C dL_law_801 rfl rfl ?_
  refine lx_iconst C (v := 1) dL_law_802 rfl ?_
  refine lx_iaddN C (k := 1) rfl dL_law_803 ?_
  refine lx_sld C ⟨by omega, hL⟩ dL_law_804 ?_
  refine lx_aload_n C dL_law_805 rfl rfl ?_
  refine lx_iload_n C dL_law_806 rfl rfl ?_
  refine lx_iconst C (v := 2) dL_law_807 rfl ?_
  refine lx_iaddN C (k := 2) rfl dL_law_808 ?_
  refine lx_sld C ⟨by omega, hL⟩ dL_law_809 ?_
  refine lx_callM C Dd (As := [_, _]) (n := 2) (c_X5_lineOf (gM G) 0 τ (xs (i + 1)) (xs (i + 2)) P S n mw) qw_789 qw_790 qw_791 qw_44 qw_792 ⟨rfl, by decide, by decide, by decide +kernel⟩ (qx_roomL (by decide) (by decide)) hc rfl rfl (Nat.le_of_ble_eq_true rfl) dL_law_810 ?_
  refine lx_icmp_eq C (tgt := 867) dL_law_813 (by decide) (fun _ => ?_) (fun h => absurd (RT.2.2.2.1 (xs (i + 1)) (xs (i + 2))) h)
  exact kk _ _ h0
set_option maxRecDepth 20000 in
set_option maxHeartbeats 2000000 in
theorem lw_case_many {K : qx_K} {G : lx_G} {b L cn sn : Nat} {xs : Nat → Int32} {σ τ : qx_S} (C : lx_C K G b L xs) (Dd : lx_D K G) (hc : cn ≤ 600000 ∧ sn ≤ 7302250) (R : qx_S → qx_S → Prop) (P S n i : Nat) (hi : i + 7 ≤ L) (hL : L ≤ 3584) (RP : RelPre σ τ P S n) (RS : RelSet R σ τ P S n) (RL : RelPlan R σ τ P S n) (RN : RelNight R σ τ P S n) (RT : RelTell σ τ P S n) (RK : RelKept R σ τ) (h0 : R σ τ) (kk : ∀ σ1 τ1, R σ1 τ1 → lx_X K G cn sn σ1 τ1 867 [some (.ref b), some (.ref (fa (gC G) 0)), some (.ref (fa (gM G) 0)), some (.int (nI i))] []) : lx_X K G cn sn σ τ 818 [some (.ref b), some (.ref (fa (gC G) 0)), some (.ref (fa (gM G) 0)), some (.int (nI i))] [] := by
  obtain ⟨hwS, hwN, hb, hbk, mw, ms, mp⟩ := RP
  refine lx_aload_n C dL_law_818 rfl rfl ?_
  refine lx_aload_n C dL_law_819 rfl rfl ?_
  refine lx_iload_n C dL_law_820 rfl rfl ?_
  refine lx_iconst C (v := 1) dL_law_821 rfl ?_
  refine lx_iaddN C (k := 1) rfl dL_law_822 ?_
  refine lx_sld C ⟨by omega, hL⟩ dL_law_823 ?_
  refine lx_callC C Dd (As := [_]) (n := 1) (c_X4_many (gC G) 0 σ (xs (i + 1)) P hwS.2.2.1 hwS.2.2.2.1 n hwN) qw_533 qw_534 qw_535 qw_39 qw_536 ⟨rfl, by decide, by decide, by decide +kernel⟩ (qx_roomL (by decide) (by decide)) hc rfl rfl (Nat.le_of_ble_eq_true rfl) dL_law_824 ?_
  refine lx_aload_n C dL_law_827 rfl rfl ?_
  refine lx_aload_n C dL_law_828 rfl rfl ?_
  refine lx_iload_n C dL_law_829 rfl rfl ?_
  refine lx_iconst C (v := 1) dL_law_830 rfl ?_
  refine lx_iaddN C (k := 1) rfl dL_law_831 ?_
  refine lx_sld C ⟨by omega, hL⟩ dL_law_832 ?_
  refine lx_callM C Dd (As := [_]) (n := 1) (c_X5_many (gM G) 0 τ (xs (i + 1)) P S n mw) qw_793 qw_794 qw_795 qw_44 qw_796 ⟨rfl, by decide, by decide, by decide +kernel⟩ (qx_roomL (by decide) (by decide)) hc rfl rfl (Nat.le_of_ble_eq_true rfl) dL_law_833 ?_
  refine lx_icmp_eq C (tgt := 867) dL_law_836 (by decide) (fun _ => ?_) (fun h => absurd (RT.2.2.2.2 (xs (i + 1))) h)
  exact kk _ _ h0
set_option maxRecDepth 20000 in
set_option maxHeartbeats 2000000 in
theorem lw_case_keep {K : qx_K} {G : lx_G} {b L cn sn : Nat} {xs : Nat → Int32} {σ τ : qx_S} (C : lx_C K G b L xs) (Dd : lx_D K G) (hc : cn ≤ 600000 ∧ sn ≤ 7302250) (R : qx_S → qx_S → Prop) (P S n i : Nat) (hi : i + 7 ≤ L) (hL : L ≤ 3584) (RP : RelPre σ τ P S n) (RS : RelSet R σ τ P S n) (RL : RelPlan R σ τ P S n) (RN : RelNight R σ τ P S n) (RT : RelTell σ τ P S n) (RK : RelKept R σ τ) (h0 : R σ τ) (kk : ∀ σ1 τ1, R σ1 τ1 → lx_X K G cn sn σ1 τ1 867 [some (.ref b), some (.ref (fa (gC G) 0)), some (.ref (fa (gM G) 0)), some (.int (nI i))] []) : lx_X K G cn sn σ τ 841 [some (.ref b), some (.ref (fa (gC G) 0)), some (.ref (fa (gM G) 0)), some (.int (nI i))] [] := by
  obtain ⟨hwS, hwN, hb, hbk, mw, ms, mp⟩ := RP
  refine lx_aload_n C dL_law_841 rfl rfl ?_
  refine lx_callC C Dd (As := []) (n := 0) (c_X4_keep (gC G) 0 σ hb) qw_553 qw_554 qw_555 qw_39 qw_556 ⟨rfl, by decide, by decide, by decide +kernel⟩ (qx_roomL (by decide) (by decide)) hc rfl rfl (Nat.le_of_ble_eq_true rfl) dL_law_842 ?_
  refine lx_aload_n C dL_law_845 rfl rfl ?_
  refine lx_callM C Dd (As := []) (n := 0) (c_X5_keep (gM G) 0 τ) qw_810 qw_811 qw_812 qw_44 qw_813 ⟨rfl, by decide, by decide, by decide +kernel⟩ (qx_roomL (by decide) (by decide)) hc rfl rfl (Nat.le_of_ble_eq_true rfl) dL_law_846 ?_
  refine lx_icmp_eq C (tgt := 867) dL_law_849 (by decide) (fun _ => ?_) (fun h => absurd rfl h)
  exact kk _ _ RK.1
set_option maxRecDepth 20000 in
set_option maxHeartbeats 2000000 in
theorem lw_case_back {K : qx_K} {G : lx_G} {b L cn sn : Nat} {xs : Nat → Int32} {σ τ : qx_S} (C : lx_C K G b L xs) (Dd : lx_D K G) (hc : cn ≤ 600000 ∧ sn ≤ 7302250) (R : qx_S → qx_S → Prop) (P S n i : Nat) (hi : i + 7 ≤ L) (hL : L ≤ 3584) (RP : RelPre σ τ P S n) (RS : RelSet R σ τ P S n) (RL : RelPlan R σ τ P S n) (RN : RelNight R σ τ P S n) (RT : RelTell σ τ P S n) (RK : RelKept R σ τ) (h0 : R σ τ) (kk : ∀ σ1 τ1, R σ1 τ1 → lx_X K G cn sn σ1 τ1 867 [some (.ref b), some (.ref (fa (gC G) 0)), some (.ref (fa (gM G) 0)), some (.int (nI i))] []) : lx_X K G cn sn σ τ 854 [some (.ref b), some (.ref (fa (gC G) 0)), some (.ref (fa (gM G) 0)), some (.int (nI i))] [] := by
  obtain ⟨hwS, hwN, hb, hbk, mw, ms, mp⟩ := RP
  refine lx_aload_n C dL_law_854 rfl rfl ?_
  refine lx_callC C Dd (As := []) (n := 0) (c_X4_back (gC G) 0 σ hbk) qw_572 qw_573 qw_574 qw_39 qw_575 ⟨rfl, by decide, by decide, by decide +kernel⟩ (qx_roomL (by decide) (by decide)) hc rfl rfl (Nat.le_of_ble_eq_true rfl) dL_law_855 ?_
  refine lx_aload_n C dL_law_858 rfl rfl ?_
  refine lx_callM C Dd (As := []) (n := 0) (c_X5_back (gM G) 0 τ) qw_822 qw_823 qw_824 qw_44 qw_825 ⟨rfl, by decide, by decide, by decide +kernel⟩ (qx_roomL (by decide) (by decide)) hc rfl rfl (Nat.le_of_ble_eq_true rfl) dL_law_859 ?_
  refine lx_icmp_eq C (tgt := 867) dL_law_862 (by decide) (fun _ => ?_) (fun h => absurd (RK.2).1 h)
  exact kk _ _ (RK.2).2
