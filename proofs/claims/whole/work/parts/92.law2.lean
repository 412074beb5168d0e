-- printed by wip/whole/gen91.py: the law: each call of both
theorem lg_cmp_rf (x : Int64) : lg_cmp x x = 0 := by unfold lg_cmp; simp
section LC
variable {g : GG} {L : Nat} {xs : Nat → Int32} {M : AM} {n : Nat}
set_option maxRecDepth 8000 in
theorem lc_0 (hI : Iv M) (hL : L ≤ 1536) (hn : n + 3 ≤ L) (hk : ∀ M2, Iv M2 → Ex g qL (tL g L xs) 703 (lsL n) [] M2) : Ex g qL (tL g L xs) 136 (lsL n) [] M := by
  obtain ⟨T, p, q, hM, hC⟩ := hI
  refine E_aload_n dL_law_136 rfl ?_
  refine E_aload_n dL_law_137 rfl ?_
  refine E_iload_n dL_law_138 rfl ?_
  refine E_iconst (v := nI 1) dL_law_139 (by decide +kernel) ?_
  refine E_iaddN dL_law_140 ?_
  refine E_sld dL_law_141 (by omega) hL ?_
  refine E_callV (r := qX10_write) (ci := 10) (As := [.int _]) dL_law_142 mkL_13 voX10_write rfl rfl rfl ⟨Nat.le_of_ble_eq_true rfl, Nat.le_of_ble_eq_true rfl, Nat.le_of_ble_eq_true rfl, Nat.le_of_ble_eq_true rfl⟩ (c_write hM hC) rfl (Nat.le_of_ble_eq_true rfl) (fun v M1 h1 => ?_)
  obtain ⟨rfl, ⟨T2, p2, q2, hv, hC2⟩, hF⟩ := h1
  have hM1 := ms_60 hM hF
  refine E_aload_n dL_law_145 rfl ?_
  refine E_aload_n dL_law_146 rfl ?_
  refine E_iload_n dL_law_147 rfl ?_
  refine E_iconst (v := nI 1) dL_law_148 (by decide +kernel) ?_
  refine E_iaddN dL_law_149 ?_
  refine E_sld dL_law_150 (by omega) hL ?_
  refine E_callV (r := qX11_write) (ci := 11) (As := [.int _]) dL_law_151 mkL_17 voX11_write rfl rfl rfl ⟨Nat.le_of_ble_eq_true rfl, Nat.le_of_ble_eq_true rfl, Nat.le_of_ble_eq_true rfl, Nat.le_of_ble_eq_true rfl⟩ (m_write hM1) rfl (Nat.le_of_ble_eq_true rfl) (fun v M2 h2 => ?_)
  obtain ⟨rfl, hS, hM2⟩ := h2
  exact E_icmp_eq (t := 703) dL_law_154 (by decide) (fun _ => hk M2 ⟨T2, p2, q2, ms_v hv hM2, cx_61 hC2 hS (by decide)⟩) (fun h => absurd rfl h)
set_option maxRecDepth 8000 in
theorem lc_1 (hI : Iv M) (hL : L ≤ 1536) (hn : n + 3 ≤ L) (hk : ∀ M2, Iv M2 → Ex g qL (tL g L xs) 703 (lsL n) [] M2) : Ex g qL (tL g L xs) 159 (lsL n) [] M := by
  obtain ⟨T, p, q, hM, hC⟩ := hI
  refine E_aload_n dL_law_159 rfl ?_
  refine E_callV (r := qX10_talk) (ci := 10) (As := []) dL_law_160 mkL_18 voX10_talk rfl rfl rfl ⟨Nat.le_of_ble_eq_true rfl, Nat.le_of_ble_eq_true rfl, Nat.le_of_ble_eq_true rfl, Nat.le_of_ble_eq_true rfl⟩ (c_talk hM hC) rfl (Nat.le_of_ble_eq_true rfl) (fun v M1 h1 => ?_)
  obtain ⟨rfl, ⟨T2, p2, q2, hv, hC2⟩, hF⟩ := h1
  have hM1 := ms_60 hM hF
  refine E_aload_n dL_law_163 rfl ?_
  refine E_callV (r := qX11_talk) (ci := 11) (As := []) dL_law_164 mkL_22 voX11_talk rfl rfl rfl ⟨Nat.le_of_ble_eq_true rfl, Nat.le_of_ble_eq_true rfl, Nat.le_of_ble_eq_true rfl, Nat.le_of_ble_eq_true rfl⟩ (m_talk hM1) rfl (Nat.le_of_ble_eq_true rfl) (fun v M2 h2 => ?_)
  obtain ⟨rfl, hS, hM2⟩ := h2
  exact E_icmp_eq (t := 703) dL_law_167 (by decide) (fun _ => hk M2 ⟨T2, p2, q2, ms_v hv hM2, cx_61 hC2 hS (by decide)⟩) (fun h => absurd rfl h)
set_option maxRecDepth 8000 in
theorem lc_2 (hI : Iv M) (hL : L ≤ 1536) (hn : n + 3 ≤ L) (hk : ∀ M2, Iv M2 → Ex g qL (tL g L xs) 703 (lsL n) [] M2) : Ex g qL (tL g L xs) 172 (lsL n) [] M := by
  obtain ⟨T, p, q, hM, hC⟩ := hI
  refine E_aload_n dL_law_172 rfl ?_
  refine E_callV (r := qX10_fault) (ci := 10) (As := []) dL_law_173 mkL_23 voX10_fault rfl rfl rfl ⟨Nat.le_of_ble_eq_true rfl, Nat.le_of_ble_eq_true rfl, Nat.le_of_ble_eq_true rfl, Nat.le_of_ble_eq_true rfl⟩ (c_fault hC) rfl (Nat.le_of_ble_eq_true rfl) (fun v M1 h1 => ?_)
  obtain ⟨rfl, hC2, hF⟩ := h1
  have hM1 := ms_60 hM hF
  refine E_aload_n dL_law_176 rfl ?_
  refine E_callV (r := qX11_fault) (ci := 11) (As := []) dL_law_177 mkL_26 voX11_fault rfl rfl rfl ⟨Nat.le_of_ble_eq_true rfl, Nat.le_of_ble_eq_true rfl, Nat.le_of_ble_eq_true rfl, Nat.le_of_ble_eq_true rfl⟩ (m_fault hM1) rfl (Nat.le_of_ble_eq_true rfl) (fun v M2 h2 => ?_)
  obtain ⟨rfl, hS, hM2⟩ := h2
  exact E_icmp_eq (t := 703) dL_law_180 (by decide) (fun _ => hk M2 ⟨T, p, q, hM2, cx_61 hC2 hS (by decide)⟩) (fun h => absurd rfl h)
set_option maxRecDepth 8000 in
theorem lc_3 (hI : Iv M) (hL : L ≤ 1536) (hn : n + 3 ≤ L) (hk : ∀ M2, Iv M2 → Ex g qL (tL g L xs) 703 (lsL n) [] M2) : Ex g qL (tL g L xs) 185 (lsL n) [] M := by
  obtain ⟨T, p, q, hM, hC⟩ := hI
  refine E_aload_n dL_law_185 rfl ?_
  refine E_aload_n dL_law_186 rfl ?_
  refine E_iload_n dL_law_187 rfl ?_
  refine E_iconst (v := nI 1) dL_law_188 (by decide +kernel) ?_
  refine E_iaddN dL_law_189 ?_
  refine E_sld dL_law_190 (by omega) hL ?_
  refine E_callV (r := qX10_begin) (ci := 10) (As := [.int _]) dL_law_191 mkL_27 voX10_begin rfl rfl rfl ⟨Nat.le_of_ble_eq_true rfl, Nat.le_of_ble_eq_true rfl, Nat.le_of_ble_eq_true rfl, Nat.le_of_ble_eq_true rfl⟩ (c_begin hM hC) rfl (Nat.le_of_ble_eq_true rfl) (fun v M1 h1 => ?_)
  obtain ⟨rfl, ⟨T2, p2, q2, hv, hC2⟩, hF⟩ := h1
  have hM1 := ms_60 hM hF
  refine E_aload_n dL_law_194 rfl ?_
  refine E_aload_n dL_law_195 rfl ?_
  refine E_iload_n dL_law_196 rfl ?_
  refine E_iconst (v := nI 1) dL_law_197 (by decide +kernel) ?_
  refine E_iaddN dL_law_198 ?_
  refine E_sld dL_law_199 (by omega) hL ?_
  refine E_callV (r := qX11_begin) (ci := 11) (As := [.int _]) dL_law_200 mkL_30 voX11_begin rfl rfl rfl ⟨Nat.le_of_ble_eq_true rfl, Nat.le_of_ble_eq_true rfl, Nat.le_of_ble_eq_true rfl, Nat.le_of_ble_eq_true rfl⟩ (m_begin hM1) rfl (Nat.le_of_ble_eq_true rfl) (fun v M2 h2 => ?_)
  obtain ⟨rfl, hS, hM2⟩ := h2
  exact E_icmp_eq (t := 703) dL_law_203 (by decide) (fun _ => hk M2 ⟨T2, p2, q2, ms_v hv hM2, cx_61 hC2 hS (by decide)⟩) (fun h => absurd rfl h)
set_option maxRecDepth 8000 in
theorem lc_4 (hI : Iv M) (hL : L ≤ 1536) (hn : n + 3 ≤ L) (hk : ∀ M2, Iv M2 → Ex g qL (tL g L xs) 703 (lsL n) [] M2) : Ex g qL (tL g L xs) 208 (lsL n) [] M := by
  obtain ⟨T, p, q, hM, hC⟩ := hI
  refine E_aload_n dL_law_208 rfl ?_
  refine E_aload_n dL_law_209 rfl ?_
  refine E_iload_n dL_law_210 rfl ?_
  refine E_iconst (v := nI 1) dL_law_211 (by decide +kernel) ?_
  refine E_iaddN dL_law_212 ?_
  refine E_sld dL_law_213 (by omega) hL ?_
  refine E_callV (r := qX10_take) (ci := 10) (As := [.int _]) dL_law_214 mkL_31 voX10_take rfl rfl rfl ⟨Nat.le_of_ble_eq_true rfl, Nat.le_of_ble_eq_true rfl, Nat.le_of_ble_eq_true rfl, Nat.le_of_ble_eq_true rfl⟩ (c_take hM hC) rfl (Nat.le_of_ble_eq_true rfl) (fun v M1 h1 => ?_)
  obtain ⟨rfl, ⟨T2, p2, q2, hv, hC2⟩, hF⟩ := h1
  have hM1 := ms_60 hM hF
  refine E_aload_n dL_law_217 rfl ?_
  refine E_aload_n dL_law_218 rfl ?_
  refine E_iload_n dL_law_219 rfl ?_
  refine E_iconst (v := nI 1) dL_law_220 (by decide +kernel) ?_
  refine E_iaddN dL_law_221 ?_
  refine E_sld dL_law_222 (by omega) hL ?_
  refine E_callV (r := qX11_take) (ci := 11) (As := [.int _]) dL_law_223 mkL_34 voX11_take rfl rfl rfl ⟨Nat.le_of_ble_eq_true rfl, Nat.le_of_ble_eq_true rfl, Nat.le_of_ble_eq_true rfl, Nat.le_of_ble_eq_true rfl⟩ (m_take hM1) rfl (Nat.le_of_ble_eq_true rfl) (fun v M2 h2 => ?_)
  obtain ⟨rfl, hS, hM2⟩ := h2
  exact E_icmp_eq (t := 703) dL_law_226 (by decide) (fun _ => hk M2 ⟨T2, p2, q2, ms_v hv hM2, cx_61 hC2 hS (by decide)⟩) (fun h => absurd rfl h)
set_option maxRecDepth 8000 in
theorem lc_5 (hI : Iv M) (hL : L ≤ 1536) (hn : n + 3 ≤ L) (hk : ∀ M2, Iv M2 → Ex g qL (tL g L xs) 703 (lsL n) [] M2) : Ex g qL (tL g L xs) 231 (lsL n) [] M := by
  obtain ⟨T, p, q, hM, hC⟩ := hI
  refine E_aload_n dL_law_231 rfl ?_
  refine E_aload_n dL_law_232 rfl ?_
  refine E_iload_n dL_law_233 rfl ?_
  refine E_iconst (v := nI 1) dL_law_234 (by decide +kernel) ?_
  refine E_iaddN dL_law_235 ?_
  refine E_sld dL_law_236 (by omega) hL ?_
  refine E_callV (r := qX10_back) (ci := 10) (As := [.int _]) dL_law_237 mkL_35 voX10_back rfl rfl rfl ⟨Nat.le_of_ble_eq_true rfl, Nat.le_of_ble_eq_true rfl, Nat.le_of_ble_eq_true rfl, Nat.le_of_ble_eq_true rfl⟩ (c_back hM hC) rfl (Nat.le_of_ble_eq_true rfl) (fun v M1 h1 => ?_)
  obtain ⟨rfl, ⟨T2, p2, q2, hv, hC2⟩, hF⟩ := h1
  have hM1 := ms_60 hM hF
  refine E_aload_n dL_law_240 rfl ?_
  refine E_aload_n dL_law_241 rfl ?_
  refine E_iload_n dL_law_242 rfl ?_
  refine E_iconst (v := nI 1) dL_law_243 (by decide +kernel) ?_
  refine E_iaddN dL_law_244 ?_
  refine E_sld dL_law_245 (by omega) hL ?_
  refine E_callV (r := qX11_back) (ci := 11) (As := [.int _]) dL_law_246 mkL_38 voX11_back rfl rfl rfl ⟨Nat.le_of_ble_eq_true rfl, Nat.le_of_ble_eq_true rfl, Nat.le_of_ble_eq_true rfl, Nat.le_of_ble_eq_true rfl⟩ (m_back hM1) rfl (Nat.le_of_ble_eq_true rfl) (fun v M2 h2 => ?_)
  obtain ⟨rfl, hS, hM2⟩ := h2
  exact E_icmp_eq (t := 703) dL_law_249 (by decide) (fun _ => hk M2 ⟨T2, p2, q2, ms_v hv hM2, cx_61 hC2 hS (by decide)⟩) (fun h => absurd rfl h)
set_option maxRecDepth 8000 in
theorem lc_6 (hI : Iv M) (hL : L ≤ 1536) (hn : n + 3 ≤ L) (hk : ∀ M2, Iv M2 → Ex g qL (tL g L xs) 703 (lsL n) [] M2) : Ex g qL (tL g L xs) 254 (lsL n) [] M := by
  obtain ⟨T, p, q, hM, hC⟩ := hI
  refine E_aload_n dL_law_254 rfl ?_
  refine E_aload_n dL_law_255 rfl ?_
  refine E_iload_n dL_law_256 rfl ?_
  refine E_iconst (v := nI 1) dL_law_257 (by decide +kernel) ?_
  refine E_iaddN dL_law_258 ?_
  refine E_sld dL_law_259 (by omega) hL ?_
  refine E_aload_n dL_law_260 rfl ?_
  refine E_iload_n dL_law_261 rfl ?_
  refine E_iconst (v := nI 2) dL_law_262 (by decide +kernel) ?_
  refine E_iaddN dL_law_263 ?_
  refine E_sld dL_law_264 (by omega) hL ?_
  refine E_callV (r := qX10_cut) (ci := 10) (As := [.int _, .int _]) dL_law_265 mkL_39 voX10_cut rfl rfl rfl ⟨Nat.le_of_ble_eq_true rfl, Nat.le_of_ble_eq_true rfl, Nat.le_of_ble_eq_true rfl, Nat.le_of_ble_eq_true rfl⟩ (c_cut hM hC) rfl (Nat.le_of_ble_eq_true rfl) (fun v M1 h1 => ?_)
  obtain ⟨rfl, ⟨T2, p2, q2, hv, hC2⟩, hF⟩ := h1
  have hM1 := ms_60 hM hF
  refine E_aload_n dL_law_268 rfl ?_
  refine E_aload_n dL_law_269 rfl ?_
  refine E_iload_n dL_law_270 rfl ?_
  refine E_iconst (v := nI 1) dL_law_271 (by decide +kernel) ?_
  refine E_iaddN dL_law_272 ?_
  refine E_sld dL_law_273 (by omega) hL ?_
  refine E_aload_n dL_law_274 rfl ?_
  refine E_iload_n dL_law_275 rfl ?_
  refine E_iconst (v := nI 2) dL_law_276 (by decide +kernel) ?_
  refine E_iaddN dL_law_277 ?_
  refine E_sld dL_law_278 (by omega) hL ?_
  refine E_callV (r := qX11_cut) (ci := 11) (As := [.int _, .int _]) dL_law_279 mkL_43 voX11_cut rfl rfl rfl ⟨Nat.le_of_ble_eq_true rfl, Nat.le_of_ble_eq_true rfl, Nat.le_of_ble_eq_true rfl, Nat.le_of_ble_eq_true rfl⟩ (m_cut hM1) rfl (Nat.le_of_ble_eq_true rfl) (fun v M2 h2 => ?_)
  obtain ⟨rfl, hS, hM2⟩ := h2
  exact E_icmp_eq (t := 703) dL_law_282 (by decide) (fun _ => hk M2 ⟨T2, p2, q2, ms_v hv hM2, cx_61 hC2 hS (by decide)⟩) (fun h => absurd rfl h)
set_option maxRecDepth 8000 in
theorem lc_7 (hI : Iv M) (hL : L ≤ 1536) (hn : n + 3 ≤ L) (hk : ∀ M2, Iv M2 → Ex g qL (tL g L xs) 703 (lsL n) [] M2) : Ex g qL (tL g L xs) 287 (lsL n) [] M := by
  obtain ⟨T, p, q, hM, hC⟩ := hI
  refine E_aload_n dL_law_287 rfl ?_
  refine E_aload_n dL_law_288 rfl ?_
  refine E_iload_n dL_law_289 rfl ?_
  refine E_iconst (v := nI 1) dL_law_290 (by decide +kernel) ?_
  refine E_iaddN dL_law_291 ?_
  refine E_sld dL_law_292 (by omega) hL ?_
  refine E_aload_n dL_law_293 rfl ?_
  refine E_iload_n dL_law_294 rfl ?_
  refine E_iconst (v := nI 2) dL_law_295 (by decide +kernel) ?_
  refine E_iaddN dL_law_296 ?_
  refine E_sld dL_law_297 (by omega) hL ?_
  refine E_callV (r := qX10_cost) (ci := 10) (As := [.int _, .int _]) dL_law_298 mkL_44 voX10_cost rfl rfl rfl ⟨Nat.le_of_ble_eq_true rfl, Nat.le_of_ble_eq_true rfl, Nat.le_of_ble_eq_true rfl, Nat.le_of_ble_eq_true rfl⟩ (c_cost2 hM hC) rfl (Nat.le_of_ble_eq_true rfl) (fun v M1 h1 => ?_)
  obtain ⟨rfl, ⟨T2, p2, q2, hv, hC2⟩, hF⟩ := h1
  have hM1 := ms_60 hM hF
  refine E_aload_n dL_law_301 rfl ?_
  refine E_aload_n dL_law_302 rfl ?_
  refine E_iload_n dL_law_303 rfl ?_
  refine E_iconst (v := nI 1) dL_law_304 (by decide +kernel) ?_
  refine E_iaddN dL_law_305 ?_
  refine E_sld dL_law_306 (by omega) hL ?_
  refine E_aload_n dL_law_307 rfl ?_
  refine E_iload_n dL_law_308 rfl ?_
  refine E_iconst (v := nI 2) dL_law_309 (by decide +kernel) ?_
  refine E_iaddN dL_law_310 ?_
  refine E_sld dL_law_311 (by omega) hL ?_
  refine E_callV (r := qX11_cost) (ci := 11) (As := [.int _, .int _]) dL_law_312 mkL_47 voX11_cost rfl rfl rfl ⟨Nat.le_of_ble_eq_true rfl, Nat.le_of_ble_eq_true rfl, Nat.le_of_ble_eq_true rfl, Nat.le_of_ble_eq_true rfl⟩ (m_cost hM1) rfl (Nat.le_of_ble_eq_true rfl) (fun v M2 h2 => ?_)
  obtain ⟨rfl, hS, hM2⟩ := h2
  exact E_icmp_eq (t := 703) dL_law_315 (by decide) (fun _ => hk M2 ⟨T2, p2, q2, ms_v hv hM2, cx_61 hC2 hS (by decide)⟩) (fun h => absurd rfl h)
set_option maxRecDepth 8000 in
theorem lc_8 (hI : Iv M) (hL : L ≤ 1536) (hn : n + 3 ≤ L) (hk : ∀ M2, Iv M2 → Ex g qL (tL g L xs) 703 (lsL n) [] M2) : Ex g qL (tL g L xs) 320 (lsL n) [] M := by
  obtain ⟨T, p, q, hM, hC⟩ := hI
  refine E_aload_n dL_law_320 rfl ?_
  refine E_callV (r := qX10_undo) (ci := 10) (As := []) dL_law_321 mkL_48 voX10_undo rfl rfl rfl ⟨Nat.le_of_ble_eq_true rfl, Nat.le_of_ble_eq_true rfl, Nat.le_of_ble_eq_true rfl, Nat.le_of_ble_eq_true rfl⟩ (c_undo hM hC) rfl (Nat.le_of_ble_eq_true rfl) (fun v M1 h1 => ?_)
  obtain ⟨rfl, ⟨T2, p2, q2, hv, hC2⟩, hF⟩ := h1
  have hM1 := ms_60 hM hF
  refine E_aload_n dL_law_324 rfl ?_
  refine E_callV (r := qX11_undo) (ci := 11) (As := []) dL_law_325 mkL_51 voX11_undo rfl rfl rfl ⟨Nat.le_of_ble_eq_true rfl, Nat.le_of_ble_eq_true rfl, Nat.le_of_ble_eq_true rfl, Nat.le_of_ble_eq_true rfl⟩ (m_undo hM1) rfl (Nat.le_of_ble_eq_true rfl) (fun v M2 h2 => ?_)
  obtain ⟨rfl, hS, hM2⟩ := h2
  exact E_icmp_eq (t := 703) dL_law_328 (by decide) (fun _ => hk M2 ⟨T2, p2, q2, ms_v hv hM2, cx_61 hC2 hS (by decide)⟩) (fun h => absurd rfl h)
set_option maxRecDepth 8000 in
theorem lc_9 (hI : Iv M) (hL : L ≤ 1536) (hn : n + 3 ≤ L) (hk : ∀ M2, Iv M2 → Ex g qL (tL g L xs) 703 (lsL n) [] M2) : Ex g qL (tL g L xs) 333 (lsL n) [] M := by
  obtain ⟨T, p, q, hM, hC⟩ := hI
  refine E_aload_n dL_law_333 rfl ?_
  refine E_aload_n dL_law_334 rfl ?_
  refine E_iload_n dL_law_335 rfl ?_
  refine E_iconst (v := nI 1) dL_law_336 (by decide +kernel) ?_
  refine E_iaddN dL_law_337 ?_
  refine E_sld dL_law_338 (by omega) hL ?_
  refine E_aload_n dL_law_339 rfl ?_
  refine E_iload_n dL_law_340 rfl ?_
  refine E_iconst (v := nI 2) dL_law_341 (by decide +kernel) ?_
  refine E_iaddN dL_law_342 ?_
  refine E_sld dL_law_343 (by omega) hL ?_
  refine E_callV (r := qX10_answer) (ci := 10) (As := [.int _, .int _]) dL_law_344 mkL_52 voX10_answer rfl rfl rfl ⟨Nat.le_of_ble_eq_true rfl, Nat.le_of_ble_eq_true rfl, Nat.le_of_ble_eq_true rfl, Nat.le_of_ble_eq_true rfl⟩ (c_answer hM hC) rfl (Nat.le_of_ble_eq_true rfl) (fun v M1 h1 => ?_)
  obtain ⟨rfl, hC2, hF⟩ := h1
  have hM1 := ms_60 hM hF
  refine E_aload_n dL_law_347 rfl ?_
  refine E_aload_n dL_law_348 rfl ?_
  refine E_iload_n dL_law_349 rfl ?_
  refine E_iconst (v := nI 1) dL_law_350 (by decide +kernel) ?_
  refine E_iaddN dL_law_351 ?_
  refine E_sld dL_law_352 (by omega) hL ?_
  refine E_aload_n dL_law_353 rfl ?_
  refine E_iload_n dL_law_354 rfl ?_
  refine E_iconst (v := nI 2) dL_law_355 (by decide +kernel) ?_
  refine E_iaddN dL_law_356 ?_
  refine E_sld dL_law_357 (by omega) hL ?_
  refine E_callV (r := qX11_answer) (ci := 11) (As := [.int _, .int _]) dL_law_358 mkL_55 voX11_answer rfl rfl rfl ⟨Nat.le_of_ble_eq_true rfl, Nat.le_of_ble_eq_true rfl, Nat.le_of_ble_eq_true rfl, Nat.le_of_ble_eq_true rfl⟩ (m_answer hM1) rfl (Nat.le_of_ble_eq_true rfl) (fun v M2 h2 => ?_)
  obtain ⟨rfl, hS, hM2⟩ := h2
  exact E_icmp_eq (t := 703) dL_law_361 (by decide) (fun _ => hk M2 ⟨T, p, q, hM2, cx_61 hC2 hS (by decide)⟩) (fun h => absurd rfl h)
set_option maxRecDepth 8000 in
theorem lc_10 (hI : Iv M) (hL : L ≤ 1536) (hn : n + 3 ≤ L) (hk : ∀ M2, Iv M2 → Ex g qL (tL g L xs) 703 (lsL n) [] M2) : Ex g qL (tL g L xs) 366 (lsL n) [] M := by
  obtain ⟨T, p, q, hM, hC⟩ := hI
  refine E_aload_n dL_law_366 rfl ?_
  refine E_aload_n dL_law_367 rfl ?_
  refine E_iload_n dL_law_368 rfl ?_
  refine E_iconst (v := nI 1) dL_law_369 (by decide +kernel) ?_
  refine E_iaddN dL_law_370 ?_
  refine E_sld dL_law_371 (by omega) hL ?_
  refine E_callV (r := qX10_count) (ci := 10) (As := [.int _]) dL_law_372 mkL_56 voX10_count rfl rfl rfl ⟨Nat.le_of_ble_eq_true rfl, Nat.le_of_ble_eq_true rfl, Nat.le_of_ble_eq_true rfl, Nat.le_of_ble_eq_true rfl⟩ (c_count hM hC) rfl (Nat.le_of_ble_eq_true rfl) (fun v M1 h1 => ?_)
  obtain ⟨rfl, hC2, hF⟩ := h1
  have hM1 := ms_60 hM hF
  refine E_aload_n dL_law_375 rfl ?_
  refine E_aload_n dL_law_376 rfl ?_
  refine E_iload_n dL_law_377 rfl ?_
  refine E_iconst (v := nI 1) dL_law_378 (by decide +kernel) ?_
  refine E_iaddN dL_law_379 ?_
  refine E_sld dL_law_380 (by omega) hL ?_
  refine E_callV (r := qX11_count) (ci := 11) (As := [.int _]) dL_law_381 mkL_59 voX11_count rfl rfl rfl ⟨Nat.le_of_ble_eq_true rfl, Nat.le_of_ble_eq_true rfl, Nat.le_of_ble_eq_true rfl, Nat.le_of_ble_eq_true rfl⟩ (m_count hM1) rfl (Nat.le_of_ble_eq_true rfl) (fun v M2 h2 => ?_)
  obtain ⟨rfl, hS, hM2⟩ := h2
  exact E_icmp_eq (t := 703) dL_law_384 (by decide) (fun _ => hk M2 ⟨T, p, q, hM2, cx_61 hC2 hS (by decide)⟩) (fun h => absurd rfl h)
set_option maxRecDepth 8000 in
theorem lc_11 (hI : Iv M) (hL : L ≤ 1536) (hn : n + 3 ≤ L) (hk : ∀ M2, Iv M2 → Ex g qL (tL g L xs) 703 (lsL n) [] M2) : Ex g qL (tL g L xs) 389 (lsL n) [] M := by
  obtain ⟨T, p, q, hM, hC⟩ := hI
  refine E_aload_n dL_law_389 rfl ?_
  refine E_aload_n dL_law_390 rfl ?_
  refine E_iload_n dL_law_391 rfl ?_
  refine E_iconst (v := nI 1) dL_law_392 (by decide +kernel) ?_
  refine E_iaddN dL_law_393 ?_
  refine E_sld dL_law_394 (by omega) hL ?_
  refine E_callV (r := qX10_step) (ci := 10) (As := [.int _]) dL_law_395 mkL_60 voX10_step rfl rfl rfl ⟨Nat.le_of_ble_eq_true rfl, Nat.le_of_ble_eq_true rfl, Nat.le_of_ble_eq_true rfl, Nat.le_of_ble_eq_true rfl⟩ (c_step hC) rfl (Nat.le_of_ble_eq_true rfl) (fun v M1 h1 => ?_)
  obtain ⟨rfl, hC2, hF⟩ := h1
  have hM1 := ms_60 hM hF
  refine E_aload_n dL_law_398 rfl ?_
  refine E_aload_n dL_law_399 rfl ?_
  refine E_iload_n dL_law_400 rfl ?_
  refine E_iconst (v := nI 1) dL_law_401 (by decide +kernel) ?_
  refine E_iaddN dL_law_402 ?_
  refine E_sld dL_law_403 (by omega) hL ?_
  refine E_callV (r := qX11_step) (ci := 11) (As := [.int _]) dL_law_404 mkL_63 voX11_step rfl rfl rfl ⟨Nat.le_of_ble_eq_true rfl, Nat.le_of_ble_eq_true rfl, Nat.le_of_ble_eq_true rfl, Nat.le_of_ble_eq_true rfl⟩ (m_step hM1) rfl (Nat.le_of_ble_eq_true rfl) (fun v M2 h2 => ?_)
  obtain ⟨rfl, hS, hM2⟩ := h2
  exact E_icmp_eq (t := 703) dL_law_407 (by decide) (fun _ => hk M2 ⟨T, p, q, hM2, cx_61 hC2 hS (by decide)⟩) (fun h => absurd rfl h)
set_option maxRecDepth 8000 in
theorem lc_12 (hI : Iv M) (hL : L ≤ 1536) (hn : n + 3 ≤ L) (hk : ∀ M2, Iv M2 → Ex g qL (tL g L xs) 703 (lsL n) [] M2) : Ex g qL (tL g L xs) 412 (lsL n) [] M := by
  obtain ⟨T, p, q, hM, hC⟩ := hI
  refine E_aload_n dL_law_412 rfl ?_
  refine E_aload_n dL_law_413 rfl ?_
  refine E_iload_n dL_law_414 rfl ?_
  refine E_iconst (v := nI 1) dL_law_415 (by decide +kernel) ?_
  refine E_iaddN dL_law_416 ?_
  refine E_sld dL_law_417 (by omega) hL ?_
  refine E_aload_n dL_law_418 rfl ?_
  refine E_iload_n dL_law_419 rfl ?_
  refine E_iconst (v := nI 2) dL_law_420 (by decide +kernel) ?_
  refine E_iaddN dL_law_421 ?_
  refine E_sld dL_law_422 (by omega) hL ?_
  refine E_callV (r := qX10_line) (ci := 10) (As := [.int _, .int _]) dL_law_423 mkL_64 voX10_line rfl rfl rfl ⟨Nat.le_of_ble_eq_true rfl, Nat.le_of_ble_eq_true rfl, Nat.le_of_ble_eq_true rfl, Nat.le_of_ble_eq_true rfl⟩ (c_line2 hM hC) rfl (Nat.le_of_ble_eq_true rfl) (fun v M1 h1 => ?_)
  obtain ⟨rfl, hC2, hF⟩ := h1
  have hM1 := ms_60 hM hF
  refine E_aload_n dL_law_426 rfl ?_
  refine E_aload_n dL_law_427 rfl ?_
  refine E_iload_n dL_law_428 rfl ?_
  refine E_iconst (v := nI 1) dL_law_429 (by decide +kernel) ?_
  refine E_iaddN dL_law_430 ?_
  refine E_sld dL_law_431 (by omega) hL ?_
  refine E_aload_n dL_law_432 rfl ?_
  refine E_iload_n dL_law_433 rfl ?_
  refine E_iconst (v := nI 2) dL_law_434 (by decide +kernel) ?_
  refine E_iaddN dL_law_435 ?_
  refine E_sld dL_law_436 (by omega) hL ?_
  refine E_callV (r := qX11_line_) (ci := 11) (As := [.int _, .int _]) dL_law_437 mkL_67 voX11_line_ rfl rfl rfl ⟨Nat.le_of_ble_eq_true rfl, Nat.le_of_ble_eq_true rfl, Nat.le_of_ble_eq_true rfl, Nat.le_of_ble_eq_true rfl⟩ (m_line2 hM1.1 hM1.2.1) rfl (Nat.le_of_ble_eq_true rfl) (fun v M2 h2 => ?_)
  obtain ⟨rfl, hS⟩ := h2
  exact E_icmp_eq (t := 703) dL_law_440 (by decide) (fun _ => hk M2 ⟨T, p, q, ms_sb hM1 hS, cx_61 hC2 hS (by decide)⟩) (fun h => absurd rfl h)
set_option maxRecDepth 8000 in
theorem lc_13 (hI : Iv M) (hL : L ≤ 1536) (hn : n + 3 ≤ L) (hk : ∀ M2, Iv M2 → Ex g qL (tL g L xs) 703 (lsL n) [] M2) : Ex g qL (tL g L xs) 445 (lsL n) [] M := by
  obtain ⟨T, p, q, hM, hC⟩ := hI
  refine E_aload_n dL_law_445 rfl ?_
  refine E_aload_n dL_law_446 rfl ?_
  refine E_iload_n dL_law_447 rfl ?_
  refine E_iconst (v := nI 1) dL_law_448 (by decide +kernel) ?_
  refine E_iaddN dL_law_449 ?_
  refine E_sld dL_law_450 (by omega) hL ?_
  refine E_aload_n dL_law_451 rfl ?_
  refine E_iload_n dL_law_452 rfl ?_
  refine E_iconst (v := nI 2) dL_law_453 (by decide +kernel) ?_
  refine E_iaddN dL_law_454 ?_
  refine E_sld dL_law_455 (by omega) hL ?_
  refine E_callV (r := qX10_least) (ci := 10) (As := [.int _, .int _]) dL_law_456 mkL_68 voX10_least rfl rfl rfl ⟨Nat.le_of_ble_eq_true rfl, Nat.le_of_ble_eq_true rfl, Nat.le_of_ble_eq_true rfl, Nat.le_of_ble_eq_true rfl⟩ (c_least hM hC) rfl (Nat.le_of_ble_eq_true rfl) (fun v M1 h1 => ?_)
  obtain ⟨rfl, hC2, hF⟩ := h1
  have hM1 := ms_60 hM hF
  refine E_aload_n dL_law_459 rfl ?_
  refine E_aload_n dL_law_460 rfl ?_
  refine E_iload_n dL_law_461 rfl ?_
  refine E_iconst (v := nI 1) dL_law_462 (by decide +kernel) ?_
  refine E_iaddN dL_law_463 ?_
  refine E_sld dL_law_464 (by omega) hL ?_
  refine E_aload_n dL_law_465 rfl ?_
  refine E_iload_n dL_law_466 rfl ?_
  refine E_iconst (v := nI 2) dL_law_467 (by decide +kernel) ?_
  refine E_iaddN dL_law_468 ?_
  refine E_sld dL_law_469 (by omega) hL ?_
  refine E_callV (r := qX11_least) (ci := 11) (As := [.int _, .int _]) dL_law_470 mkL_71 voX11_least rfl rfl rfl ⟨Nat.le_of_ble_eq_true rfl, Nat.le_of_ble_eq_true rfl, Nat.le_of_ble_eq_true rfl, Nat.le_of_ble_eq_true rfl⟩ (m_least hM1.1 hM1.2.1) rfl (Nat.le_of_ble_eq_true rfl) (fun v M2 h2 => ?_)
  obtain ⟨rfl, hS⟩ := h2
  exact E_icmp_eq (t := 703) dL_law_473 (by decide) (fun _ => hk M2 ⟨T, p, q, ms_sb hM1 hS, cx_61 hC2 hS (by decide)⟩) (fun h => absurd rfl h)
set_option maxRecDepth 8000 in
theorem lc_14 (hI : Iv M) (hL : L ≤ 1536) (hn : n + 3 ≤ L) (hk : ∀ M2, Iv M2 → Ex g qL (tL g L xs) 703 (lsL n) [] M2) : Ex g qL (tL g L xs) 478 (lsL n) [] M := by
  obtain ⟨T, p, q, hM, hC⟩ := hI
  refine E_aload_n dL_law_478 rfl ?_
  refine E_aload_n dL_law_479 rfl ?_
  refine E_iload_n dL_law_480 rfl ?_
  refine E_iconst (v := nI 1) dL_law_481 (by decide +kernel) ?_
  refine E_iaddN dL_law_482 ?_
  refine E_sld dL_law_483 (by omega) hL ?_
  refine E_aload_n dL_law_484 rfl ?_
  refine E_iload_n dL_law_485 rfl ?_
  refine E_iconst (v := nI 2) dL_law_486 (by decide +kernel) ?_
  refine E_iaddN dL_law_487 ?_
  refine E_sld dL_law_488 (by omega) hL ?_
  refine E_callV (r := qX10_row) (ci := 10) (As := [.int _, .int _]) dL_law_489 mkL_72 voX10_row rfl rfl rfl ⟨Nat.le_of_ble_eq_true rfl, Nat.le_of_ble_eq_true rfl, Nat.le_of_ble_eq_true rfl, Nat.le_of_ble_eq_true rfl⟩ (c_row hM hC) rfl (Nat.le_of_ble_eq_true rfl) (fun v M1 h1 => ?_)
  obtain ⟨rfl, hC2, hF⟩ := h1
  have hM1 := ms_60 hM hF
  refine E_aload_n dL_law_492 rfl ?_
  refine E_aload_n dL_law_493 rfl ?_
  refine E_iload_n dL_law_494 rfl ?_
  refine E_iconst (v := nI 1) dL_law_495 (by decide +kernel) ?_
  refine E_iaddN dL_law_496 ?_
  refine E_sld dL_law_497 (by omega) hL ?_
  refine E_aload_n dL_law_498 rfl ?_
  refine E_iload_n dL_law_499 rfl ?_
  refine E_iconst (v := nI 2) dL_law_500 (by decide +kernel) ?_
  refine E_iaddN dL_law_501 ?_
  refine E_sld dL_law_502 (by omega) hL ?_
  refine E_callV (r := qX11_row) (ci := 11) (As := [.int _, .int _]) dL_law_503 mkL_75 voX11_row rfl rfl rfl ⟨Nat.le_of_ble_eq_true rfl, Nat.le_of_ble_eq_true rfl, Nat.le_of_ble_eq_true rfl, Nat.le_of_ble_eq_true rfl⟩ (m_row hM1.1 hM1.2.1) rfl (Nat.le_of_ble_eq_true rfl) (fun v M2 h2 => ?_)
  obtain ⟨rfl, hS⟩ := h2
  exact E_icmp_eq (t := 703) dL_law_506 (by decide) (fun _ => hk M2 ⟨T, p, q, ms_sb hM1 hS, cx_61 hC2 hS (by decide)⟩) (fun h => absurd rfl h)
set_option maxRecDepth 8000 in
theorem lc_15 (hI : Iv M) (hL : L ≤ 1536) (hn : n + 3 ≤ L) (hk : ∀ M2, Iv M2 → Ex g qL (tL g L xs) 703 (lsL n) [] M2) : Ex g qL (tL g L xs) 511 (lsL n) [] M := by
  obtain ⟨T, p, q, hM, hC⟩ := hI
  refine E_aload_n dL_law_511 rfl ?_
  refine E_aload_n dL_law_512 rfl ?_
  refine E_iload_n dL_law_513 rfl ?_
  refine E_iconst (v := nI 1) dL_law_514 (by decide +kernel) ?_
  refine E_iaddN dL_law_515 ?_
  refine E_sld dL_law_516 (by omega) hL ?_
  refine E_callV (r := qX10_needs) (ci := 10) (As := [.int _]) dL_law_517 mkL_76 voX10_needs rfl rfl rfl ⟨Nat.le_of_ble_eq_true rfl, Nat.le_of_ble_eq_true rfl, Nat.le_of_ble_eq_true rfl, Nat.le_of_ble_eq_true rfl⟩ (c_needs hM hC) rfl (Nat.le_of_ble_eq_true rfl) (fun v M1 h1 => ?_)
  obtain ⟨rfl, hC2, hF⟩ := h1
  have hM1 := ms_60 hM hF
  refine E_aload_n dL_law_520 rfl ?_
  refine E_aload_n dL_law_521 rfl ?_
  refine E_iload_n dL_law_522 rfl ?_
  refine E_iconst (v := nI 1) dL_law_523 (by decide +kernel) ?_
  refine E_iaddN dL_law_524 ?_
  refine E_sld dL_law_525 (by omega) hL ?_
  refine E_callV (r := qX11_needs) (ci := 11) (As := [.int _]) dL_law_526 mkL_79 voX11_needs rfl rfl rfl ⟨Nat.le_of_ble_eq_true rfl, Nat.le_of_ble_eq_true rfl, Nat.le_of_ble_eq_true rfl, Nat.le_of_ble_eq_true rfl⟩ (m_needs hM1.1 hM1.2.1) rfl (Nat.le_of_ble_eq_true rfl) (fun v M2 h2 => ?_)
  obtain ⟨rfl, hS⟩ := h2
  exact E_icmp_eq (t := 703) dL_law_529 (by decide) (fun _ => hk M2 ⟨T, p, q, ms_sb hM1 hS, cx_61 hC2 hS (by decide)⟩) (fun h => absurd rfl h)
set_option maxRecDepth 8000 in
theorem lc_16 (hI : Iv M) (hL : L ≤ 1536) (hn : n + 3 ≤ L) (hk : ∀ M2, Iv M2 → Ex g qL (tL g L xs) 703 (lsL n) [] M2) : Ex g qL (tL g L xs) 534 (lsL n) [] M := by
  obtain ⟨T, p, q, hM, hC⟩ := hI
  refine E_aload_n dL_law_534 rfl ?_
  refine E_aload_n dL_law_535 rfl ?_
  refine E_iload_n dL_law_536 rfl ?_
  refine E_iconst (v := nI 1) dL_law_537 (by decide +kernel) ?_
  refine E_iaddN dL_law_538 ?_
  refine E_sld dL_law_539 (by omega) hL ?_
  refine E_aload_n dL_law_540 rfl ?_
  refine E_iload_n dL_law_541 rfl ?_
  refine E_iconst (v := nI 2) dL_law_542 (by decide +kernel) ?_
  refine E_iaddN dL_law_543 ?_
  refine E_sld dL_law_544 (by omega) hL ?_
  refine E_callV (r := qX10_must) (ci := 10) (As := [.int _, .int _]) dL_law_545 mkL_80 voX10_must rfl rfl rfl ⟨Nat.le_of_ble_eq_true rfl, Nat.le_of_ble_eq_true rfl, Nat.le_of_ble_eq_true rfl, Nat.le_of_ble_eq_true rfl⟩ (c_must hM hC) rfl (Nat.le_of_ble_eq_true rfl) (fun v M1 h1 => ?_)
  obtain ⟨rfl, hC2, hF⟩ := h1
  have hM1 := ms_60 hM hF
  refine E_aload_n dL_law_548 rfl ?_
  refine E_aload_n dL_law_549 rfl ?_
  refine E_iload_n dL_law_550 rfl ?_
  refine E_iconst (v := nI 1) dL_law_551 (by decide +kernel) ?_
  refine E_iaddN dL_law_552 ?_
  refine E_sld dL_law_553 (by omega) hL ?_
  refine E_aload_n dL_law_554 rfl ?_
  refine E_iload_n dL_law_555 rfl ?_
  refine E_iconst (v := nI 2) dL_law_556 (by decide +kernel) ?_
  refine E_iaddN dL_law_557 ?_
  refine E_sld dL_law_558 (by omega) hL ?_
  refine E_callV (r := qX11_must) (ci := 11) (As := [.int _, .int _]) dL_law_559 mkL_83 voX11_must rfl rfl rfl ⟨Nat.le_of_ble_eq_true rfl, Nat.le_of_ble_eq_true rfl, Nat.le_of_ble_eq_true rfl, Nat.le_of_ble_eq_true rfl⟩ (m_must hM1.1 hM1.2.1) rfl (Nat.le_of_ble_eq_true rfl) (fun v M2 h2 => ?_)
  obtain ⟨rfl, hS⟩ := h2
  exact E_icmp_eq (t := 703) dL_law_562 (by decide) (fun _ => hk M2 ⟨T, p, q, ms_sb hM1 hS, cx_61 hC2 hS (by decide)⟩) (fun h => absurd rfl h)
set_option maxRecDepth 8000 in
theorem lc_17 (hI : Iv M) (hL : L ≤ 1536) (hn : n + 3 ≤ L) (hk : ∀ M2, Iv M2 → Ex g qL (tL g L xs) 703 (lsL n) [] M2) : Ex g qL (tL g L xs) 567 (lsL n) [] M := by
  obtain ⟨T, p, q, hM, hC⟩ := hI
  refine E_aload_n dL_law_567 rfl ?_
  refine E_aload_n dL_law_568 rfl ?_
  refine E_iload_n dL_law_569 rfl ?_
  refine E_iconst (v := nI 1) dL_law_570 (by decide +kernel) ?_
  refine E_iaddN dL_law_571 ?_
  refine E_sld dL_law_572 (by omega) hL ?_
  refine E_callV (r := qX10_loop) (ci := 10) (As := [.int _]) dL_law_573 mkL_84 voX10_loop rfl rfl rfl ⟨Nat.le_of_ble_eq_true rfl, Nat.le_of_ble_eq_true rfl, Nat.le_of_ble_eq_true rfl, Nat.le_of_ble_eq_true rfl⟩ (c_loop hM hC) rfl (Nat.le_of_ble_eq_true rfl) (fun v M1 h1 => ?_)
  obtain ⟨rfl, hC2, hF⟩ := h1
  have hM1 := ms_60 hM hF
  refine E_aload_n dL_law_576 rfl ?_
  refine E_aload_n dL_law_577 rfl ?_
  refine E_iload_n dL_law_578 rfl ?_
  refine E_iconst (v := nI 1) dL_law_579 (by decide +kernel) ?_
  refine E_iaddN dL_law_580 ?_
  refine E_sld dL_law_581 (by omega) hL ?_
  refine E_callV (r := qX11_loop) (ci := 11) (As := [.int _]) dL_law_582 mkL_87 voX11_loop rfl rfl rfl ⟨Nat.le_of_ble_eq_true rfl, Nat.le_of_ble_eq_true rfl, Nat.le_of_ble_eq_true rfl, Nat.le_of_ble_eq_true rfl⟩ (m_loop hM1.1 hM1.2.1) rfl (Nat.le_of_ble_eq_true rfl) (fun v M2 h2 => ?_)
  obtain ⟨rfl, hS⟩ := h2
  exact E_icmp_eq (t := 703) dL_law_585 (by decide) (fun _ => hk M2 ⟨T, p, q, ms_sb hM1 hS, cx_61 hC2 hS (by decide)⟩) (fun h => absurd rfl h)
set_option maxRecDepth 8000 in
theorem lc_18 (hI : Iv M) (hL : L ≤ 1536) (hn : n + 3 ≤ L) (hk : ∀ M2, Iv M2 → Ex g qL (tL g L xs) 703 (lsL n) [] M2) : Ex g qL (tL g L xs) 590 (lsL n) [] M := by
  obtain ⟨T, p, q, hM, hC⟩ := hI
  refine E_aload_n dL_law_590 rfl ?_
  refine E_aload_n dL_law_591 rfl ?_
  refine E_iload_n dL_law_592 rfl ?_
  refine E_iconst (v := nI 1) dL_law_593 (by decide +kernel) ?_
  refine E_iaddN dL_law_594 ?_
  refine E_sld dL_law_595 (by omega) hL ?_
  refine E_callV (r := qX10_use) (ci := 10) (As := [.int _]) dL_law_596 mkL_88 voX10_use rfl rfl rfl ⟨Nat.le_of_ble_eq_true rfl, Nat.le_of_ble_eq_true rfl, Nat.le_of_ble_eq_true rfl, Nat.le_of_ble_eq_true rfl⟩ (c_use hM hC) rfl (Nat.le_of_ble_eq_true rfl) (fun v M1 h1 => ?_)
  obtain ⟨rfl, hC2, hF⟩ := h1
  have hM1 := ms_60 hM hF
  refine E_aload_n dL_law_599 rfl ?_
  refine E_aload_n dL_law_600 rfl ?_
  refine E_iload_n dL_law_601 rfl ?_
  refine E_iconst (v := nI 1) dL_law_602 (by decide +kernel) ?_
  refine E_iaddN dL_law_603 ?_
  refine E_sld dL_law_604 (by omega) hL ?_
  refine E_callV (r := qX11_use) (ci := 11) (As := [.int _]) dL_law_605 mkL_91 voX11_use rfl rfl rfl ⟨Nat.le_of_ble_eq_true rfl, Nat.le_of_ble_eq_true rfl, Nat.le_of_ble_eq_true rfl, Nat.le_of_ble_eq_true rfl⟩ (m_use hM1.1 hM1.2.1) rfl (Nat.le_of_ble_eq_true rfl) (fun v M2 h2 => ?_)
  obtain ⟨rfl, hS⟩ := h2
  exact E_icmp_eq (t := 703) dL_law_608 (by decide) (fun _ => hk M2 ⟨T, p, q, ms_sb hM1 hS, cx_61 hC2 hS (by decide)⟩) (fun h => absurd rfl h)
set_option maxRecDepth 8000 in
theorem lc_19 (hI : Iv M) (hL : L ≤ 1536) (hn : n + 3 ≤ L) (hk : ∀ M2, Iv M2 → Ex g qL (tL g L xs) 703 (lsL n) [] M2) : Ex g qL (tL g L xs) 613 (lsL n) [] M := by
  obtain ⟨T, p, q, hM, hC⟩ := hI
  refine E_aload_n dL_law_613 rfl ?_
  refine E_aload_n dL_law_614 rfl ?_
  refine E_iload_n dL_law_615 rfl ?_
  refine E_iconst (v := nI 1) dL_law_616 (by decide +kernel) ?_
  refine E_iaddN dL_law_617 ?_
  refine E_sld dL_law_618 (by omega) hL ?_
  refine E_aload_n dL_law_619 rfl ?_
  refine E_iload_n dL_law_620 rfl ?_
  refine E_iconst (v := nI 2) dL_law_621 (by decide +kernel) ?_
  refine E_iaddN dL_law_622 ?_
  refine E_sld dL_law_623 (by omega) hL ?_
  refine E_callV (r := qX10_mark) (ci := 10) (As := [.int _, .int _]) dL_law_624 mkL_92 voX10_mark rfl rfl rfl ⟨Nat.le_of_ble_eq_true rfl, Nat.le_of_ble_eq_true rfl, Nat.le_of_ble_eq_true rfl, Nat.le_of_ble_eq_true rfl⟩ (c_mark hM hC) rfl (Nat.le_of_ble_eq_true rfl) (fun v M1 h1 => ?_)
  obtain ⟨rfl, hC2, hF⟩ := h1
  have hM1 := ms_60 hM hF
  refine E_aload_n dL_law_627 rfl ?_
  refine E_aload_n dL_law_628 rfl ?_
  refine E_iload_n dL_law_629 rfl ?_
  refine E_iconst (v := nI 1) dL_law_630 (by decide +kernel) ?_
  refine E_iaddN dL_law_631 ?_
  refine E_sld dL_law_632 (by omega) hL ?_
  refine E_aload_n dL_law_633 rfl ?_
  refine E_iload_n dL_law_634 rfl ?_
  refine E_iconst (v := nI 2) dL_law_635 (by decide +kernel) ?_
  refine E_iaddN dL_law_636 ?_
  refine E_sld dL_law_637 (by omega) hL ?_
  refine E_callV (r := qX11_mark) (ci := 11) (As := [.int _, .int _]) dL_law_638 mkL_95 voX11_mark rfl rfl rfl ⟨Nat.le_of_ble_eq_true rfl, Nat.le_of_ble_eq_true rfl, Nat.le_of_ble_eq_true rfl, Nat.le_of_ble_eq_true rfl⟩ (m_mark hM1.1 hM1.2.1) rfl (Nat.le_of_ble_eq_true rfl) (fun v M2 h2 => ?_)
  obtain ⟨rfl, hS⟩ := h2
  exact E_icmp_eq (t := 703) dL_law_641 (by decide) (fun _ => hk M2 ⟨T, p, q, ms_sb hM1 hS, cx_61 hC2 hS (by decide)⟩) (fun h => absurd rfl h)
set_option maxRecDepth 8000 in
theorem lc_20 (hI : Iv M) (hL : L ≤ 1536) (hn : n + 3 ≤ L) (hk : ∀ M2, Iv M2 → Ex g qL (tL g L xs) 703 (lsL n) [] M2) : Ex g qL (tL g L xs) 646 (lsL n) [] M := by
  obtain ⟨T, p, q, hM, hC⟩ := hI
  refine E_aload_n dL_law_646 rfl ?_
  refine E_aload_n dL_law_647 rfl ?_
  refine E_iload_n dL_law_648 rfl ?_
  refine E_iconst (v := nI 1) dL_law_649 (by decide +kernel) ?_
  refine E_iaddN dL_law_650 ?_
  refine E_sld dL_law_651 (by omega) hL ?_
  refine E_callV (r := qX10_whole) (ci := 10) (As := [.int _]) dL_law_652 mkL_96 voX10_whole rfl rfl rfl ⟨Nat.le_of_ble_eq_true rfl, Nat.le_of_ble_eq_true rfl, Nat.le_of_ble_eq_true rfl, Nat.le_of_ble_eq_true rfl⟩ (c_whole hM hC) rfl (Nat.le_of_ble_eq_true rfl) (fun v M1 h1 => ?_)
  obtain ⟨rfl, hC2, hF⟩ := h1
  have hM1 := ms_60 hM hF
  refine E_aload_n dL_law_655 rfl ?_
  refine E_aload_n dL_law_656 rfl ?_
  refine E_iload_n dL_law_657 rfl ?_
  refine E_iconst (v := nI 1) dL_law_658 (by decide +kernel) ?_
  refine E_iaddN dL_law_659 ?_
  refine E_sld dL_law_660 (by omega) hL ?_
  refine E_callV (r := qX11_whole) (ci := 11) (As := [.int _]) dL_law_661 mkL_99 voX11_whole rfl rfl rfl ⟨Nat.le_of_ble_eq_true rfl, Nat.le_of_ble_eq_true rfl, Nat.le_of_ble_eq_true rfl, Nat.le_of_ble_eq_true rfl⟩ (m_whole hM1.1 hM1.2.1) rfl (Nat.le_of_ble_eq_true rfl) (fun v M2 h2 => ?_)
  obtain ⟨rfl, hS⟩ := h2
  exact E_icmp_eq (t := 703) dL_law_664 (by decide) (fun _ => hk M2 ⟨T, p, q, ms_sb hM1 hS, cx_61 hC2 hS (by decide)⟩) (fun h => absurd rfl h)
set_option maxRecDepth 8000 in
theorem lc_21 (hI : Iv M) (hL : L ≤ 1536) (hn : n + 3 ≤ L) (hk : ∀ M2, Iv M2 → Ex g qL (tL g L xs) 703 (lsL n) [] M2) : Ex g qL (tL g L xs) 669 (lsL n) [] M := by
  obtain ⟨T, p, q, hM, hC⟩ := hI
  refine E_aload_n dL_law_669 rfl ?_
  refine E_aload_n dL_law_670 rfl ?_
  refine E_iload_n dL_law_671 rfl ?_
  refine E_iconst (v := nI 1) dL_law_672 (by decide +kernel) ?_
  refine E_iaddN dL_law_673 ?_
  refine E_sld dL_law_674 (by omega) hL ?_
  refine E_aload_n dL_law_675 rfl ?_
  refine E_iload_n dL_law_676 rfl ?_
  refine E_iconst (v := nI 2) dL_law_677 (by decide +kernel) ?_
  refine E_iaddN dL_law_678 ?_
  refine E_sld dL_law_679 (by omega) hL ?_
  refine E_callV (r := qX10_rows) (ci := 10) (As := [.int _, .int _]) dL_law_680 mkL_100 voX10_rows rfl rfl rfl ⟨Nat.le_of_ble_eq_true rfl, Nat.le_of_ble_eq_true rfl, Nat.le_of_ble_eq_true rfl, Nat.le_of_ble_eq_true rfl⟩ (c_rows hM hC) rfl (Nat.le_of_ble_eq_true rfl) (fun v M1 h1 => ?_)
  obtain ⟨rfl, hC2, hF⟩ := h1
  have hM1 := ms_60 hM hF
  refine E_aload_n dL_law_683 rfl ?_
  refine E_aload_n dL_law_684 rfl ?_
  refine E_iload_n dL_law_685 rfl ?_
  refine E_iconst (v := nI 1) dL_law_686 (by decide +kernel) ?_
  refine E_iaddN dL_law_687 ?_
  refine E_sld dL_law_688 (by omega) hL ?_
  refine E_aload_n dL_law_689 rfl ?_
  refine E_iload_n dL_law_690 rfl ?_
  refine E_iconst (v := nI 2) dL_law_691 (by decide +kernel) ?_
  refine E_iaddN dL_law_692 ?_
  refine E_sld dL_law_693 (by omega) hL ?_
  refine E_callV (r := qX11_rows) (ci := 11) (As := [.int _, .int _]) dL_law_694 mkL_104 voX11_rows rfl rfl rfl ⟨Nat.le_of_ble_eq_true rfl, Nat.le_of_ble_eq_true rfl, Nat.le_of_ble_eq_true rfl, Nat.le_of_ble_eq_true rfl⟩ (m_rows hM1.1 hM1.2.1) rfl (Nat.le_of_ble_eq_true rfl) (fun v M2 h2 => ?_)
  obtain ⟨rfl, hS⟩ := h2
  refine E_lcmp dL_law_697 ?_
  exact E_if_eq (t := 703) dL_law_698 (by decide) (fun _ => hk M2 ⟨T, p, q, ms_sb hM1 hS, cx_61 hC2 hS (by decide)⟩) (fun h => absurd (lg_cmp_rf _) h)
end LC
