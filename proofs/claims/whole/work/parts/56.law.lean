/-! THE LAW'S LOOP -/
abbrev mtL (nm : String) : MT := (room_1, ⟨RL, nm, "([I)Z"⟩, cL_law, 4, ret)
def Lg (k : KT) (b L : Nat) (xs : Nat → Int32) (args : Array Value) (s : State) : Prop := Sc k b L xs s ∧ args = #[Value.ref b] ∧ s.heap.size = k.2.2.2.2
abbrev ZL (k : KT) (b L : Nat) (xs : Nat → Int32) : ZT := Zg (Lg k b L xs) (fun below args s => lw_Z below args s)
theorem x_lret {nm : String} {k : KT} {b L : Nat} {xs : Nat → Int32} {pc : Nat} {lv : List (Nat × Value)} {S : HS} {cells slots : Nat} (hd : decode code pc = .ok (.ireturn, 1)) (hc : cells ≤ 600000) (hs : slots ≤ 7302250) : X k (mtL nm) (ZL k b L xs) pc lv [.int 1] S cells slots := fun p e s m args below meth c H locs ls C hl hR hS => by
  by_cases hG : Lg k b L xs args s
  · obtain ⟨h1, rfl, h3⟩ := hG
    refine W.widen hc hs (va_forget (fun q hq => by rw [h3]; exact hS.2.2 q hq) ?_)
    intro T hT X0
    obtain ⟨t, a1, b1⟩ := lw_ret (l := k.1) (b := b) C.exec C.bytes C.2.2.2.1 C.2.2.2.2.2.2.1 (ls := ls) (H := H) hd T hT X0
    exact ⟨t, a1, fun _ => b1⟩
  · exact w_none hG
theorem l_end {L i : Nat} (hL : L ≤ 2561) (hi : i ≤ 2561) (h : L < i + 5) : nI L - 5 < nI i := by
  rw [t_lt, show (nI L - 5).toInt = (L : Int) - 5 from pk_sub_toInt (b := 5) (by omega) (by omega), nI_toInt (by omega)]; omega
theorem l_go {L i : Nat} (hL : L ≤ 2561) (h : ¬ L < i + 5) : ¬ nI L - 5 < nI i := by
  rw [t_lt, show (nI L - 5).toInt = (L : Int) - 5 from pk_sub_toInt (b := 5) (by omega) (by omega), nI_toInt (by omega)]; omega
set_option maxRecDepth 100000 in
set_option maxHeartbeats 4000000 in
theorem l_law {nm : String} {k : KT} {b L x o : Nat} {xs : Nat → Int32} (hL : L ≤ 2561) (hxo : x + 5 < o) : ∀ (m t : Nat), L < 1 + 5 * (t + m) + 5 → t + m ≤ 512 → ∀ (S : HS) (σ : MS), CI k S x σ → MI S o σ → okS σ → o + 18 ≤ gN S → X k (mtL nm) (ZL k b L xs) 28 [(0, .ref b), (1, .ref x), (2, .ref o), (3, .int (nI (1 + 5 * t)))] [] S (97 + 27 * t) (4596 + 11770 * t) := by
  intro m
  induction m with
  | zero =>
    intro t ht hm S σ hCI hM hO hoN
    refine x_iload_n 3 dL_law_28 rfl ?_
    refine x_aload_n 0 dL_law_29 rfl ?_
    refine x_slen (fun _ _ h => h.1) dL_law_30 ?_
    refine x_iconst 5 dL_law_31 (by decide) ?_
    refine x_isub dL_law_32 ?_
    refine x_icmp_gt 705 dL_law_33 (by decide) (fun _ => ?_) (fun z => absurd (l_end (by omega) (by omega) (by omega)) z)
    refine x_iconst 1 dL_law_705 (by decide) ?_
    exact x_lret dL_law_706 (by omega) (by omega)
  | succ m ih =>
    intro t ht hm S σ hCI hM hO hoN
    refine x_iload_n 3 dL_law_28 rfl ?_
    refine x_aload_n 0 dL_law_29 rfl ?_
    refine x_slen (fun _ _ h => h.1) dL_law_30 ?_
    refine x_iconst 5 dL_law_31 (by decide) ?_
    refine x_isub dL_law_32 ?_
    by_cases hend : L < 1 + 5 * t + 5
    · refine x_icmp_gt 705 dL_law_33 (by decide) (fun _ => ?_) (fun z => absurd (l_end (by omega) (by omega) (by omega)) z)
      refine x_iconst 1 dL_law_705 (by decide) ?_
      exact x_lret dL_law_706 (by omega) (by omega)
    refine x_icmp_gt 705 dL_law_33 (by decide) (fun z => absurd z (l_go (by omega) (by omega))) (fun _ => ?_)
    refine x_aload_n 0 dL_law_36 rfl ?_
    refine x_iload_n 3 dL_law_37 rfl ?_
    refine x_sldN (1 + 5 * t) (fun _ _ h => h.1) dL_law_38 rfl (by omega) hL ?_
    refine x_bipush 31 dL_law_39 (by decide) ?_
    refine x_iand dL_law_41 ?_
    refine x_topi (fun y ey => ?_)
    clear ey
    have hcos : cosOk (σ.2 1) := fun j hj => hO.1.2 j hj
    have hnext : ∀ (U : HS) (τ : MS) (cells slots : Nat), CI k U x τ → MI U o τ → okS τ → o + 18 ≤ gN U → cells ≤ 97 + 27 * (t + 1) → slots ≤ 4596 + 11770 * (t + 1) → X k (mtL nm) (ZL k b L xs) 699 [(0, .ref b), (1, .ref x), (2, .ref o), (3, .int (nI (1 + 5 * t)))] [] U cells slots := by
      intro U τ cells slots h1 h2 h3 h4 h5 h6
      refine x_widen [] _ _ h5 h6 ?_
      refine x_iinc 3 (nI (1 + 5 * t) + 5) [(3, .int (nI (1 + 5 * t) + 5)), (0, .ref b), (1, .ref x), (2, .ref o)] dL_law_699 rfl rfl (Nat.le_of_ble_eq_true rfl) rfl ?_
      refine x_goto 28 dL_law_702 (by decide) ?_
      refine x_lv [(0, .ref b), (1, .ref x), (2, .ref o), (3, .int (nI (1 + 5 * (t + 1))))] [1, 2, 3, 0] (by rw [show nI (1 + 5 * (t + 1)) = nI (1 + 5 * t) + 5 from (nI_add (1 + 5 * t) 5).symm]; rfl) ?_
      exact ih (t + 1) (by omega) (by omega) U τ h1 h2 h3 h4
    obtain ⟨n, c, q, p, ca, pa, na, hI⟩ := id hCI
    by_cases c0 : y = 0
    · refine x_tableIn 90 132 dL_law_42 (by rw [c0]; decide) (by rw [c0]; decide) (by rw [c0]; rfl) (by decide) ?_
      refine x_aload_n 1 dL_law_132 rfl ?_
      refine x_aload_n 0 dL_law_133 rfl ?_
      refine x_iload_n 3 dL_law_134 rfl ?_
      refine x_iconst 1 dL_law_135 (by decide) ?_
      refine x_iadd dL_law_136 ?_
      refine x_sldN (1 + 5 * t + 1) (fun _ _ h => h.1) dL_law_137 (nI_add _ 1) (by omega) hL ?_
      refine ca_L_21 [.int (xs (1 + 5 * t + 1))] [] (c_X6_narrow (xs (1 + 5 * t + 1)) hI.l.1) hI.l.1 rfl dL_law_138 rfl rfl ⟨(Nat.le_of_ble_eq_true rfl), (Nat.le_of_ble_eq_true rfl), by show 97 + 27 * t + 0 ≤ 600000; omega, by show 4596 + 11770 * t + 0 ≤ 7302250; omega, (Nat.le_of_ble_eq_true rfl)⟩ (fun v T hq => ?_)
      obtain ⟨rfl, rfl⟩ := hq
      refine x_aload_n 2 dL_law_141 rfl ?_
      refine x_aload_n 0 dL_law_142 rfl ?_
      refine x_iload_n 3 dL_law_143 rfl ?_
      refine x_iconst 1 dL_law_144 (by decide) ?_
      refine x_iadd dL_law_145 ?_
      refine x_sldN (1 + 5 * t + 1) (fun _ _ h => h.1) dL_law_146 (nI_add _ 1) (by omega) hL ?_
      refine ca_L_25 [.int (xs (1 + 5 * t + 1))] [_] (c_X7_narrow (σ.2 1) (xs (1 + 5 * t + 1)) hM.1 (hM.r 1 (by decide))) hM.1.1 rfl dL_law_147 rfl rfl ⟨(Nat.le_of_ble_eq_true rfl), (Nat.le_of_ble_eq_true rfl), by show 97 + 27 * t + 0 ≤ 600000; omega, by show 4596 + 11770 * t + 0 ≤ 7302250; omega, (Nat.le_of_ble_eq_true rfl)⟩ (fun v U hq => ?_)
      obtain ⟨rfl, rfl⟩ := hq
      exact x_icmp_eq 699 dL_law_150 (by decide) (fun _ => hnext S σ _ _ hCI hM hO hoN (by show 97 + 27 * t + 0 ≤ 97 + 27 * (t + 1); omega) (by show 4596 + 11770 * t + 0 ≤ 4596 + 11770 * (t + 1); omega)) (fun z => absurd (narrowM_eq hcos _) z)
    by_cases c1 : y = 1
    · refine x_tableIn 113 155 dL_law_42 (by rw [c1]; decide) (by rw [c1]; decide) (by rw [c1]; rfl) (by decide) ?_
      refine x_aload_n 1 dL_law_155 rfl ?_
      refine x_aload_n 0 dL_law_156 rfl ?_
      refine x_iload_n 3 dL_law_157 rfl ?_
      refine x_iconst 1 dL_law_158 (by decide) ?_
      refine x_iadd dL_law_159 ?_
      refine x_sldN (1 + 5 * t + 1) (fun _ _ h => h.1) dL_law_160 (nI_add _ 1) (by omega) hL ?_
      refine x_aload_n 0 dL_law_161 rfl ?_
      refine x_iload_n 3 dL_law_162 rfl ?_
      refine x_iconst 2 dL_law_163 (by decide) ?_
      refine x_iadd dL_law_164 ?_
      refine x_sldN (1 + 5 * t + 2) (fun _ _ h => h.1) dL_law_165 (nI_add _ 2) (by omega) hL ?_
      refine ca_L_26 [.int (xs (1 + 5 * t + 1)), .int (xs (1 + 5 * t + 2))] [] (c_X6_across (σ.1 2) (xs (1 + 5 * t + 1)) (xs (1 + 5 * t + 2)) hI.l.1 hI.m.1.1) hI.l.1 rfl dL_law_166 rfl rfl ⟨(Nat.le_of_ble_eq_true rfl), (Nat.le_of_ble_eq_true rfl), by show 97 + 27 * t + 0 ≤ 600000; omega, by show 4596 + 11770 * t + 0 ≤ 7302250; omega, (Nat.le_of_ble_eq_true rfl)⟩ (fun v T hq => ?_)
      obtain ⟨rfl, rfl⟩ := hq
      refine x_aload_n 2 dL_law_169 rfl ?_
      refine x_aload_n 0 dL_law_170 rfl ?_
      refine x_iload_n 3 dL_law_171 rfl ?_
      refine x_iconst 1 dL_law_172 (by decide) ?_
      refine x_iadd dL_law_173 ?_
      refine x_sldN (1 + 5 * t + 1) (fun _ _ h => h.1) dL_law_174 (nI_add _ 1) (by omega) hL ?_
      refine x_aload_n 0 dL_law_175 rfl ?_
      refine x_iload_n 3 dL_law_176 rfl ?_
      refine x_iconst 2 dL_law_177 (by decide) ?_
      refine x_iadd dL_law_178 ?_
      refine x_sldN (1 + 5 * t + 2) (fun _ _ h => h.1) dL_law_179 (nI_add _ 2) (by omega) hL ?_
      refine ca_L_30 [.int (xs (1 + 5 * t + 1)), .int (xs (1 + 5 * t + 2))] [_] (c_X7_across (σ.1 2) (σ.2 1) (xs (1 + 5 * t + 1)) (xs (1 + 5 * t + 2)) hM.1 (hM.i 2 (by decide)) (hM.r 1 (by decide))) hM.1.1 rfl dL_law_180 rfl rfl ⟨(Nat.le_of_ble_eq_true rfl), (Nat.le_of_ble_eq_true rfl), by show 97 + 27 * t + 0 ≤ 600000; omega, by show 4596 + 11770 * t + 0 ≤ 7302250; omega, (Nat.le_of_ble_eq_true rfl)⟩ (fun v U hq => ?_)
      obtain ⟨rfl, rfl⟩ := hq
      exact x_icmp_eq 699 dL_law_183 (by decide) (fun _ => hnext S σ _ _ hCI hM hO hoN (by show 97 + 27 * t + 0 ≤ 97 + 27 * (t + 1); omega) (by show 4596 + 11770 * t + 0 ≤ 4596 + 11770 * (t + 1); omega)) (fun z => absurd (acrossM_eq hcos _ _ _) z)
    by_cases c2 : y = 2
    · refine x_tableIn 146 188 dL_law_42 (by rw [c2]; decide) (by rw [c2]; decide) (by rw [c2]; rfl) (by decide) ?_
      refine x_aload_n 1 dL_law_188 rfl ?_
      refine x_aload_n 0 dL_law_189 rfl ?_
      refine x_iload_n 3 dL_law_190 rfl ?_
      refine x_iconst 1 dL_law_191 (by decide) ?_
      refine x_iadd dL_law_192 ?_
      refine x_sldN (1 + 5 * t + 1) (fun _ _ h => h.1) dL_law_193 (nI_add _ 1) (by omega) hL ?_
      refine x_aload_n 0 dL_law_194 rfl ?_
      refine x_iload_n 3 dL_law_195 rfl ?_
      refine x_iconst 2 dL_law_196 (by decide) ?_
      refine x_iadd dL_law_197 ?_
      refine x_sldN (1 + 5 * t + 2) (fun _ _ h => h.1) dL_law_198 (nI_add _ 2) (by omega) hL ?_
      refine ca_L_31 [.int (xs (1 + 5 * t + 1)), .int (xs (1 + 5 * t + 2))] [] (c_X6_coast hI (xs (1 + 5 * t + 1)) (xs (1 + 5 * t + 2))) hI.l.1 rfl dL_law_199 rfl rfl ⟨(Nat.le_of_ble_eq_true rfl), (Nat.le_of_ble_eq_true rfl), by show 97 + 27 * t + 2 ≤ 600000; omega, by show 4596 + 11770 * t + 902 ≤ 7302250; omega, (Nat.le_of_ble_eq_true rfl)⟩ (fun v T hq => ?_)
      obtain ⟨rfl, hCI2, hFX⟩ := hq
      have hM2 := hM.fx hFX hoN hxo
      have hN2 := hFX.1
      refine x_aload_n 2 dL_law_202 rfl ?_
      refine x_aload_n 0 dL_law_203 rfl ?_
      refine x_iload_n 3 dL_law_204 rfl ?_
      refine x_iconst 1 dL_law_205 (by decide) ?_
      refine x_iadd dL_law_206 ?_
      refine x_sldN (1 + 5 * t + 1) (fun _ _ h => h.1) dL_law_207 (nI_add _ 1) (by omega) hL ?_
      refine x_aload_n 0 dL_law_208 rfl ?_
      refine x_iload_n 3 dL_law_209 rfl ?_
      refine x_iconst 2 dL_law_210 (by decide) ?_
      refine x_iadd dL_law_211 ?_
      refine x_sldN (1 + 5 * t + 2) (fun _ _ h => h.1) dL_law_212 (nI_add _ 2) (by omega) hL ?_
      refine ca_L_34 [.int (xs (1 + 5 * t + 1)), .int (xs (1 + 5 * t + 2))] [_] (c_X7_coast σ (xs (1 + 5 * t + 1)) (xs (1 + 5 * t + 2)) hM2 hO) hM2.1.1 rfl dL_law_213 rfl rfl ⟨(Nat.le_of_ble_eq_true rfl), (Nat.le_of_ble_eq_true rfl), by show 97 + 27 * t + 2 ≤ 600000; omega, by show 4596 + 11770 * t + 902 ≤ 7302250; omega, (Nat.le_of_ble_eq_true rfl)⟩ (fun v U hq => ?_)
      obtain ⟨rfl, hM3, hF3⟩ := hq
      exact x_icmp_eq 699 dL_law_216 (by decide) (fun _ => hnext U _ _ _ (hCI2.fm hF3) hM3 (okS_coast hO (xs (1 + 5 * t + 1)) (xs (1 + 5 * t + 2))) (by rw [hF3.2.2.2.2.2.2]; omega) (by show 97 + 27 * t + 2 ≤ 97 + 27 * (t + 1); omega) (by show 4596 + 11770 * t + 902 ≤ 4596 + 11770 * (t + 1); omega)) (fun z => absurd (rfl) z)
    by_cases c3 : y = 3
    · refine x_tableIn 179 221 dL_law_42 (by rw [c3]; decide) (by rw [c3]; decide) (by rw [c3]; rfl) (by decide) ?_
      refine x_aload_n 1 dL_law_221 rfl ?_
      refine x_aload_n 0 dL_law_222 rfl ?_
      refine x_iload_n 3 dL_law_223 rfl ?_
      refine x_iconst 1 dL_law_224 (by decide) ?_
      refine x_iadd dL_law_225 ?_
      refine x_sldN (1 + 5 * t + 1) (fun _ _ h => h.1) dL_law_226 (nI_add _ 1) (by omega) hL ?_
      refine x_aload_n 0 dL_law_227 rfl ?_
      refine x_iload_n 3 dL_law_228 rfl ?_
      refine x_iconst 2 dL_law_229 (by decide) ?_
      refine x_iadd dL_law_230 ?_
      refine x_sldN (1 + 5 * t + 2) (fun _ _ h => h.1) dL_law_231 (nI_add _ 2) (by omega) hL ?_
      refine x_aload_n 0 dL_law_232 rfl ?_
      refine x_iload_n 3 dL_law_233 rfl ?_
      refine x_iconst 3 dL_law_234 (by decide) ?_
      refine x_iadd dL_law_235 ?_
      refine x_sldN (1 + 5 * t + 3) (fun _ _ h => h.1) dL_law_236 (nI_add _ 3) (by omega) hL ?_
      refine ca_L_35 [.int (xs (1 + 5 * t + 1)), .int (xs (1 + 5 * t + 2)), .int (xs (1 + 5 * t + 3))] [] (c_X6_to hI hO (xs (1 + 5 * t + 1)) (xs (1 + 5 * t + 2)) (xs (1 + 5 * t + 3))) hI.l.1 rfl dL_law_237 rfl rfl ⟨(Nat.le_of_ble_eq_true rfl), (Nat.le_of_ble_eq_true rfl), by show 97 + 27 * t + 27 ≤ 600000; omega, by show 4596 + 11770 * t + 11770 ≤ 7302250; omega, (Nat.le_of_ble_eq_true rfl)⟩ (fun v T hq => ?_)
      obtain ⟨rfl, hCI2, hFX⟩ := hq
      have hM2 := hM.fx hFX hoN hxo
      have hN2 := hFX.1
      have hq6 : ∃ c9 : Nat, c9 ≤ 600 ∧ (h_X7_to σ (xs (1 + 5 * t + 1)) (xs (1 + 5 * t + 2)) (xs (1 + 5 * t + 3))).2.1 6 = nI c9 := by obtain ⟨_, _, q9, _, _, _, _, h9⟩ := hCI2; exact ⟨q9, h9.q1⟩
      refine x_aload_n 2 dL_law_240 rfl ?_
      refine x_aload_n 0 dL_law_241 rfl ?_
      refine x_iload_n 3 dL_law_242 rfl ?_
      refine x_iconst 1 dL_law_243 (by decide) ?_
      refine x_iadd dL_law_244 ?_
      refine x_sldN (1 + 5 * t + 1) (fun _ _ h => h.1) dL_law_245 (nI_add _ 1) (by omega) hL ?_
      refine x_aload_n 0 dL_law_246 rfl ?_
      refine x_iload_n 3 dL_law_247 rfl ?_
      refine x_iconst 2 dL_law_248 (by decide) ?_
      refine x_iadd dL_law_249 ?_
      refine x_sldN (1 + 5 * t + 2) (fun _ _ h => h.1) dL_law_250 (nI_add _ 2) (by omega) hL ?_
      refine x_aload_n 0 dL_law_251 rfl ?_
      refine x_iload_n 3 dL_law_252 rfl ?_
      refine x_iconst 3 dL_law_253 (by decide) ?_
      refine x_iadd dL_law_254 ?_
      refine x_sldN (1 + 5 * t + 3) (fun _ _ h => h.1) dL_law_255 (nI_add _ 3) (by omega) hL ?_
      refine ca_L_39 [.int (xs (1 + 5 * t + 1)), .int (xs (1 + 5 * t + 2)), .int (xs (1 + 5 * t + 3))] [_] (c_X7_to σ (xs (1 + 5 * t + 1)) (xs (1 + 5 * t + 2)) (xs (1 + 5 * t + 3)) hM2 hO) hM2.1.1 rfl dL_law_256 rfl rfl ⟨(Nat.le_of_ble_eq_true rfl), (Nat.le_of_ble_eq_true rfl), by show 97 + 27 * t + 27 ≤ 600000; omega, by show 4596 + 11770 * t + 11770 ≤ 7302250; omega, (Nat.le_of_ble_eq_true rfl)⟩ (fun v U hq => ?_)
      obtain ⟨rfl, hM3, hF3⟩ := hq
      exact x_icmp_eq 699 dL_law_259 (by decide) (fun _ => hnext U _ _ _ (hCI2.fm hF3) hM3 (okS_to hO (xs (1 + 5 * t + 1)) (xs (1 + 5 * t + 2)) (xs (1 + 5 * t + 3)) hq6) (by rw [hF3.2.2.2.2.2.2]; omega) (by show 97 + 27 * t + 27 ≤ 97 + 27 * (t + 1); omega) (by show 4596 + 11770 * t + 11770 ≤ 4596 + 11770 * (t + 1); omega)) (fun z => absurd (rfl) z)
    by_cases c4 : y = 4
    · refine x_tableIn 222 264 dL_law_42 (by rw [c4]; decide) (by rw [c4]; decide) (by rw [c4]; rfl) (by decide) ?_
      refine x_aload_n 1 dL_law_264 rfl ?_
      refine x_aload_n 0 dL_law_265 rfl ?_
      refine x_iload_n 3 dL_law_266 rfl ?_
      refine x_iconst 1 dL_law_267 (by decide) ?_
      refine x_iadd dL_law_268 ?_
      refine x_sldN (1 + 5 * t + 1) (fun _ _ h => h.1) dL_law_269 (nI_add _ 1) (by omega) hL ?_
      refine ca_L_40 [.int (xs (1 + 5 * t + 1))] [] (c_X6_pieces hI (xs (1 + 5 * t + 1))) hI.l.1 rfl dL_law_270 rfl rfl ⟨(Nat.le_of_ble_eq_true rfl), (Nat.le_of_ble_eq_true rfl), by show 97 + 27 * t + 0 ≤ 600000; omega, by show 4596 + 11770 * t + 0 ≤ 7302250; omega, (Nat.le_of_ble_eq_true rfl)⟩ (fun v T hq => ?_)
      obtain ⟨rfl, rfl⟩ := hq
      refine x_aload_n 2 dL_law_273 rfl ?_
      refine x_aload_n 0 dL_law_274 rfl ?_
      refine x_iload_n 3 dL_law_275 rfl ?_
      refine x_iconst 1 dL_law_276 (by decide) ?_
      refine x_iadd dL_law_277 ?_
      refine x_sldN (1 + 5 * t + 1) (fun _ _ h => h.1) dL_law_278 (nI_add _ 1) (by omega) hL ?_
      refine ca_L_43 [.int (xs (1 + 5 * t + 1))] [_] (c_X7_pieces σ (xs (1 + 5 * t + 1)) hM hO) hM.1.1 rfl dL_law_279 rfl rfl ⟨(Nat.le_of_ble_eq_true rfl), (Nat.le_of_ble_eq_true rfl), by show 97 + 27 * t + 0 ≤ 600000; omega, by show 4596 + 11770 * t + 0 ≤ 7302250; omega, (Nat.le_of_ble_eq_true rfl)⟩ (fun v U hq => ?_)
      obtain ⟨rfl, rfl⟩ := hq
      exact x_icmp_eq 699 dL_law_282 (by decide) (fun _ => hnext S σ _ _ hCI hM hO hoN (by show 97 + 27 * t + 0 ≤ 97 + 27 * (t + 1); omega) (by show 4596 + 11770 * t + 0 ≤ 4596 + 11770 * (t + 1); omega)) (fun z => absurd (rfl) z)
    by_cases c5 : y = 5
    · refine x_tableIn 245 287 dL_law_42 (by rw [c5]; decide) (by rw [c5]; decide) (by rw [c5]; rfl) (by decide) ?_
      refine x_aload_n 1 dL_law_287 rfl ?_
      refine x_aload_n 0 dL_law_288 rfl ?_
      refine x_iload_n 3 dL_law_289 rfl ?_
      refine x_iconst 1 dL_law_290 (by decide) ?_
      refine x_iadd dL_law_291 ?_
      refine x_sldN (1 + 5 * t + 1) (fun _ _ h => h.1) dL_law_292 (nI_add _ 1) (by omega) hL ?_
      refine x_aload_n 0 dL_law_293 rfl ?_
      refine x_iload_n 3 dL_law_294 rfl ?_
      refine x_iconst 2 dL_law_295 (by decide) ?_
      refine x_iadd dL_law_296 ?_
      refine x_sldN (1 + 5 * t + 2) (fun _ _ h => h.1) dL_law_297 (nI_add _ 2) (by omega) hL ?_
      refine x_aload_n 0 dL_law_298 rfl ?_
      refine x_iload_n 3 dL_law_299 rfl ?_
      refine x_iconst 3 dL_law_300 (by decide) ?_
      refine x_iadd dL_law_301 ?_
      refine x_sldN (1 + 5 * t + 3) (fun _ _ h => h.1) dL_law_302 (nI_add _ 3) (by omega) hL ?_
      refine ca_L_44 [.int (xs (1 + 5 * t + 1)), .int (xs (1 + 5 * t + 2)), .int (xs (1 + 5 * t + 3))] [] (c_X6_piece hI (xs (1 + 5 * t + 1)) (xs (1 + 5 * t + 2)) (xs (1 + 5 * t + 3))) hI.l.1 rfl dL_law_303 rfl rfl ⟨(Nat.le_of_ble_eq_true rfl), (Nat.le_of_ble_eq_true rfl), by show 97 + 27 * t + 0 ≤ 600000; omega, by show 4596 + 11770 * t + 0 ≤ 7302250; omega, (Nat.le_of_ble_eq_true rfl)⟩ (fun v T hq => ?_)
      obtain ⟨rfl, rfl⟩ := hq
      refine x_aload_n 2 dL_law_306 rfl ?_
      refine x_aload_n 0 dL_law_307 rfl ?_
      refine x_iload_n 3 dL_law_308 rfl ?_
      refine x_iconst 1 dL_law_309 (by decide) ?_
      refine x_iadd dL_law_310 ?_
      refine x_sldN (1 + 5 * t + 1) (fun _ _ h => h.1) dL_law_311 (nI_add _ 1) (by omega) hL ?_
      refine x_aload_n 0 dL_law_312 rfl ?_
      refine x_iload_n 3 dL_law_313 rfl ?_
      refine x_iconst 2 dL_law_314 (by decide) ?_
      refine x_iadd dL_law_315 ?_
      refine x_sldN (1 + 5 * t + 2) (fun _ _ h => h.1) dL_law_316 (nI_add _ 2) (by omega) hL ?_
      refine x_aload_n 0 dL_law_317 rfl ?_
      refine x_iload_n 3 dL_law_318 rfl ?_
      refine x_iconst 3 dL_law_319 (by decide) ?_
      refine x_iadd dL_law_320 ?_
      refine x_sldN (1 + 5 * t + 3) (fun _ _ h => h.1) dL_law_321 (nI_add _ 3) (by omega) hL ?_
      refine ca_L_47 [.int (xs (1 + 5 * t + 1)), .int (xs (1 + 5 * t + 2)), .int (xs (1 + 5 * t + 3))] [_] (c_X7_piece σ (xs (1 + 5 * t + 1)) (xs (1 + 5 * t + 2)) (xs (1 + 5 * t + 3)) hM hO) hM.1.1 rfl dL_law_322 rfl rfl ⟨(Nat.le_of_ble_eq_true rfl), (Nat.le_of_ble_eq_true rfl), by show 97 + 27 * t + 0 ≤ 600000; omega, by show 4596 + 11770 * t + 0 ≤ 7302250; omega, (Nat.le_of_ble_eq_true rfl)⟩ (fun v U hq => ?_)
      obtain ⟨rfl, rfl⟩ := hq
      exact x_icmp_eq 699 dL_law_325 (by decide) (fun _ => hnext S σ _ _ hCI hM hO hoN (by show 97 + 27 * t + 0 ≤ 97 + 27 * (t + 1); omega) (by show 4596 + 11770 * t + 0 ≤ 4596 + 11770 * (t + 1); omega)) (fun z => absurd (rfl) z)
    by_cases c6 : y = 6
    · refine x_tableIn 288 330 dL_law_42 (by rw [c6]; decide) (by rw [c6]; decide) (by rw [c6]; rfl) (by decide) ?_
      refine x_aload_n 1 dL_law_330 rfl ?_
      refine x_aload_n 0 dL_law_331 rfl ?_
      refine x_iload_n 3 dL_law_332 rfl ?_
      refine x_iconst 1 dL_law_333 (by decide) ?_
      refine x_iadd dL_law_334 ?_
      refine x_sldN (1 + 5 * t + 1) (fun _ _ h => h.1) dL_law_335 (nI_add _ 1) (by omega) hL ?_
      refine x_aload_n 0 dL_law_336 rfl ?_
      refine x_iload_n 3 dL_law_337 rfl ?_
      refine x_iconst 2 dL_law_338 (by decide) ?_
      refine x_iadd dL_law_339 ?_
      refine x_sldN (1 + 5 * t + 2) (fun _ _ h => h.1) dL_law_340 (nI_add _ 2) (by omega) hL ?_
      refine ca_L_48 [.int (xs (1 + 5 * t + 1)), .int (xs (1 + 5 * t + 2))] [] (c_X6_paper hI (xs (1 + 5 * t + 1)) (xs (1 + 5 * t + 2))) hI.l.1 rfl dL_law_341 rfl rfl ⟨(Nat.le_of_ble_eq_true rfl), (Nat.le_of_ble_eq_true rfl), by show 97 + 27 * t + 0 ≤ 600000; omega, by show 4596 + 11770 * t + 0 ≤ 7302250; omega, (Nat.le_of_ble_eq_true rfl)⟩ (fun v T hq => ?_)
      obtain ⟨rfl, hCI2, hFX⟩ := hq
      have hM2 := hM.fx hFX hoN hxo
      have hN2 := hFX.1
      refine x_aload_n 2 dL_law_344 rfl ?_
      refine x_aload_n 0 dL_law_345 rfl ?_
      refine x_iload_n 3 dL_law_346 rfl ?_
      refine x_iconst 1 dL_law_347 (by decide) ?_
      refine x_iadd dL_law_348 ?_
      refine x_sldN (1 + 5 * t + 1) (fun _ _ h => h.1) dL_law_349 (nI_add _ 1) (by omega) hL ?_
      refine x_aload_n 0 dL_law_350 rfl ?_
      refine x_iload_n 3 dL_law_351 rfl ?_
      refine x_iconst 2 dL_law_352 (by decide) ?_
      refine x_iadd dL_law_353 ?_
      refine x_sldN (1 + 5 * t + 2) (fun _ _ h => h.1) dL_law_354 (nI_add _ 2) (by omega) hL ?_
      refine ca_L_52 [.int (xs (1 + 5 * t + 1)), .int (xs (1 + 5 * t + 2))] [_] (c_X7_paper σ (xs (1 + 5 * t + 1)) (xs (1 + 5 * t + 2)) hM2 hO) hM2.1.1 rfl dL_law_355 rfl rfl ⟨(Nat.le_of_ble_eq_true rfl), (Nat.le_of_ble_eq_true rfl), by show 97 + 27 * t + 0 ≤ 600000; omega, by show 4596 + 11770 * t + 0 ≤ 7302250; omega, (Nat.le_of_ble_eq_true rfl)⟩ (fun v U hq => ?_)
      obtain ⟨rfl, hM3, hF3⟩ := hq
      exact x_icmp_eq 699 dL_law_358 (by decide) (fun _ => hnext U _ _ _ (hCI2.fm hF3) hM3 (okS_paper hO (xs (1 + 5 * t + 1)) (xs (1 + 5 * t + 2))) (by rw [hF3.2.2.2.2.2.2]; omega) (by show 97 + 27 * t + 0 ≤ 97 + 27 * (t + 1); omega) (by show 4596 + 11770 * t + 0 ≤ 4596 + 11770 * (t + 1); omega)) (fun z => absurd (rfl) z)
    by_cases c7 : y = 7
    · refine x_tableIn 321 363 dL_law_42 (by rw [c7]; decide) (by rw [c7]; decide) (by rw [c7]; rfl) (by decide) ?_
      refine x_aload_n 1 dL_law_363 rfl ?_
      refine x_aload_n 0 dL_law_364 rfl ?_
      refine x_iload_n 3 dL_law_365 rfl ?_
      refine x_iconst 1 dL_law_366 (by decide) ?_
      refine x_iadd dL_law_367 ?_
      refine x_sldN (1 + 5 * t + 1) (fun _ _ h => h.1) dL_law_368 (nI_add _ 1) (by omega) hL ?_
      refine x_aload_n 0 dL_law_369 rfl ?_
      refine x_iload_n 3 dL_law_370 rfl ?_
      refine x_iconst 2 dL_law_371 (by decide) ?_
      refine x_iadd dL_law_372 ?_
      refine x_sldN (1 + 5 * t + 2) (fun _ _ h => h.1) dL_law_373 (nI_add _ 2) (by omega) hL ?_
      refine ca_L_53 [.int (xs (1 + 5 * t + 1)), .int (xs (1 + 5 * t + 2))] [] (c_X6_drawn (σ.1 10) (σ.1 11) (xs (1 + 5 * t + 1)) (xs (1 + 5 * t + 2)) hI.l.1 hI.m.1.2.2.1 hI.m.1.2.2.2.1) hI.l.1 rfl dL_law_374 rfl rfl ⟨(Nat.le_of_ble_eq_true rfl), (Nat.le_of_ble_eq_true rfl), by show 97 + 27 * t + 0 ≤ 600000; omega, by show 4596 + 11770 * t + 0 ≤ 7302250; omega, (Nat.le_of_ble_eq_true rfl)⟩ (fun v T hq => ?_)
      obtain ⟨rfl, rfl⟩ := hq
      refine x_aload_n 2 dL_law_377 rfl ?_
      refine x_aload_n 0 dL_law_378 rfl ?_
      refine x_iload_n 3 dL_law_379 rfl ?_
      refine x_iconst 1 dL_law_380 (by decide) ?_
      refine x_iadd dL_law_381 ?_
      refine x_sldN (1 + 5 * t + 1) (fun _ _ h => h.1) dL_law_382 (nI_add _ 1) (by omega) hL ?_
      refine x_aload_n 0 dL_law_383 rfl ?_
      refine x_iload_n 3 dL_law_384 rfl ?_
      refine x_iconst 2 dL_law_385 (by decide) ?_
      refine x_iadd dL_law_386 ?_
      refine x_sldN (1 + 5 * t + 2) (fun _ _ h => h.1) dL_law_387 (nI_add _ 2) (by omega) hL ?_
      refine ca_L_56 [.int (xs (1 + 5 * t + 1)), .int (xs (1 + 5 * t + 2))] [_] (c_X7_drawn (σ.1 10) (σ.1 11) (xs (1 + 5 * t + 1)) (xs (1 + 5 * t + 2)) hM.1 (hM.i 10 (by decide)) (hM.i 11 (by decide)) hO.2.2.1.1 hO.2.2.1.2) hM.1.1 rfl dL_law_388 rfl rfl ⟨(Nat.le_of_ble_eq_true rfl), (Nat.le_of_ble_eq_true rfl), by show 97 + 27 * t + 0 ≤ 600000; omega, by show 4596 + 11770 * t + 0 ≤ 7302250; omega, (Nat.le_of_ble_eq_true rfl)⟩ (fun v U hq => ?_)
      obtain ⟨rfl, rfl⟩ := hq
      exact x_icmp_eq 699 dL_law_391 (by decide) (fun _ => hnext S σ _ _ hCI hM hO hoN (by show 97 + 27 * t + 0 ≤ 97 + 27 * (t + 1); omega) (by show 4596 + 11770 * t + 0 ≤ 4596 + 11770 * (t + 1); omega)) (fun z => absurd (drawnM_eq hO.2.2.1.1 hO.2.2.1.2 _ _) z)
    by_cases c8 : y = 8
    · refine x_tableIn 354 396 dL_law_42 (by rw [c8]; decide) (by rw [c8]; decide) (by rw [c8]; rfl) (by decide) ?_
      refine x_aload_n 1 dL_law_396 rfl ?_
      refine x_aload_n 0 dL_law_397 rfl ?_
      refine x_iload_n 3 dL_law_398 rfl ?_
      refine x_iconst 1 dL_law_399 (by decide) ?_
      refine x_iadd dL_law_400 ?_
      refine x_sldN (1 + 5 * t + 1) (fun _ _ h => h.1) dL_law_401 (nI_add _ 1) (by omega) hL ?_
      refine x_aload_n 0 dL_law_402 rfl ?_
      refine x_iload_n 3 dL_law_403 rfl ?_
      refine x_iconst 2 dL_law_404 (by decide) ?_
      refine x_iadd dL_law_405 ?_
      refine x_sldN (1 + 5 * t + 2) (fun _ _ h => h.1) dL_law_406 (nI_add _ 2) (by omega) hL ?_
      refine ca_L_57 [.int (xs (1 + 5 * t + 1)), .int (xs (1 + 5 * t + 2))] [] (c_X6_wet (σ.1 10) (σ.1 11) (xs (1 + 5 * t + 1)) (xs (1 + 5 * t + 2)) hI.l.1 hI.m.1.2.2.1 hI.m.1.2.2.2.1) hI.l.1 rfl dL_law_407 rfl rfl ⟨(Nat.le_of_ble_eq_true rfl), (Nat.le_of_ble_eq_true rfl), by show 97 + 27 * t + 0 ≤ 600000; omega, by show 4596 + 11770 * t + 0 ≤ 7302250; omega, (Nat.le_of_ble_eq_true rfl)⟩ (fun v T hq => ?_)
      obtain ⟨rfl, rfl⟩ := hq
      refine x_aload_n 2 dL_law_410 rfl ?_
      refine x_aload_n 0 dL_law_411 rfl ?_
      refine x_iload_n 3 dL_law_412 rfl ?_
      refine x_iconst 1 dL_law_413 (by decide) ?_
      refine x_iadd dL_law_414 ?_
      refine x_sldN (1 + 5 * t + 1) (fun _ _ h => h.1) dL_law_415 (nI_add _ 1) (by omega) hL ?_
      refine x_aload_n 0 dL_law_416 rfl ?_
      refine x_iload_n 3 dL_law_417 rfl ?_
      refine x_iconst 2 dL_law_418 (by decide) ?_
      refine x_iadd dL_law_419 ?_
      refine x_sldN (1 + 5 * t + 2) (fun _ _ h => h.1) dL_law_420 (nI_add _ 2) (by omega) hL ?_
      refine ca_L_60 [.int (xs (1 + 5 * t + 1)), .int (xs (1 + 5 * t + 2))] [_] (c_X7_wet (σ.1 10) (σ.1 11) (xs (1 + 5 * t + 1)) (xs (1 + 5 * t + 2)) hM.1 (hM.i 10 (by decide)) (hM.i 11 (by decide))) hM.1.1 rfl dL_law_421 rfl rfl ⟨(Nat.le_of_ble_eq_true rfl), (Nat.le_of_ble_eq_true rfl), by show 97 + 27 * t + 0 ≤ 600000; omega, by show 4596 + 11770 * t + 0 ≤ 7302250; omega, (Nat.le_of_ble_eq_true rfl)⟩ (fun v U hq => ?_)
      obtain ⟨rfl, rfl⟩ := hq
      exact x_icmp_eq 699 dL_law_424 (by decide) (fun _ => hnext S σ _ _ hCI hM hO hoN (by show 97 + 27 * t + 0 ≤ 97 + 27 * (t + 1); omega) (by show 4596 + 11770 * t + 0 ≤ 4596 + 11770 * (t + 1); omega)) (fun z => absurd (wetM_eq _ _) z)
    by_cases c9 : y = 9
    · refine x_tableIn 387 429 dL_law_42 (by rw [c9]; decide) (by rw [c9]; decide) (by rw [c9]; rfl) (by decide) ?_
      refine x_aload_n 1 dL_law_429 rfl ?_
      refine x_aload_n 0 dL_law_430 rfl ?_
      refine x_iload_n 3 dL_law_431 rfl ?_
      refine x_iconst 1 dL_law_432 (by decide) ?_
      refine x_iadd dL_law_433 ?_
      refine x_sldN (1 + 5 * t + 1) (fun _ _ h => h.1) dL_law_434 (nI_add _ 1) (by omega) hL ?_
      refine x_aload_n 0 dL_law_435 rfl ?_
      refine x_iload_n 3 dL_law_436 rfl ?_
      refine x_iconst 2 dL_law_437 (by decide) ?_
      refine x_iadd dL_law_438 ?_
      refine x_sldN (1 + 5 * t + 2) (fun _ _ h => h.1) dL_law_439 (nI_add _ 2) (by omega) hL ?_
      refine x_aload_n 0 dL_law_440 rfl ?_
      refine x_iload_n 3 dL_law_441 rfl ?_
      refine x_iconst 3 dL_law_442 (by decide) ?_
      refine x_iadd dL_law_443 ?_
      refine x_sldN (1 + 5 * t + 3) (fun _ _ h => h.1) dL_law_444 (nI_add _ 3) (by omega) hL ?_
      refine x_aload_n 0 dL_law_445 rfl ?_
      refine x_iload_n 3 dL_law_446 rfl ?_
      refine x_iconst 4 dL_law_447 (by decide) ?_
      refine x_iadd dL_law_448 ?_
      refine x_sldN (1 + 5 * t + 4) (fun _ _ h => h.1) dL_law_449 (nI_add _ 4) (by omega) hL ?_
      refine ca_L_61 [.int (xs (1 + 5 * t + 1)), .int (xs (1 + 5 * t + 2)), .int (xs (1 + 5 * t + 3)), .int (xs (1 + 5 * t + 4))] [] (c_X6_name hI hO (xs (1 + 5 * t + 1)) (xs (1 + 5 * t + 2)) (xs (1 + 5 * t + 3)) (xs (1 + 5 * t + 4))) hI.l.1 rfl dL_law_450 rfl rfl ⟨(Nat.le_of_ble_eq_true rfl), (Nat.le_of_ble_eq_true rfl), by show 97 + 27 * t + 3 ≤ 600000; omega, by show 4596 + 11770 * t + 1809 ≤ 7302250; omega, (Nat.le_of_ble_eq_true rfl)⟩ (fun v T hq => ?_)
      obtain ⟨rfl, hCI2, hFX⟩ := hq
      have hM2 := hM.fx hFX hoN hxo
      have hN2 := hFX.1
      refine x_aload_n 2 dL_law_453 rfl ?_
      refine x_aload_n 0 dL_law_454 rfl ?_
      refine x_iload_n 3 dL_law_455 rfl ?_
      refine x_iconst 1 dL_law_456 (by decide) ?_
      refine x_iadd dL_law_457 ?_
      refine x_sldN (1 + 5 * t + 1) (fun _ _ h => h.1) dL_law_458 (nI_add _ 1) (by omega) hL ?_
      refine x_aload_n 0 dL_law_459 rfl ?_
      refine x_iload_n 3 dL_law_460 rfl ?_
      refine x_iconst 2 dL_law_461 (by decide) ?_
      refine x_iadd dL_law_462 ?_
      refine x_sldN (1 + 5 * t + 2) (fun _ _ h => h.1) dL_law_463 (nI_add _ 2) (by omega) hL ?_
      refine x_aload_n 0 dL_law_464 rfl ?_
      refine x_iload_n 3 dL_law_465 rfl ?_
      refine x_iconst 3 dL_law_466 (by decide) ?_
      refine x_iadd dL_law_467 ?_
      refine x_sldN (1 + 5 * t + 3) (fun _ _ h => h.1) dL_law_468 (nI_add _ 3) (by omega) hL ?_
      refine x_aload_n 0 dL_law_469 rfl ?_
      refine x_iload_n 3 dL_law_470 rfl ?_
      refine x_iconst 4 dL_law_471 (by decide) ?_
      refine x_iadd dL_law_472 ?_
      refine x_sldN (1 + 5 * t + 4) (fun _ _ h => h.1) dL_law_473 (nI_add _ 4) (by omega) hL ?_
      refine ca_L_65 [.int (xs (1 + 5 * t + 1)), .int (xs (1 + 5 * t + 2)), .int (xs (1 + 5 * t + 3)), .int (xs (1 + 5 * t + 4))] [_] (c_X7_name σ (xs (1 + 5 * t + 1)) (xs (1 + 5 * t + 2)) (xs (1 + 5 * t + 3)) (xs (1 + 5 * t + 4)) hM2 hO) hM2.1.1 rfl dL_law_474 rfl rfl ⟨(Nat.le_of_ble_eq_true rfl), (Nat.le_of_ble_eq_true rfl), by show 97 + 27 * t + 3 ≤ 600000; omega, by show 4596 + 11770 * t + 1809 ≤ 7302250; omega, (Nat.le_of_ble_eq_true rfl)⟩ (fun v U hq => ?_)
      obtain ⟨rfl, hM3, hF3⟩ := hq
      exact x_icmp_eq 699 dL_law_477 (by decide) (fun _ => hnext U _ _ _ (hCI2.fm hF3) hM3 (okS_name hO (xs (1 + 5 * t + 1)) (xs (1 + 5 * t + 2)) (xs (1 + 5 * t + 3)) (xs (1 + 5 * t + 4))) (by rw [hF3.2.2.2.2.2.2]; omega) (by show 97 + 27 * t + 3 ≤ 97 + 27 * (t + 1); omega) (by show 4596 + 11770 * t + 1809 ≤ 4596 + 11770 * (t + 1); omega)) (fun z => absurd (rfl) z)
    by_cases c10 : y = 10
    · refine x_tableIn 440 482 dL_law_42 (by rw [c10]; decide) (by rw [c10]; decide) (by rw [c10]; rfl) (by decide) ?_
      refine x_aload_n 1 dL_law_482 rfl ?_
      refine x_aload_n 0 dL_law_483 rfl ?_
      refine x_iload_n 3 dL_law_484 rfl ?_
      refine x_iconst 1 dL_law_485 (by decide) ?_
      refine x_iadd dL_law_486 ?_
      refine x_sldN (1 + 5 * t + 1) (fun _ _ h => h.1) dL_law_487 (nI_add _ 1) (by omega) hL ?_
      refine ca_L_66 [.int (xs (1 + 5 * t + 1))] [] (c_X6_strike hI hO (xs (1 + 5 * t + 1))) hI.l.1 rfl dL_law_488 rfl rfl ⟨(Nat.le_of_ble_eq_true rfl), (Nat.le_of_ble_eq_true rfl), by show 97 + 27 * t + 0 ≤ 600000; omega, by show 4596 + 11770 * t + 0 ≤ 7302250; omega, (Nat.le_of_ble_eq_true rfl)⟩ (fun v T hq => ?_)
      obtain ⟨rfl, hCI2, hFX⟩ := hq
      have hM2 := hM.fx hFX hoN hxo
      have hN2 := hFX.1
      refine x_aload_n 2 dL_law_491 rfl ?_
      refine x_aload_n 0 dL_law_492 rfl ?_
      refine x_iload_n 3 dL_law_493 rfl ?_
      refine x_iconst 1 dL_law_494 (by decide) ?_
      refine x_iadd dL_law_495 ?_
      refine x_sldN (1 + 5 * t + 1) (fun _ _ h => h.1) dL_law_496 (nI_add _ 1) (by omega) hL ?_
      refine ca_L_70 [.int (xs (1 + 5 * t + 1))] [_] (c_X7_strike σ (xs (1 + 5 * t + 1)) hM2 hO) hM2.1.1 rfl dL_law_497 rfl rfl ⟨(Nat.le_of_ble_eq_true rfl), (Nat.le_of_ble_eq_true rfl), by show 97 + 27 * t + 0 ≤ 600000; omega, by show 4596 + 11770 * t + 0 ≤ 7302250; omega, (Nat.le_of_ble_eq_true rfl)⟩ (fun v U hq => ?_)
      obtain ⟨rfl, hM3, hF3⟩ := hq
      exact x_icmp_eq 699 dL_law_500 (by decide) (fun _ => hnext U _ _ _ (hCI2.fm hF3) hM3 (okS_strike hO (xs (1 + 5 * t + 1))) (by rw [hF3.2.2.2.2.2.2]; omega) (by show 97 + 27 * t + 0 ≤ 97 + 27 * (t + 1); omega) (by show 4596 + 11770 * t + 0 ≤ 4596 + 11770 * (t + 1); omega)) (fun z => absurd (rfl) z)
    by_cases c11 : y = 11
    · refine x_tableIn 463 505 dL_law_42 (by rw [c11]; decide) (by rw [c11]; decide) (by rw [c11]; rfl) (by decide) ?_
      refine x_aload_n 1 dL_law_505 rfl ?_
      refine x_aload_n 0 dL_law_506 rfl ?_
      refine x_iload_n 3 dL_law_507 rfl ?_
      refine x_iconst 1 dL_law_508 (by decide) ?_
      refine x_iadd dL_law_509 ?_
      refine x_sldN (1 + 5 * t + 1) (fun _ _ h => h.1) dL_law_510 (nI_add _ 1) (by omega) hL ?_
      refine x_aload_n 0 dL_law_511 rfl ?_
      refine x_iload_n 3 dL_law_512 rfl ?_
      refine x_iconst 2 dL_law_513 (by decide) ?_
      refine x_iadd dL_law_514 ?_
      refine x_sldN (1 + 5 * t + 2) (fun _ _ h => h.1) dL_law_515 (nI_add _ 2) (by omega) hL ?_
      refine ca_L_71 [.int (xs (1 + 5 * t + 1)), .int (xs (1 + 5 * t + 2))] [] (c_X6_may hI (xs (1 + 5 * t + 1)) (xs (1 + 5 * t + 2))) hI.l.1 rfl dL_law_516 rfl rfl ⟨(Nat.le_of_ble_eq_true rfl), (Nat.le_of_ble_eq_true rfl), by show 97 + 27 * t + 0 ≤ 600000; omega, by show 4596 + 11770 * t + 0 ≤ 7302250; omega, (Nat.le_of_ble_eq_true rfl)⟩ (fun v T hq => ?_)
      obtain ⟨rfl, rfl⟩ := hq
      refine x_aload_n 2 dL_law_519 rfl ?_
      refine x_aload_n 0 dL_law_520 rfl ?_
      refine x_iload_n 3 dL_law_521 rfl ?_
      refine x_iconst 1 dL_law_522 (by decide) ?_
      refine x_iadd dL_law_523 ?_
      refine x_sldN (1 + 5 * t + 1) (fun _ _ h => h.1) dL_law_524 (nI_add _ 1) (by omega) hL ?_
      refine x_aload_n 0 dL_law_525 rfl ?_
      refine x_iload_n 3 dL_law_526 rfl ?_
      refine x_iconst 2 dL_law_527 (by decide) ?_
      refine x_iadd dL_law_528 ?_
      refine x_sldN (1 + 5 * t + 2) (fun _ _ h => h.1) dL_law_529 (nI_add _ 2) (by omega) hL ?_
      refine ca_L_74 [.int (xs (1 + 5 * t + 1)), .int (xs (1 + 5 * t + 2))] [_] (c_X7_may (σ.1 12) (σ.1 2) (σ.2 1) (σ.2 9) (σ.2 10) (σ.2 11) (σ.2 7) (xs (1 + 5 * t + 1)) (xs (1 + 5 * t + 2)) hM.1 (hM.i 12 (by decide)) (hM.i 2 (by decide)) (hM.r 1 (by decide)) (hM.r 9 (by decide)) (hM.r 10 (by decide)) (hM.r 11 (by decide)) (hM.r 7 (by decide)) hO.nm2.1 hO.nm2.2 hO.hi) hM.1.1 rfl dL_law_530 rfl rfl ⟨(Nat.le_of_ble_eq_true rfl), (Nat.le_of_ble_eq_true rfl), by show 97 + 27 * t + 0 ≤ 600000; omega, by show 4596 + 11770 * t + 0 ≤ 7302250; omega, (Nat.le_of_ble_eq_true rfl)⟩ (fun v U hq => ?_)
      obtain ⟨rfl, rfl⟩ := hq
      exact x_icmp_eq 699 dL_law_533 (by decide) (fun _ => hnext S σ _ _ hCI hM hO hoN (by show 97 + 27 * t + 0 ≤ 97 + 27 * (t + 1); omega) (by show 4596 + 11770 * t + 0 ≤ 4596 + 11770 * (t + 1); omega)) (fun z => absurd (rfl) z)
    by_cases c12 : y = 12
    · refine x_tableIn 496 538 dL_law_42 (by rw [c12]; decide) (by rw [c12]; decide) (by rw [c12]; rfl) (by decide) ?_
      refine x_aload_n 1 dL_law_538 rfl ?_
      refine x_aload_n 0 dL_law_539 rfl ?_
      refine x_iload_n 3 dL_law_540 rfl ?_
      refine x_iconst 1 dL_law_541 (by decide) ?_
      refine x_iadd dL_law_542 ?_
      refine x_sldN (1 + 5 * t + 1) (fun _ _ h => h.1) dL_law_543 (nI_add _ 1) (by omega) hL ?_
      refine ca_L_75 [.int (xs (1 + 5 * t + 1))] [] (c_X6_set hI (xs (1 + 5 * t + 1))) hI.l.1 rfl dL_law_544 rfl rfl ⟨(Nat.le_of_ble_eq_true rfl), (Nat.le_of_ble_eq_true rfl), by show 97 + 27 * t + 0 ≤ 600000; omega, by show 4596 + 11770 * t + 0 ≤ 7302250; omega, (Nat.le_of_ble_eq_true rfl)⟩ (fun v T hq => ?_)
      obtain ⟨rfl, rfl⟩ := hq
      refine x_aload_n 2 dL_law_547 rfl ?_
      refine x_aload_n 0 dL_law_548 rfl ?_
      refine x_iload_n 3 dL_law_549 rfl ?_
      refine x_iconst 1 dL_law_550 (by decide) ?_
      refine x_iadd dL_law_551 ?_
      refine x_sldN (1 + 5 * t + 1) (fun _ _ h => h.1) dL_law_552 (nI_add _ 1) (by omega) hL ?_
      refine ca_L_78 [.int (xs (1 + 5 * t + 1))] [_] (c_setR hI hM hO (xs (1 + 5 * t + 1))) hM.1.1 rfl dL_law_553 rfl rfl ⟨(Nat.le_of_ble_eq_true rfl), (Nat.le_of_ble_eq_true rfl), by show 97 + 27 * t + 0 ≤ 600000; omega, by show 4596 + 11770 * t + 0 ≤ 7302250; omega, (Nat.le_of_ble_eq_true rfl)⟩ (fun v U hq => ?_)
      obtain ⟨rfl, hM3, hF3⟩ := hq
      exact x_icmp_eq 699 dL_law_556 (by decide) (fun _ => hnext U σ _ _ (hCI.fm hF3) hM3 hO (by rw [hF3.2.2.2.2.2.2]; exact hoN) (by show 97 + 27 * t + 0 ≤ 97 + 27 * (t + 1); omega) (by show 4596 + 11770 * t + 0 ≤ 4596 + 11770 * (t + 1); omega)) (fun z => absurd (rfl) z)
    by_cases c13 : y = 13
    · refine x_tableIn 519 561 dL_law_42 (by rw [c13]; decide) (by rw [c13]; decide) (by rw [c13]; rfl) (by decide) ?_
      refine x_aload_n 1 dL_law_561 rfl ?_
      refine x_aload_n 0 dL_law_562 rfl ?_
      refine x_iload_n 3 dL_law_563 rfl ?_
      refine x_iconst 1 dL_law_564 (by decide) ?_
      refine x_iadd dL_law_565 ?_
      refine x_sldN (1 + 5 * t + 1) (fun _ _ h => h.1) dL_law_566 (nI_add _ 1) (by omega) hL ?_
      refine ca_L_79 [.int (xs (1 + 5 * t + 1))] [] (c_X6_cost hI (xs (1 + 5 * t + 1))) hI.l.1 rfl dL_law_567 rfl rfl ⟨(Nat.le_of_ble_eq_true rfl), (Nat.le_of_ble_eq_true rfl), by show 97 + 27 * t + 0 ≤ 600000; omega, by show 4596 + 11770 * t + 0 ≤ 7302250; omega, (Nat.le_of_ble_eq_true rfl)⟩ (fun v T hq => ?_)
      obtain ⟨rfl, rfl⟩ := hq
      refine x_aload_n 2 dL_law_570 rfl ?_
      refine x_aload_n 0 dL_law_571 rfl ?_
      refine x_iload_n 3 dL_law_572 rfl ?_
      refine x_iconst 1 dL_law_573 (by decide) ?_
      refine x_iadd dL_law_574 ?_
      refine x_sldN (1 + 5 * t + 1) (fun _ _ h => h.1) dL_law_575 (nI_add _ 1) (by omega) hL ?_
      refine ca_L_82 [.int (xs (1 + 5 * t + 1))] [_] (c_costR hI hM hO (xs (1 + 5 * t + 1))) hM.1.1 rfl dL_law_576 rfl rfl ⟨(Nat.le_of_ble_eq_true rfl), (Nat.le_of_ble_eq_true rfl), by show 97 + 27 * t + 0 ≤ 600000; omega, by show 4596 + 11770 * t + 0 ≤ 7302250; omega, (Nat.le_of_ble_eq_true rfl)⟩ (fun v U hq => ?_)
      obtain ⟨rfl, hM3, hF3⟩ := hq
      exact x_icmp_eq 699 dL_law_579 (by decide) (fun _ => hnext U σ _ _ (hCI.fm hF3) hM3 hO (by rw [hF3.2.2.2.2.2.2]; exact hoN) (by show 97 + 27 * t + 0 ≤ 97 + 27 * (t + 1); omega) (by show 4596 + 11770 * t + 0 ≤ 4596 + 11770 * (t + 1); omega)) (fun z => absurd (rfl) z)
    by_cases c14 : y = 14
    · refine x_tableIn 542 584 dL_law_42 (by rw [c14]; decide) (by rw [c14]; decide) (by rw [c14]; rfl) (by decide) ?_
      refine x_aload_n 1 dL_law_584 rfl ?_
      refine x_aload_n 0 dL_law_585 rfl ?_
      refine x_iload_n 3 dL_law_586 rfl ?_
      refine x_iconst 1 dL_law_587 (by decide) ?_
      refine x_iadd dL_law_588 ?_
      refine x_sldN (1 + 5 * t + 1) (fun _ _ h => h.1) dL_law_589 (nI_add _ 1) (by omega) hL ?_
      refine x_aload_n 0 dL_law_590 rfl ?_
      refine x_iload_n 3 dL_law_591 rfl ?_
      refine x_iconst 2 dL_law_592 (by decide) ?_
      refine x_iadd dL_law_593 ?_
      refine x_sldN (1 + 5 * t + 2) (fun _ _ h => h.1) dL_law_594 (nI_add _ 2) (by omega) hL ?_
      refine ca_L_83 [.int (xs (1 + 5 * t + 1)), .int (xs (1 + 5 * t + 2))] [] (c_X6_told hI (xs (1 + 5 * t + 1)) (xs (1 + 5 * t + 2))) hI.l.1 rfl dL_law_595 rfl rfl ⟨(Nat.le_of_ble_eq_true rfl), (Nat.le_of_ble_eq_true rfl), by show 97 + 27 * t + 0 ≤ 600000; omega, by show 4596 + 11770 * t + 0 ≤ 7302250; omega, (Nat.le_of_ble_eq_true rfl)⟩ (fun v T hq => ?_)
      obtain ⟨rfl, rfl⟩ := hq
      refine x_aload_n 2 dL_law_598 rfl ?_
      refine x_aload_n 0 dL_law_599 rfl ?_
      refine x_iload_n 3 dL_law_600 rfl ?_
      refine x_iconst 1 dL_law_601 (by decide) ?_
      refine x_iadd dL_law_602 ?_
      refine x_sldN (1 + 5 * t + 1) (fun _ _ h => h.1) dL_law_603 (nI_add _ 1) (by omega) hL ?_
      refine x_aload_n 0 dL_law_604 rfl ?_
      refine x_iload_n 3 dL_law_605 rfl ?_
      refine x_iconst 2 dL_law_606 (by decide) ?_
      refine x_iadd dL_law_607 ?_
      refine x_sldN (1 + 5 * t + 2) (fun _ _ h => h.1) dL_law_608 (nI_add _ 2) (by omega) hL ?_
      refine ca_L_86 [.int (xs (1 + 5 * t + 1)), .int (xs (1 + 5 * t + 2))] [_] (c_X7_told (σ.1 12) (σ.2 7) (σ.2 8) (σ.2 9) (σ.2 10) (σ.2 11) (σ.2 12) (xs (1 + 5 * t + 1)) (xs (1 + 5 * t + 2)) hM.1 (hM.i 12 (by decide)) (hM.r 7 (by decide)) (hM.r 8 (by decide)) (hM.r 9 (by decide)) (hM.r 10 (by decide)) (hM.r 11 (by decide)) (hM.r 12 (by decide)) hO.nm2.1 hO.nm2.2) hM.1.1 rfl dL_law_609 rfl rfl ⟨(Nat.le_of_ble_eq_true rfl), (Nat.le_of_ble_eq_true rfl), by show 97 + 27 * t + 0 ≤ 600000; omega, by show 4596 + 11770 * t + 0 ≤ 7302250; omega, (Nat.le_of_ble_eq_true rfl)⟩ (fun v U hq => ?_)
      obtain ⟨rfl, rfl⟩ := hq
      exact x_icmp_eq 699 dL_law_612 (by decide) (fun _ => hnext S σ _ _ hCI hM hO hoN (by show 97 + 27 * t + 0 ≤ 97 + 27 * (t + 1); omega) (by show 4596 + 11770 * t + 0 ≤ 4596 + 11770 * (t + 1); omega)) (fun z => absurd (rfl) z)
    by_cases c15 : y = 15
    · refine x_tableIn 575 617 dL_law_42 (by rw [c15]; decide) (by rw [c15]; decide) (by rw [c15]; rfl) (by decide) ?_
      refine x_aload_n 1 dL_law_617 rfl ?_
      refine x_aload_n 0 dL_law_618 rfl ?_
      refine x_iload_n 3 dL_law_619 rfl ?_
      refine x_iconst 1 dL_law_620 (by decide) ?_
      refine x_iadd dL_law_621 ?_
      refine x_sldN (1 + 5 * t + 1) (fun _ _ h => h.1) dL_law_622 (nI_add _ 1) (by omega) hL ?_
      refine ca_L_87 [.int (xs (1 + 5 * t + 1))] [] (c_X6_fresh hI (xs (1 + 5 * t + 1))) hI.l.1 rfl dL_law_623 rfl rfl ⟨(Nat.le_of_ble_eq_true rfl), (Nat.le_of_ble_eq_true rfl), by show 97 + 27 * t + 0 ≤ 600000; omega, by show 4596 + 11770 * t + 0 ≤ 7302250; omega, (Nat.le_of_ble_eq_true rfl)⟩ (fun v T hq => ?_)
      obtain ⟨rfl, rfl⟩ := hq
      refine x_aload_n 2 dL_law_626 rfl ?_
      refine x_aload_n 0 dL_law_627 rfl ?_
      refine x_iload_n 3 dL_law_628 rfl ?_
      refine x_iconst 1 dL_law_629 (by decide) ?_
      refine x_iadd dL_law_630 ?_
      refine x_sldN (1 + 5 * t + 1) (fun _ _ h => h.1) dL_law_631 (nI_add _ 1) (by omega) hL ?_
      refine ca_L_90 [.int (xs (1 + 5 * t + 1))] [_] (c_X7_fresh (σ.1 1) (σ.2 13) (xs (1 + 5 * t + 1)) hM.1 (hM.i 1 (by decide)) (hM.r 13 (by decide)) hO.go2.1 (by have := hO.go2.2; omega)) hM.1.1 rfl dL_law_632 rfl rfl ⟨(Nat.le_of_ble_eq_true rfl), (Nat.le_of_ble_eq_true rfl), by show 97 + 27 * t + 0 ≤ 600000; omega, by show 4596 + 11770 * t + 0 ≤ 7302250; omega, (Nat.le_of_ble_eq_true rfl)⟩ (fun v U hq => ?_)
      obtain ⟨rfl, rfl⟩ := hq
      exact x_icmp_eq 699 dL_law_635 (by decide) (fun _ => hnext S σ _ _ hCI hM hO hoN (by show 97 + 27 * t + 0 ≤ 97 + 27 * (t + 1); omega) (by show 4596 + 11770 * t + 0 ≤ 4596 + 11770 * (t + 1); omega)) (fun z => absurd (rfl) z)
    by_cases c16 : y = 16
    · refine x_tableIn 598 640 dL_law_42 (by rw [c16]; decide) (by rw [c16]; decide) (by rw [c16]; rfl) (by decide) ?_
      refine x_aload_n 1 dL_law_640 rfl ?_
      refine ca_L_91 [] [] (c_X6_edition hI) hI.l.1 rfl dL_law_641 rfl rfl ⟨(Nat.le_of_ble_eq_true rfl), (Nat.le_of_ble_eq_true rfl), by show 97 + 27 * t + 0 ≤ 600000; omega, by show 4596 + 11770 * t + 0 ≤ 7302250; omega, (Nat.le_of_ble_eq_true rfl)⟩ (fun v T hq => ?_)
      obtain ⟨rfl, hCI2, hFX⟩ := hq
      have hM2 := hM.fx hFX hoN hxo
      have hN2 := hFX.1
      refine x_aload_n 2 dL_law_644 rfl ?_
      refine ca_L_95 [] [_] (c_X7_edition σ hM2 hO) hM2.1.1 rfl dL_law_645 rfl rfl ⟨(Nat.le_of_ble_eq_true rfl), (Nat.le_of_ble_eq_true rfl), by show 97 + 27 * t + 0 ≤ 600000; omega, by show 4596 + 11770 * t + 0 ≤ 7302250; omega, (Nat.le_of_ble_eq_true rfl)⟩ (fun v U hq => ?_)
      obtain ⟨rfl, hM3, hF3⟩ := hq
      exact x_icmp_eq 699 dL_law_648 (by decide) (fun _ => hnext U _ _ _ (hCI2.fm hF3) hM3 (okS_edition hO) (by rw [hF3.2.2.2.2.2.2]; omega) (by show 97 + 27 * t + 0 ≤ 97 + 27 * (t + 1); omega) (by show 4596 + 11770 * t + 0 ≤ 4596 + 11770 * (t + 1); omega)) (fun z => absurd (rfl) z)
    by_cases c17 : y = 17
    · refine x_tableIn 611 653 dL_law_42 (by rw [c17]; decide) (by rw [c17]; decide) (by rw [c17]; rfl) (by decide) ?_
      refine x_aload_n 1 dL_law_653 rfl ?_
      refine x_aload_n 0 dL_law_654 rfl ?_
      refine x_iload_n 3 dL_law_655 rfl ?_
      refine x_iconst 1 dL_law_656 (by decide) ?_
      refine x_iadd dL_law_657 ?_
      refine x_sldN (1 + 5 * t + 1) (fun _ _ h => h.1) dL_law_658 (nI_add _ 1) (by omega) hL ?_
      refine ca_L_96 [.int (xs (1 + 5 * t + 1))] [] (c_X6_printed hI (xs (1 + 5 * t + 1))) hI.l.1 rfl dL_law_659 rfl rfl ⟨(Nat.le_of_ble_eq_true rfl), (Nat.le_of_ble_eq_true rfl), by show 97 + 27 * t + 0 ≤ 600000; omega, by show 4596 + 11770 * t + 0 ≤ 7302250; omega, (Nat.le_of_ble_eq_true rfl)⟩ (fun v T hq => ?_)
      obtain ⟨rfl, rfl⟩ := hq
      refine x_aload_n 2 dL_law_662 rfl ?_
      refine x_aload_n 0 dL_law_663 rfl ?_
      refine x_iload_n 3 dL_law_664 rfl ?_
      refine x_iconst 1 dL_law_665 (by decide) ?_
      refine x_iadd dL_law_666 ?_
      refine x_sldN (1 + 5 * t + 1) (fun _ _ h => h.1) dL_law_667 (nI_add _ 1) (by omega) hL ?_
      refine ca_L_99 [.int (xs (1 + 5 * t + 1))] [_] (c_X7_printed (σ.1 1) (σ.2 14) (xs (1 + 5 * t + 1)) hM.1 (hM.i 1 (by decide)) (hM.r 14 (by decide)) hO.go2.1 (by have := hO.go2.2; omega)) hM.1.1 rfl dL_law_668 rfl rfl ⟨(Nat.le_of_ble_eq_true rfl), (Nat.le_of_ble_eq_true rfl), by show 97 + 27 * t + 0 ≤ 600000; omega, by show 4596 + 11770 * t + 0 ≤ 7302250; omega, (Nat.le_of_ble_eq_true rfl)⟩ (fun v U hq => ?_)
      obtain ⟨rfl, rfl⟩ := hq
      exact x_icmp_eq 699 dL_law_671 (by decide) (fun _ => hnext S σ _ _ hCI hM hO hoN (by show 97 + 27 * t + 0 ≤ 97 + 27 * (t + 1); omega) (by show 4596 + 11770 * t + 0 ≤ 4596 + 11770 * (t + 1); omega)) (fun z => absurd (rfl) z)
    by_cases c18 : y = 18
    · refine x_tableIn 634 676 dL_law_42 (by rw [c18]; decide) (by rw [c18]; decide) (by rw [c18]; rfl) (by decide) ?_
      refine x_aload_n 1 dL_law_676 rfl ?_
      refine x_aload_n 0 dL_law_677 rfl ?_
      refine x_iload_n 3 dL_law_678 rfl ?_
      refine x_iconst 1 dL_law_679 (by decide) ?_
      refine x_iadd dL_law_680 ?_
      refine x_sldN (1 + 5 * t + 1) (fun _ _ h => h.1) dL_law_681 (nI_add _ 1) (by omega) hL ?_
      refine ca_L_100 [.int (xs (1 + 5 * t + 1))] [] (c_X6_count hI (xs (1 + 5 * t + 1))) hI.l.1 rfl dL_law_682 rfl rfl ⟨(Nat.le_of_ble_eq_true rfl), (Nat.le_of_ble_eq_true rfl), by show 97 + 27 * t + 0 ≤ 600000; omega, by show 4596 + 11770 * t + 0 ≤ 7302250; omega, (Nat.le_of_ble_eq_true rfl)⟩ (fun v T hq => ?_)
      obtain ⟨rfl, rfl⟩ := hq
      refine x_aload_n 2 dL_law_685 rfl ?_
      refine x_aload_n 0 dL_law_686 rfl ?_
      refine x_iload_n 3 dL_law_687 rfl ?_
      refine x_iconst 1 dL_law_688 (by decide) ?_
      refine x_iadd dL_law_689 ?_
      refine x_sldN (1 + 5 * t + 1) (fun _ _ h => h.1) dL_law_690 (nI_add _ 1) (by omega) hL ?_
      refine ca_L_103 [.int (xs (1 + 5 * t + 1))] [_] (c_X7_count σ (xs (1 + 5 * t + 1)) hM hO) hM.1.1 rfl dL_law_691 rfl rfl ⟨(Nat.le_of_ble_eq_true rfl), (Nat.le_of_ble_eq_true rfl), by show 97 + 27 * t + 0 ≤ 600000; omega, by show 4596 + 11770 * t + 0 ≤ 7302250; omega, (Nat.le_of_ble_eq_true rfl)⟩ (fun v U hq => ?_)
      obtain ⟨rfl, rfl⟩ := hq
      exact x_icmp_eq 699 dL_law_694 (by decide) (fun _ => hnext S σ _ _ hCI hM hO hoN (by show 97 + 27 * t + 0 ≤ 97 + 27 * (t + 1); omega) (by show 4596 + 11770 * t + 0 ≤ 4596 + 11770 * (t + 1); omega)) (fun z => absurd (rfl) z)
    refine x_tableOut 699 dL_law_42 (tb_out18 c0 c1 c2 c3 c4 c5 c6 c7 c8 c9 c10 c11 c12 c13 c14 c15 c16 c17 c18) (by decide) ?_
    exact hnext S σ _ _ hCI hM hO hoN (by show 97 + 27 * t ≤ 97 + 27 * (t + 1); omega) (by show 4596 + 11770 * t ≤ 4596 + 11770 * (t + 1); omega)
