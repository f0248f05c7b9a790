set_option maxRecDepth 100000 in
set_option maxHeartbeats 4000000 in
theorem law_0 {Γ : zG} {l0 : Launch} {X : zX} {b L : Nat} {xs : Nat → Int32} {x c i : Nat} {ω : zWd} (C : Zc Γ l0 X room_1 4 cL_law RL) (S : zSc Γ b L xs) (hi : i + 6 ≤ L) (hJ : zJn X ω x c) (K : ∀ (ω : zWd) (c : Nat), zJn X ω x c → Zw Γ ω (2504 + c) (190089 + 72 * c) 818 [some (.ref b), some (.ref x), some (.ref (x + 58)), some (.int (zI (i : Int)))] []) : Zw Γ ω (2504 + c) (190089 + 72 * c) 112 [some (.ref b), some (.ref x), some (.ref (x + 58)), some (.int (zI (i : Int)))] [] := by
  have hL := S.l
  obtain ⟨bk, nv, bh, rt, tc, dc, tm, dm, hR, hD, hc, hbh, hrt, hnv, hT, hE⟩ := id hJ
  have hc3 : c ≤ 3698 := by omega
  obtain ⟨fx, hX0⟩ := hR.x
  obtain ⟨fm, hM0⟩ := hD.x
  obtain ⟨y1, e1, r1⟩ : ∃ y : Int, xs (i + 1) = zI y ∧ (-2147483648 ≤ y ∧ y < 2147483648) := ⟨_, (zI_of _).symm, zI_r _⟩
  obtain ⟨y2, e2, r2⟩ : ∃ y : Int, xs (i + 2) = zI y ∧ (-2147483648 ≤ y ∧ y < 2147483648) := ⟨_, (zI_of _).symm, zI_r _⟩
  obtain ⟨y3, e3, r3⟩ : ∃ y : Int, xs (i + 3) = zI y ∧ (-2147483648 ≤ y ∧ y < 2147483648) := ⟨_, (zI_of _).symm, zI_r _⟩
  refine z_aload_n (i := 1) (pc := 112) C rfl rfl dL_law_112 ?_
  refine z_aload_n (i := 0) (pc := 113) C rfl rfl dL_law_113 ?_
  refine z_iload_n (i := 3) (pc := 114) C rfl rfl dL_law_114 ?_
  refine z_iconst (pc := 115) C dL_law_115 ?_
  refine z_iadd (pc := 116) C dL_law_116 ?_
  refine z_sld (pc := 117) C S (i + 1) (by omega) (by omega) e1 dL_law_117 ?_
  refine z_aload_n (i := 0) (pc := 118) C rfl rfl dL_law_118 ?_
  refine z_iload_n (i := 3) (pc := 119) C rfl rfl dL_law_119 ?_
  refine z_iconst (pc := 120) C dL_law_120 ?_
  refine z_iadd (pc := 121) C dL_law_121 ?_
  refine z_sld (pc := 122) C S (i + 2) (by omega) (by omega) e2 dL_law_122 ?_
  refine z_aload_n (i := 0) (pc := 123) C rfl rfl dL_law_123 ?_
  refine z_iload_n (i := 3) (pc := 124) C rfl rfl dL_law_124 ?_
  refine z_iconst (pc := 125) C dL_law_125 ?_
  refine z_iadd (pc := 126) C dL_law_126 ?_
  refine z_sld (pc := 127) C S (i + 3) (by omega) (by omega) e3 dL_law_127 ?_
  refine z_callVi (pc := 128) C (c_X6_set hR r1 r2 r3) k_L_13 zy_X6_set rfl rfl hX0 rfl rfl ⟨(Nat.le_of_ble_eq_true rfl), (Nat.le_of_ble_eq_true rfl)⟩ (Nat.le_of_ble_eq_true rfl) dL_law_128 ⟨rfl, rfl⟩ ⟨by show _ ≤ 600000; omega, by show _ ≤ 7302250; omega⟩ (fun ra ω1 hp => ?_)
  obtain ⟨ho, h1⟩ := hp
  have hM1 := (ho.1 (x + 58) (by omega)).trans hM0
  have hD1 := hD.fr (ω2 := ω1) (fun b q1 q2 => ho.1 b (by omega)) ho.2
  refine z_aload_n (i := 2) (pc := 131) C rfl rfl dL_law_131 ?_
  refine z_aload_n (i := 0) (pc := 132) C rfl rfl dL_law_132 ?_
  refine z_iload_n (i := 3) (pc := 133) C rfl rfl dL_law_133 ?_
  refine z_iconst (pc := 134) C dL_law_134 ?_
  refine z_iadd (pc := 135) C dL_law_135 ?_
  refine z_sld (pc := 136) C S (i + 1) (by omega) (by omega) e1 dL_law_136 ?_
  refine z_aload_n (i := 0) (pc := 137) C rfl rfl dL_law_137 ?_
  refine z_iload_n (i := 3) (pc := 138) C rfl rfl dL_law_138 ?_
  refine z_iconst (pc := 139) C dL_law_139 ?_
  refine z_iadd (pc := 140) C dL_law_140 ?_
  refine z_sld (pc := 141) C S (i + 2) (by omega) (by omega) e2 dL_law_141 ?_
  refine z_aload_n (i := 0) (pc := 142) C rfl rfl dL_law_142 ?_
  refine z_iload_n (i := 3) (pc := 143) C rfl rfl dL_law_143 ?_
  refine z_iconst (pc := 144) C dL_law_144 ?_
  refine z_iadd (pc := 145) C dL_law_145 ?_
  refine z_sld (pc := 146) C S (i + 3) (by omega) (by omega) e3 dL_law_146 ?_
  refine z_callVi (pc := 147) C (c_X7_set hD1 r1 r2 r3) k_L_17 zy_X7_set rfl rfl hM1 rfl rfl ⟨(Nat.le_of_ble_eq_true rfl), (Nat.le_of_ble_eq_true rfl)⟩ (Nat.le_of_ble_eq_true rfl) dL_law_147 ⟨rfl, rfl⟩ ⟨by show _ ≤ 600000; omega, by show _ ≤ 7302250; omega⟩ (fun rb ω2 hp => ?_)
  obtain ⟨hk, h2⟩ := hp
  obtain ⟨he, hJ2⟩ : ra = rb ∧ zJn X ω2 x c := by
    rcases h1 with ⟨a1, a2, a3, rfl, hR1⟩ | ⟨n1, rfl, hR1⟩ <;> rcases h2 with ⟨b1, b2, b3, rfl, hD2⟩ | ⟨n2, rfl, hD2⟩
    · exact ⟨rfl, ⟨_, nv, bh, rt, tc, dc, tm, dm, (hR1.fr (fun b q1 q2 => hk.1 b (by omega))), hD2, hc, hbh, hrt, hnv, hT, hE⟩⟩
    · exact absurd ⟨a1, a2, a3⟩ n2
    · exact absurd ⟨b1, b2, b3⟩ n1
    · exact ⟨rfl, ⟨_, nv, bh, rt, tc, dc, tm, dm, (hR1.fr (fun b q1 q2 => hk.1 b (by omega))), hD2, hc, hbh, hrt, hnv, hT, hE⟩⟩
  subst he
  exact z_icmp_same (tgt := 818) (pc := 150) C dL_law_150 (by decide) (K ω2 c hJ2)
set_option maxRecDepth 100000 in
set_option maxHeartbeats 4000000 in
theorem law_1 {Γ : zG} {l0 : Launch} {X : zX} {b L : Nat} {xs : Nat → Int32} {x c i : Nat} {ω : zWd} (C : Zc Γ l0 X room_1 4 cL_law RL) (S : zSc Γ b L xs) (hi : i + 6 ≤ L) (hJ : zJn X ω x c) (K : ∀ (ω : zWd) (c : Nat), zJn X ω x c → Zw Γ ω (2504 + c) (190089 + 72 * c) 818 [some (.ref b), some (.ref x), some (.ref (x + 58)), some (.int (zI (i : Int)))] []) : Zw Γ ω (2504 + c) (190089 + 72 * c) 155 [some (.ref b), some (.ref x), some (.ref (x + 58)), some (.int (zI (i : Int)))] [] := by
  have hL := S.l
  obtain ⟨bk, nv, bh, rt, tc, dc, tm, dm, hR, hD, hc, hbh, hrt, hnv, hT, hE⟩ := id hJ
  have hc3 : c ≤ 3698 := by omega
  obtain ⟨fx, hX0⟩ := hR.x
  obtain ⟨fm, hM0⟩ := hD.x
  obtain ⟨y1, e1, r1⟩ : ∃ y : Int, xs (i + 1) = zI y ∧ (-2147483648 ≤ y ∧ y < 2147483648) := ⟨_, (zI_of _).symm, zI_r _⟩
  obtain ⟨y2, e2, r2⟩ : ∃ y : Int, xs (i + 2) = zI y ∧ (-2147483648 ≤ y ∧ y < 2147483648) := ⟨_, (zI_of _).symm, zI_r _⟩
  refine z_aload_n (i := 1) (pc := 155) C rfl rfl dL_law_155 ?_
  refine z_aload_n (i := 0) (pc := 156) C rfl rfl dL_law_156 ?_
  refine z_iload_n (i := 3) (pc := 157) C rfl rfl dL_law_157 ?_
  refine z_iconst (pc := 158) C dL_law_158 ?_
  refine z_iadd (pc := 159) C dL_law_159 ?_
  refine z_sld (pc := 160) C S (i + 1) (by omega) (by omega) e1 dL_law_160 ?_
  refine z_aload_n (i := 0) (pc := 161) C rfl rfl dL_law_161 ?_
  refine z_iload_n (i := 3) (pc := 162) C rfl rfl dL_law_162 ?_
  refine z_iconst (pc := 163) C dL_law_163 ?_
  refine z_iadd (pc := 164) C dL_law_164 ?_
  refine z_sld (pc := 165) C S (i + 2) (by omega) (by omega) e2 dL_law_165 ?_
  refine z_callVi (pc := 166) C (c_X6_parts hR r1 r2) k_L_18 zy_X6_parts rfl rfl hX0 rfl rfl ⟨(Nat.le_of_ble_eq_true rfl), (Nat.le_of_ble_eq_true rfl)⟩ (Nat.le_of_ble_eq_true rfl) dL_law_166 ⟨rfl, rfl⟩ ⟨by show _ ≤ 600000; omega, by show _ ≤ 7302250; omega⟩ (fun ra ω1 hp => ?_)
  obtain ⟨hw', h1⟩ := hp
  rw [hw']
  clear hw'
  refine z_aload_n (i := 2) (pc := 169) C rfl rfl dL_law_169 ?_
  refine z_aload_n (i := 0) (pc := 170) C rfl rfl dL_law_170 ?_
  refine z_iload_n (i := 3) (pc := 171) C rfl rfl dL_law_171 ?_
  refine z_iconst (pc := 172) C dL_law_172 ?_
  refine z_iadd (pc := 173) C dL_law_173 ?_
  refine z_sld (pc := 174) C S (i + 1) (by omega) (by omega) e1 dL_law_174 ?_
  refine z_aload_n (i := 0) (pc := 175) C rfl rfl dL_law_175 ?_
  refine z_iload_n (i := 3) (pc := 176) C rfl rfl dL_law_176 ?_
  refine z_iconst (pc := 177) C dL_law_177 ?_
  refine z_iadd (pc := 178) C dL_law_178 ?_
  refine z_sld (pc := 179) C S (i + 2) (by omega) (by omega) e2 dL_law_179 ?_
  refine z_callVi (pc := 180) C (c_X7_parts hD r1 r2) k_L_22 zy_X7_parts rfl rfl hM0 rfl rfl ⟨(Nat.le_of_ble_eq_true rfl), (Nat.le_of_ble_eq_true rfl)⟩ (Nat.le_of_ble_eq_true rfl) dL_law_180 ⟨rfl, rfl⟩ ⟨by show _ ≤ 600000; omega, by show _ ≤ 7302250; omega⟩ (fun rb ω2 hp => ?_)
  obtain ⟨hw', h2⟩ := hp
  rw [hw']
  clear hw'
  have he : ra = rb := by
    rcases h1 with ⟨a1, a2, rfl⟩ | ⟨n1, rfl⟩ <;> rcases h2 with ⟨b1, b2, rfl⟩ | ⟨n2, rfl⟩
    · rfl
    · exact absurd ⟨a1, a2⟩ n2
    · exact absurd ⟨b1, b2⟩ n1
    · rfl
  subst he
  have hJ2 := hJ
  exact z_icmp_same (tgt := 818) (pc := 183) C dL_law_183 (by decide) (K ω c hJ2)
set_option maxRecDepth 100000 in
set_option maxHeartbeats 4000000 in
theorem law_2 {Γ : zG} {l0 : Launch} {X : zX} {b L : Nat} {xs : Nat → Int32} {x c i : Nat} {ω : zWd} (C : Zc Γ l0 X room_1 4 cL_law RL) (S : zSc Γ b L xs) (hi : i + 6 ≤ L) (hJ : zJn X ω x c) (K : ∀ (ω : zWd) (c : Nat), zJn X ω x c → Zw Γ ω (2504 + c) (190089 + 72 * c) 818 [some (.ref b), some (.ref x), some (.ref (x + 58)), some (.int (zI (i : Int)))] []) : Zw Γ ω (2504 + c) (190089 + 72 * c) 188 [some (.ref b), some (.ref x), some (.ref (x + 58)), some (.int (zI (i : Int)))] [] := by
  have hL := S.l
  obtain ⟨bk, nv, bh, rt, tc, dc, tm, dm, hR, hD, hc, hbh, hrt, hnv, hT, hE⟩ := id hJ
  have hc3 : c ≤ 3698 := by omega
  obtain ⟨fx, hX0⟩ := hR.x
  obtain ⟨fm, hM0⟩ := hD.x
  obtain ⟨y1, e1, r1⟩ : ∃ y : Int, xs (i + 1) = zI y ∧ (-2147483648 ≤ y ∧ y < 2147483648) := ⟨_, (zI_of _).symm, zI_r _⟩
  refine z_aload_n (i := 1) (pc := 188) C rfl rfl dL_law_188 ?_
  refine z_aload_n (i := 0) (pc := 189) C rfl rfl dL_law_189 ?_
  refine z_iload_n (i := 3) (pc := 190) C rfl rfl dL_law_190 ?_
  refine z_iconst (pc := 191) C dL_law_191 ?_
  refine z_iadd (pc := 192) C dL_law_192 ?_
  refine z_sld (pc := 193) C S (i + 1) (by omega) (by omega) e1 dL_law_193 ?_
  refine z_callVi (pc := 194) C (c_X6_right hR r1) k_L_23 zy_X6_right rfl rfl hX0 rfl rfl ⟨(Nat.le_of_ble_eq_true rfl), (Nat.le_of_ble_eq_true rfl)⟩ (Nat.le_of_ble_eq_true rfl) dL_law_194 ⟨rfl, rfl⟩ ⟨by show _ ≤ 600000; omega, by show _ ≤ 7302250; omega⟩ (fun ra ω1 hp => ?_)
  obtain ⟨hw', h1⟩ := hp
  rw [hw']
  clear hw'
  refine z_aload_n (i := 2) (pc := 197) C rfl rfl dL_law_197 ?_
  refine z_aload_n (i := 0) (pc := 198) C rfl rfl dL_law_198 ?_
  refine z_iload_n (i := 3) (pc := 199) C rfl rfl dL_law_199 ?_
  refine z_iconst (pc := 200) C dL_law_200 ?_
  refine z_iadd (pc := 201) C dL_law_201 ?_
  refine z_sld (pc := 202) C S (i + 1) (by omega) (by omega) e1 dL_law_202 ?_
  refine z_callVi (pc := 203) C (c_X7_right hD r1) k_L_27 zy_X7_right rfl rfl hM0 rfl rfl ⟨(Nat.le_of_ble_eq_true rfl), (Nat.le_of_ble_eq_true rfl)⟩ (Nat.le_of_ble_eq_true rfl) dL_law_203 ⟨rfl, rfl⟩ ⟨by show _ ≤ 600000; omega, by show _ ≤ 7302250; omega⟩ (fun rb ω2 hp => ?_)
  obtain ⟨hw', h2⟩ := hp
  rw [hw']
  clear hw'
  have he : ra = rb := by
    rcases h1 with ⟨a1, rfl⟩ | ⟨n1, rfl⟩ <;> rcases h2 with ⟨b1, rfl⟩ | ⟨n2, rfl⟩
    · rfl
    · exact absurd a1 n2
    · exact absurd b1 n1
    · rfl
  subst he
  have hJ2 := hJ
  exact z_icmp_same (tgt := 818) (pc := 206) C dL_law_206 (by decide) (K ω c hJ2)
set_option maxRecDepth 100000 in
set_option maxHeartbeats 4000000 in
theorem law_3 {Γ : zG} {l0 : Launch} {X : zX} {b L : Nat} {xs : Nat → Int32} {x c i : Nat} {ω : zWd} (C : Zc Γ l0 X room_1 4 cL_law RL) (S : zSc Γ b L xs) (hi : i + 6 ≤ L) (hJ : zJn X ω x c) (K : ∀ (ω : zWd) (c : Nat), zJn X ω x c → Zw Γ ω (2504 + c) (190089 + 72 * c) 818 [some (.ref b), some (.ref x), some (.ref (x + 58)), some (.int (zI (i : Int)))] []) : Zw Γ ω (2504 + c) (190089 + 72 * c) 211 [some (.ref b), some (.ref x), some (.ref (x + 58)), some (.int (zI (i : Int)))] [] := by
  have hL := S.l
  obtain ⟨bk, nv, bh, rt, tc, dc, tm, dm, hR, hD, hc, hbh, hrt, hnv, hT, hE⟩ := id hJ
  have hc3 : c ≤ 3698 := by omega
  obtain ⟨fx, hX0⟩ := hR.x
  obtain ⟨fm, hM0⟩ := hD.x
  obtain ⟨y1, e1, r1⟩ : ∃ y : Int, xs (i + 1) = zI y ∧ (-2147483648 ≤ y ∧ y < 2147483648) := ⟨_, (zI_of _).symm, zI_r _⟩
  obtain ⟨y2, e2, r2⟩ : ∃ y : Int, xs (i + 2) = zI y ∧ (-2147483648 ≤ y ∧ y < 2147483648) := ⟨_, (zI_of _).symm, zI_r _⟩
  obtain ⟨y3, e3, r3⟩ : ∃ y : Int, xs (i + 3) = zI y ∧ (-2147483648 ≤ y ∧ y < 2147483648) := ⟨_, (zI_of _).symm, zI_r _⟩
  refine z_aload_n (i := 1) (pc := 211) C rfl rfl dL_law_211 ?_
  refine z_aload_n (i := 0) (pc := 212) C rfl rfl dL_law_212 ?_
  refine z_iload_n (i := 3) (pc := 213) C rfl rfl dL_law_213 ?_
  refine z_iconst (pc := 214) C dL_law_214 ?_
  refine z_iadd (pc := 215) C dL_law_215 ?_
  refine z_sld (pc := 216) C S (i + 1) (by omega) (by omega) e1 dL_law_216 ?_
  refine z_aload_n (i := 0) (pc := 217) C rfl rfl dL_law_217 ?_
  refine z_iload_n (i := 3) (pc := 218) C rfl rfl dL_law_218 ?_
  refine z_iconst (pc := 219) C dL_law_219 ?_
  refine z_iadd (pc := 220) C dL_law_220 ?_
  refine z_sld (pc := 221) C S (i + 2) (by omega) (by omega) e2 dL_law_221 ?_
  refine z_aload_n (i := 0) (pc := 222) C rfl rfl dL_law_222 ?_
  refine z_iload_n (i := 3) (pc := 223) C rfl rfl dL_law_223 ?_
  refine z_iconst (pc := 224) C dL_law_224 ?_
  refine z_iadd (pc := 225) C dL_law_225 ?_
  refine z_sld (pc := 226) C S (i + 3) (by omega) (by omega) e3 dL_law_226 ?_
  refine z_callVi (pc := 227) C (c_X6_told hR r1 r2 r3) k_L_28 zy_X6_told rfl rfl hX0 rfl rfl ⟨(Nat.le_of_ble_eq_true rfl), (Nat.le_of_ble_eq_true rfl)⟩ (Nat.le_of_ble_eq_true rfl) dL_law_227 ⟨rfl, rfl⟩ ⟨by show _ ≤ 600000; omega, by show _ ≤ 7302250; omega⟩ (fun ra ω1 hp => ?_)
  obtain ⟨hw', h1⟩ := hp
  rw [hw']
  clear hw'
  refine z_aload_n (i := 2) (pc := 230) C rfl rfl dL_law_230 ?_
  refine z_aload_n (i := 0) (pc := 231) C rfl rfl dL_law_231 ?_
  refine z_iload_n (i := 3) (pc := 232) C rfl rfl dL_law_232 ?_
  refine z_iconst (pc := 233) C dL_law_233 ?_
  refine z_iadd (pc := 234) C dL_law_234 ?_
  refine z_sld (pc := 235) C S (i + 1) (by omega) (by omega) e1 dL_law_235 ?_
  refine z_aload_n (i := 0) (pc := 236) C rfl rfl dL_law_236 ?_
  refine z_iload_n (i := 3) (pc := 237) C rfl rfl dL_law_237 ?_
  refine z_iconst (pc := 238) C dL_law_238 ?_
  refine z_iadd (pc := 239) C dL_law_239 ?_
  refine z_sld (pc := 240) C S (i + 2) (by omega) (by omega) e2 dL_law_240 ?_
  refine z_aload_n (i := 0) (pc := 241) C rfl rfl dL_law_241 ?_
  refine z_iload_n (i := 3) (pc := 242) C rfl rfl dL_law_242 ?_
  refine z_iconst (pc := 243) C dL_law_243 ?_
  refine z_iadd (pc := 244) C dL_law_244 ?_
  refine z_sld (pc := 245) C S (i + 3) (by omega) (by omega) e3 dL_law_245 ?_
  refine z_callVi (pc := 246) C (c_X7_told hD r1 r2 r3) k_L_32 zy_X7_told rfl rfl hM0 rfl rfl ⟨(Nat.le_of_ble_eq_true rfl), (Nat.le_of_ble_eq_true rfl)⟩ (Nat.le_of_ble_eq_true rfl) dL_law_246 ⟨rfl, rfl⟩ ⟨by show _ ≤ 600000; omega, by show _ ≤ 7302250; omega⟩ (fun rb ω2 hp => ?_)
  obtain ⟨hw', h2⟩ := hp
  rw [hw']
  clear hw'
  have he : ra = rb := by
    rcases h1 with ⟨a1, a2, rfl⟩ | ⟨a1, a2, rfl⟩ | ⟨a1, a2, a3, rfl⟩ | ⟨n1, rfl⟩ <;> rcases h2 with ⟨b1, b2, rfl⟩ | ⟨b1, b2, rfl⟩ | ⟨b1, b2, b3, rfl⟩ | ⟨n2, rfl⟩ <;> first | rfl | (exfalso; omega) | exact absurd ⟨a1, by omega⟩ n2 | exact absurd ⟨b1, by omega⟩ n1
  subst he
  have hJ2 := hJ
  exact z_icmp_same (tgt := 818) (pc := 249) C dL_law_249 (by decide) (K ω c hJ2)
set_option maxRecDepth 100000 in
set_option maxHeartbeats 4000000 in
theorem law_7 {Γ : zG} {l0 : Launch} {X : zX} {b L : Nat} {xs : Nat → Int32} {x c i : Nat} {ω : zWd} (C : Zc Γ l0 X room_1 4 cL_law RL) (S : zSc Γ b L xs) (hi : i + 6 ≤ L) (hJ : zJn X ω x c) (K : ∀ (ω : zWd) (c : Nat), zJn X ω x c → Zw Γ ω (2504 + c) (190089 + 72 * c) 818 [some (.ref b), some (.ref x), some (.ref (x + 58)), some (.int (zI (i : Int)))] []) : Zw Γ ω (2504 + c) (190089 + 72 * c) 455 [some (.ref b), some (.ref x), some (.ref (x + 58)), some (.int (zI (i : Int)))] [] := by
  have hL := S.l
  obtain ⟨bk, nv, bh, rt, tc, dc, tm, dm, hR, hD, hc, hbh, hrt, hnv, hT, hE⟩ := id hJ
  have hc3 : c ≤ 3698 := by omega
  obtain ⟨fx, hX0⟩ := hR.x
  obtain ⟨fm, hM0⟩ := hD.x
  obtain ⟨y1, e1, r1⟩ : ∃ y : Int, xs (i + 1) = zI y ∧ (-2147483648 ≤ y ∧ y < 2147483648) := ⟨_, (zI_of _).symm, zI_r _⟩
  obtain ⟨y2, e2, r2⟩ : ∃ y : Int, xs (i + 2) = zI y ∧ (-2147483648 ≤ y ∧ y < 2147483648) := ⟨_, (zI_of _).symm, zI_r _⟩
  refine z_aload_n (i := 1) (pc := 455) C rfl rfl dL_law_455 ?_
  refine z_aload_n (i := 0) (pc := 456) C rfl rfl dL_law_456 ?_
  refine z_iload_n (i := 3) (pc := 457) C rfl rfl dL_law_457 ?_
  refine z_iconst (pc := 458) C dL_law_458 ?_
  refine z_iadd (pc := 459) C dL_law_459 ?_
  refine z_sld (pc := 460) C S (i + 1) (by omega) (by omega) e1 dL_law_460 ?_
  refine z_aload_n (i := 0) (pc := 461) C rfl rfl dL_law_461 ?_
  refine z_iload_n (i := 3) (pc := 462) C rfl rfl dL_law_462 ?_
  refine z_iconst (pc := 463) C dL_law_463 ?_
  refine z_iadd (pc := 464) C dL_law_464 ?_
  refine z_sld (pc := 465) C S (i + 2) (by omega) (by omega) e2 dL_law_465 ?_
  refine z_callVi (pc := 466) C (c_X6_at hR hrt r1 r2) k_L_48 zy_X6_at rfl rfl hX0 rfl rfl ⟨(Nat.le_of_ble_eq_true rfl), (Nat.le_of_ble_eq_true rfl)⟩ (Nat.le_of_ble_eq_true rfl) dL_law_466 ⟨rfl, rfl⟩ ⟨by show _ ≤ 600000; omega, by show _ ≤ 7302250; omega⟩ (fun ra ω1 hp => ?_)
  obtain ⟨hw', h1⟩ := hp
  rw [hw']
  clear hw'
  refine z_aload_n (i := 2) (pc := 469) C rfl rfl dL_law_469 ?_
  refine z_aload_n (i := 0) (pc := 470) C rfl rfl dL_law_470 ?_
  refine z_iload_n (i := 3) (pc := 471) C rfl rfl dL_law_471 ?_
  refine z_iconst (pc := 472) C dL_law_472 ?_
  refine z_iadd (pc := 473) C dL_law_473 ?_
  refine z_sld (pc := 474) C S (i + 1) (by omega) (by omega) e1 dL_law_474 ?_
  refine z_aload_n (i := 0) (pc := 475) C rfl rfl dL_law_475 ?_
  refine z_iload_n (i := 3) (pc := 476) C rfl rfl dL_law_476 ?_
  refine z_iconst (pc := 477) C dL_law_477 ?_
  refine z_iadd (pc := 478) C dL_law_478 ?_
  refine z_sld (pc := 479) C S (i + 2) (by omega) (by omega) e2 dL_law_479 ?_
  refine z_callVi (pc := 480) C (c_X7_at hD hrt r1 r2) k_L_51 zy_X7_at rfl rfl hM0 rfl rfl ⟨(Nat.le_of_ble_eq_true rfl), (Nat.le_of_ble_eq_true rfl)⟩ (Nat.le_of_ble_eq_true rfl) dL_law_480 ⟨rfl, rfl⟩ ⟨by show _ ≤ 600000; omega, by show _ ≤ 7302250; omega⟩ (fun rb ω2 hp => ?_)
  obtain ⟨hw', h2⟩ := hp
  rw [hw']
  clear hw'
  have he : ra = rb := by
    rcases h1 with ⟨a1, a2, rfl⟩ | ⟨n1, rfl⟩ <;> rcases h2 with ⟨b1, b2, rfl⟩ | ⟨n2, rfl⟩
    · obtain ⟨t, rfl⟩ := Int.eq_ofNat_of_zero_le (show 0 ≤ y1 by omega)
      have e := zat_eq (T := tc (t : Int)) (t := t) (rt := rt) (i := y2) (by omega) (by omega)
      rw [show ((t : Int)).toNat = t by omega, hT t (by omega) (by omega)]
      exact e
    · exact absurd ⟨a1, a2⟩ n2
    · exact absurd ⟨b1, b2⟩ n1
    · rfl
  subst he
  have hJ2 := hJ
  exact z_icmp_same (tgt := 818) (pc := 483) C dL_law_483 (by decide) (K ω c hJ2)
set_option maxRecDepth 100000 in
set_option maxHeartbeats 4000000 in
theorem law_8 {Γ : zG} {l0 : Launch} {X : zX} {b L : Nat} {xs : Nat → Int32} {x c i : Nat} {ω : zWd} (C : Zc Γ l0 X room_1 4 cL_law RL) (S : zSc Γ b L xs) (hi : i + 6 ≤ L) (hJ : zJn X ω x c) (K : ∀ (ω : zWd) (c : Nat), zJn X ω x c → Zw Γ ω (2504 + c) (190089 + 72 * c) 818 [some (.ref b), some (.ref x), some (.ref (x + 58)), some (.int (zI (i : Int)))] []) : Zw Γ ω (2504 + c) (190089 + 72 * c) 488 [some (.ref b), some (.ref x), some (.ref (x + 58)), some (.int (zI (i : Int)))] [] := by
  have hL := S.l
  obtain ⟨bk, nv, bh, rt, tc, dc, tm, dm, hR, hD, hc, hbh, hrt, hnv, hT, hE⟩ := id hJ
  have hc3 : c ≤ 3698 := by omega
  obtain ⟨fx, hX0⟩ := hR.x
  obtain ⟨fm, hM0⟩ := hD.x
  obtain ⟨y1, e1, r1⟩ : ∃ y : Int, xs (i + 1) = zI y ∧ (-2147483648 ≤ y ∧ y < 2147483648) := ⟨_, (zI_of _).symm, zI_r _⟩
  obtain ⟨y2, e2, r2⟩ : ∃ y : Int, xs (i + 2) = zI y ∧ (-2147483648 ≤ y ∧ y < 2147483648) := ⟨_, (zI_of _).symm, zI_r _⟩
  refine z_aload_n (i := 1) (pc := 488) C rfl rfl dL_law_488 ?_
  refine z_aload_n (i := 0) (pc := 489) C rfl rfl dL_law_489 ?_
  refine z_iload_n (i := 3) (pc := 490) C rfl rfl dL_law_490 ?_
  refine z_iconst (pc := 491) C dL_law_491 ?_
  refine z_iadd (pc := 492) C dL_law_492 ?_
  refine z_sld (pc := 493) C S (i + 1) (by omega) (by omega) e1 dL_law_493 ?_
  refine z_aload_n (i := 0) (pc := 494) C rfl rfl dL_law_494 ?_
  refine z_iload_n (i := 3) (pc := 495) C rfl rfl dL_law_495 ?_
  refine z_iconst (pc := 496) C dL_law_496 ?_
  refine z_iadd (pc := 497) C dL_law_497 ?_
  refine z_sld (pc := 498) C S (i + 2) (by omega) (by omega) e2 dL_law_498 ?_
  refine z_callVi (pc := 499) C (c_X6_deep hR hrt r1 r2) k_L_52 zy_X6_deep rfl rfl hX0 rfl rfl ⟨(Nat.le_of_ble_eq_true rfl), (Nat.le_of_ble_eq_true rfl)⟩ (Nat.le_of_ble_eq_true rfl) dL_law_499 ⟨rfl, rfl⟩ ⟨by show _ ≤ 600000; omega, by show _ ≤ 7302250; omega⟩ (fun ra ω1 hp => ?_)
  obtain ⟨hw', h1⟩ := hp
  rw [hw']
  clear hw'
  refine z_aload_n (i := 2) (pc := 502) C rfl rfl dL_law_502 ?_
  refine z_aload_n (i := 0) (pc := 503) C rfl rfl dL_law_503 ?_
  refine z_iload_n (i := 3) (pc := 504) C rfl rfl dL_law_504 ?_
  refine z_iconst (pc := 505) C dL_law_505 ?_
  refine z_iadd (pc := 506) C dL_law_506 ?_
  refine z_sld (pc := 507) C S (i + 1) (by omega) (by omega) e1 dL_law_507 ?_
  refine z_aload_n (i := 0) (pc := 508) C rfl rfl dL_law_508 ?_
  refine z_iload_n (i := 3) (pc := 509) C rfl rfl dL_law_509 ?_
  refine z_iconst (pc := 510) C dL_law_510 ?_
  refine z_iadd (pc := 511) C dL_law_511 ?_
  refine z_sld (pc := 512) C S (i + 2) (by omega) (by omega) e2 dL_law_512 ?_
  refine z_callVi (pc := 513) C (c_X7_deep hD hrt r1 r2) k_L_55 zy_X7_deep rfl rfl hM0 rfl rfl ⟨(Nat.le_of_ble_eq_true rfl), (Nat.le_of_ble_eq_true rfl)⟩ (Nat.le_of_ble_eq_true rfl) dL_law_513 ⟨rfl, rfl⟩ ⟨by show _ ≤ 600000; omega, by show _ ≤ 7302250; omega⟩ (fun rb ω2 hp => ?_)
  obtain ⟨hw', h2⟩ := hp
  rw [hw']
  clear hw'
  have he : ra = rb := by
    rcases h1 with ⟨a1, a2, rfl⟩ | ⟨n1, rfl⟩ <;> rcases h2 with ⟨b1, b2, rfl⟩ | ⟨n2, rfl⟩
    · obtain ⟨t, rfl⟩ := Int.eq_ofNat_of_zero_le (show 0 ≤ y1 by omega)
      rw [show ((t : Int)).toNat = t by omega, hE t (by omega) (by omega)]
    · exact absurd ⟨a1, a2⟩ n2
    · exact absurd ⟨b1, b2⟩ n1
    · rfl
  subst he
  have hJ2 := hJ
  exact z_icmp_same (tgt := 818) (pc := 516) C dL_law_516 (by decide) (K ω c hJ2)
set_option maxRecDepth 100000 in
set_option maxHeartbeats 4000000 in
theorem law_12 {Γ : zG} {l0 : Launch} {X : zX} {b L : Nat} {xs : Nat → Int32} {x c i : Nat} {ω : zWd} (C : Zc Γ l0 X room_1 4 cL_law RL) (S : zSc Γ b L xs) (hi : i + 6 ≤ L) (hJ : zJn X ω x c) (K : ∀ (ω : zWd) (c : Nat), zJn X ω x c → Zw Γ ω (2504 + c) (190089 + 72 * c) 818 [some (.ref b), some (.ref x), some (.ref (x + 58)), some (.int (zI (i : Int)))] []) : Zw Γ ω (2504 + c) (190089 + 72 * c) 696 [some (.ref b), some (.ref x), some (.ref (x + 58)), some (.int (zI (i : Int)))] [] := by
  have hL := S.l
  obtain ⟨bk, nv, bh, rt, tc, dc, tm, dm, hR, hD, hc, hbh, hrt, hnv, hT, hE⟩ := id hJ
  have hc3 : c ≤ 3698 := by omega
  obtain ⟨fx, hX0⟩ := hR.x
  obtain ⟨fm, hM0⟩ := hD.x
  obtain ⟨y1, e1, r1⟩ : ∃ y : Int, xs (i + 1) = zI y ∧ (-2147483648 ≤ y ∧ y < 2147483648) := ⟨_, (zI_of _).symm, zI_r _⟩
  refine z_aload_n (i := 1) (pc := 696) C rfl rfl dL_law_696 ?_
  refine z_aload_n (i := 0) (pc := 697) C rfl rfl dL_law_697 ?_
  refine z_iload_n (i := 3) (pc := 698) C rfl rfl dL_law_698 ?_
  refine z_iconst (pc := 699) C dL_law_699 ?_
  refine z_iadd (pc := 700) C dL_law_700 ?_
  refine z_sld (pc := 701) C S (i + 1) (by omega) (by omega) e1 dL_law_701 ?_
  refine z_callVi (pc := 702) C (c_X6_digit hR (by omega) r1) k_L_71 zy_X6_digit rfl rfl hX0 rfl rfl ⟨(Nat.le_of_ble_eq_true rfl), (Nat.le_of_ble_eq_true rfl)⟩ (Nat.le_of_ble_eq_true rfl) dL_law_702 ⟨rfl, rfl⟩ ⟨by show _ ≤ 600000; omega, by show _ ≤ 7302250; omega⟩ (fun ra ω1 hp => ?_)
  obtain ⟨hw', h1⟩ := hp
  rw [hw']
  clear hw'
  refine z_aload_n (i := 2) (pc := 705) C rfl rfl dL_law_705 ?_
  refine z_aload_n (i := 0) (pc := 706) C rfl rfl dL_law_706 ?_
  refine z_iload_n (i := 3) (pc := 707) C rfl rfl dL_law_707 ?_
  refine z_iconst (pc := 708) C dL_law_708 ?_
  refine z_iadd (pc := 709) C dL_law_709 ?_
  refine z_sld (pc := 710) C S (i + 1) (by omega) (by omega) e1 dL_law_710 ?_
  refine z_callVi (pc := 711) C (c_X7_digit hD hbh r1) k_L_75 zy_X7_digit rfl rfl hM0 rfl rfl ⟨(Nat.le_of_ble_eq_true rfl), (Nat.le_of_ble_eq_true rfl)⟩ (Nat.le_of_ble_eq_true rfl) dL_law_711 ⟨rfl, rfl⟩ ⟨by show _ ≤ 600000; omega, by show _ ≤ 7302250; omega⟩ (fun rb ω2 hp => ?_)
  obtain ⟨hw', h2⟩ := hp
  rw [hw']
  clear hw'
  have he : ra = rb := by
    rcases h1 with ⟨a1, rfl⟩ | ⟨a1, rfl⟩ | ⟨a1, rfl⟩ <;> rcases h2 with ⟨b1, rfl⟩ | ⟨b1, rfl⟩ | ⟨b1, rfl⟩ <;> first | rfl | (exfalso; omega) | exact zdig0 hnv | (rw [show (((3 * bh : Nat)) : Int) = 3 * (bh : Int) by omega])
  subst he
  have hJ2 := hJ
  exact z_icmp_same (tgt := 818) (pc := 714) C dL_law_714 (by decide) (K ω c hJ2)
set_option maxRecDepth 100000 in
set_option maxHeartbeats 4000000 in
theorem law_13 {Γ : zG} {l0 : Launch} {X : zX} {b L : Nat} {xs : Nat → Int32} {x c i : Nat} {ω : zWd} (C : Zc Γ l0 X room_1 4 cL_law RL) (S : zSc Γ b L xs) (hi : i + 6 ≤ L) (hJ : zJn X ω x c) (K : ∀ (ω : zWd) (c : Nat), zJn X ω x c → Zw Γ ω (2504 + c) (190089 + 72 * c) 818 [some (.ref b), some (.ref x), some (.ref (x + 58)), some (.int (zI (i : Int)))] []) : Zw Γ ω (2504 + c) (190089 + 72 * c) 719 [some (.ref b), some (.ref x), some (.ref (x + 58)), some (.int (zI (i : Int)))] [] := by
  have hL := S.l
  obtain ⟨bk, nv, bh, rt, tc, dc, tm, dm, hR, hD, hc, hbh, hrt, hnv, hT, hE⟩ := id hJ
  have hc3 : c ≤ 3698 := by omega
  obtain ⟨fx, hX0⟩ := hR.x
  obtain ⟨fm, hM0⟩ := hD.x

  refine z_aload_n (i := 1) (pc := 719) C rfl rfl dL_law_719 ?_
  refine z_callVi (pc := 720) C (c_X6_decimals hR) k_L_76 zy_X6_decimals rfl rfl hX0 rfl rfl ⟨(Nat.le_of_ble_eq_true rfl), (Nat.le_of_ble_eq_true rfl)⟩ (Nat.le_of_ble_eq_true rfl) dL_law_720 ⟨rfl, rfl⟩ ⟨by show _ ≤ 600000; omega, by show _ ≤ 7302250; omega⟩ (fun ra ω1 hp => ?_)
  obtain ⟨hw', h1⟩ := hp
  rw [hw']
  clear hw'
  refine z_aload_n (i := 2) (pc := 723) C rfl rfl dL_law_723 ?_
  refine z_callVi (pc := 724) C (c_X7_decimals hD) k_L_80 zy_X7_decimals rfl rfl hM0 rfl rfl ⟨(Nat.le_of_ble_eq_true rfl), (Nat.le_of_ble_eq_true rfl)⟩ (Nat.le_of_ble_eq_true rfl) dL_law_724 ⟨rfl, rfl⟩ ⟨by show _ ≤ 600000; omega, by show _ ≤ 7302250; omega⟩ (fun rb ω2 hp => ?_)
  obtain ⟨hw', h2⟩ := hp
  rw [hw']
  clear hw'
  have he : ra = rb := by
    rw [h1, h2]
    omega
  subst he
  have hJ2 := hJ
  exact z_icmp_same (tgt := 818) (pc := 727) C dL_law_727 (by decide) (K ω c hJ2)
set_option maxRecDepth 100000 in
set_option maxHeartbeats 4000000 in
theorem law_15 {Γ : zG} {l0 : Launch} {X : zX} {b L : Nat} {xs : Nat → Int32} {x c i : Nat} {ω : zWd} (C : Zc Γ l0 X room_1 4 cL_law RL) (S : zSc Γ b L xs) (hi : i + 6 ≤ L) (hJ : zJn X ω x c) (K : ∀ (ω : zWd) (c : Nat), zJn X ω x c → Zw Γ ω (2504 + c) (190089 + 72 * c) 818 [some (.ref b), some (.ref x), some (.ref (x + 58)), some (.int (zI (i : Int)))] []) : Zw Γ ω (2504 + c) (190089 + 72 * c) 785 [some (.ref b), some (.ref x), some (.ref (x + 58)), some (.int (zI (i : Int)))] [] := by
  have hL := S.l
  obtain ⟨bk, nv, bh, rt, tc, dc, tm, dm, hR, hD, hc, hbh, hrt, hnv, hT, hE⟩ := id hJ
  have hc3 : c ≤ 3698 := by omega
  obtain ⟨fx, hX0⟩ := hR.x
  obtain ⟨fm, hM0⟩ := hD.x
  obtain ⟨y1, e1, r1⟩ : ∃ y : Int, xs (i + 1) = zI y ∧ (-2147483648 ≤ y ∧ y < 2147483648) := ⟨_, (zI_of _).symm, zI_r _⟩
  obtain ⟨y2, e2, r2⟩ : ∃ y : Int, xs (i + 2) = zI y ∧ (-2147483648 ≤ y ∧ y < 2147483648) := ⟨_, (zI_of _).symm, zI_r _⟩
  refine z_aload_n (i := 1) (pc := 785) C rfl rfl dL_law_785 ?_
  refine z_aload_n (i := 0) (pc := 786) C rfl rfl dL_law_786 ?_
  refine z_iload_n (i := 3) (pc := 787) C rfl rfl dL_law_787 ?_
  refine z_iconst (pc := 788) C dL_law_788 ?_
  refine z_iadd (pc := 789) C dL_law_789 ?_
  refine z_sld (pc := 790) C S (i + 1) (by omega) (by omega) e1 dL_law_790 ?_
  refine z_aload_n (i := 0) (pc := 791) C rfl rfl dL_law_791 ?_
  refine z_iload_n (i := 3) (pc := 792) C rfl rfl dL_law_792 ?_
  refine z_iconst (pc := 793) C dL_law_793 ?_
  refine z_iadd (pc := 794) C dL_law_794 ?_
  refine z_sld (pc := 795) C S (i + 2) (by omega) (by omega) e2 dL_law_795 ?_
  refine z_callVi (pc := 796) C (c_X6_lighter hR r1 r2) k_L_86 zy_X6_lighter rfl rfl hX0 rfl rfl ⟨(Nat.le_of_ble_eq_true rfl), (Nat.le_of_ble_eq_true rfl)⟩ (Nat.le_of_ble_eq_true rfl) dL_law_796 ⟨rfl, rfl⟩ ⟨by show _ ≤ 600000; omega, by show _ ≤ 7302250; omega⟩ (fun ra ω1 hp => ?_)
  obtain ⟨hw', h1⟩ := hp
  rw [hw']
  clear hw'
  refine z_aload_n (i := 2) (pc := 799) C rfl rfl dL_law_799 ?_
  refine z_aload_n (i := 0) (pc := 800) C rfl rfl dL_law_800 ?_
  refine z_iload_n (i := 3) (pc := 801) C rfl rfl dL_law_801 ?_
  refine z_iconst (pc := 802) C dL_law_802 ?_
  refine z_iadd (pc := 803) C dL_law_803 ?_
  refine z_sld (pc := 804) C S (i + 1) (by omega) (by omega) e1 dL_law_804 ?_
  refine z_aload_n (i := 0) (pc := 805) C rfl rfl dL_law_805 ?_
  refine z_iload_n (i := 3) (pc := 806) C rfl rfl dL_law_806 ?_
  refine z_iconst (pc := 807) C dL_law_807 ?_
  refine z_iadd (pc := 808) C dL_law_808 ?_
  refine z_sld (pc := 809) C S (i + 2) (by omega) (by omega) e2 dL_law_809 ?_
  refine z_callVi (pc := 810) C (c_X7_lighter hD r1 r2) k_L_89 zy_X7_lighter rfl rfl hM0 rfl rfl ⟨(Nat.le_of_ble_eq_true rfl), (Nat.le_of_ble_eq_true rfl)⟩ (Nat.le_of_ble_eq_true rfl) dL_law_810 ⟨rfl, rfl⟩ ⟨by show _ ≤ 600000; omega, by show _ ≤ 7302250; omega⟩ (fun rb ω2 hp => ?_)
  obtain ⟨hw', h2⟩ := hp
  rw [hw']
  clear hw'
  have he : ra = rb := by
    rcases h1 with ⟨a1, a2, a3, rfl⟩ | ⟨n1, rfl⟩ <;> rcases h2 with ⟨b1, b2, b3, rfl⟩ | ⟨n2, rfl⟩
    · rfl
    · exact absurd ⟨a1, a2, a3⟩ n2
    · exact absurd ⟨b1, b2, b3⟩ n1
    · rfl
  subst he
  have hJ2 := hJ
  exact z_icmp_same (tgt := 818) (pc := 813) C dL_law_813 (by decide) (K ω c hJ2)
set_option maxRecDepth 100000 in
set_option maxHeartbeats 4000000 in
theorem law_14 {Γ : zG} {l0 : Launch} {X : zX} {b L : Nat} {xs : Nat → Int32} {x c i : Nat} {ω : zWd} (C : Zc Γ l0 X room_1 4 cL_law RL) (S : zSc Γ b L xs) (hi : i + 6 ≤ L) (hJ : zJn X ω x c) (K : ∀ (ω : zWd) (c : Nat), zJn X ω x c → Zw Γ ω (2504 + c) (190089 + 72 * c) 818 [some (.ref b), some (.ref x), some (.ref (x + 58)), some (.int (zI (i : Int)))] []) : Zw Γ ω (2504 + c) (190089 + 72 * c) 732 [some (.ref b), some (.ref x), some (.ref (x + 58)), some (.int (zI (i : Int)))] [] := by
  have hL := S.l
  obtain ⟨bk, nv, bh, rt, tc, dc, tm, dm, hR, hD, hc, hbh, hrt, hnv, hT, hE⟩ := id hJ
  have hc3 : c ≤ 3698 := by omega
  obtain ⟨fx, hX0⟩ := hR.x
  obtain ⟨fm, hM0⟩ := hD.x
  obtain ⟨y1, e1, r1⟩ : ∃ y : Int, xs (i + 1) = zI y ∧ (-2147483648 ≤ y ∧ y < 2147483648) := ⟨_, (zI_of _).symm, zI_r _⟩
  obtain ⟨y2, e2, r2⟩ : ∃ y : Int, xs (i + 2) = zI y ∧ (-2147483648 ≤ y ∧ y < 2147483648) := ⟨_, (zI_of _).symm, zI_r _⟩
  obtain ⟨y3, e3, r3⟩ : ∃ y : Int, xs (i + 3) = zI y ∧ (-2147483648 ≤ y ∧ y < 2147483648) := ⟨_, (zI_of _).symm, zI_r _⟩
  obtain ⟨y4, e4, r4⟩ : ∃ y : Int, xs (i + 4) = zI y ∧ (-2147483648 ≤ y ∧ y < 2147483648) := ⟨_, (zI_of _).symm, zI_r _⟩
  refine z_aload_n (i := 1) (pc := 732) C rfl rfl dL_law_732 ?_
  refine z_aload_n (i := 0) (pc := 733) C rfl rfl dL_law_733 ?_
  refine z_iload_n (i := 3) (pc := 734) C rfl rfl dL_law_734 ?_
  refine z_iconst (pc := 735) C dL_law_735 ?_
  refine z_iadd (pc := 736) C dL_law_736 ?_
  refine z_sld (pc := 737) C S (i + 1) (by omega) (by omega) e1 dL_law_737 ?_
  refine z_aload_n (i := 0) (pc := 738) C rfl rfl dL_law_738 ?_
  refine z_iload_n (i := 3) (pc := 739) C rfl rfl dL_law_739 ?_
  refine z_iconst (pc := 740) C dL_law_740 ?_
  refine z_iadd (pc := 741) C dL_law_741 ?_
  refine z_sld (pc := 742) C S (i + 2) (by omega) (by omega) e2 dL_law_742 ?_
  refine z_aload_n (i := 0) (pc := 743) C rfl rfl dL_law_743 ?_
  refine z_iload_n (i := 3) (pc := 744) C rfl rfl dL_law_744 ?_
  refine z_iconst (pc := 745) C dL_law_745 ?_
  refine z_iadd (pc := 746) C dL_law_746 ?_
  refine z_sld (pc := 747) C S (i + 3) (by omega) (by omega) e3 dL_law_747 ?_
  refine z_aload_n (i := 0) (pc := 748) C rfl rfl dL_law_748 ?_
  refine z_iload_n (i := 3) (pc := 749) C rfl rfl dL_law_749 ?_
  refine z_iconst (pc := 750) C dL_law_750 ?_
  refine z_iadd (pc := 751) C dL_law_751 ?_
  refine z_sld (pc := 752) C S (i + 4) (by omega) (by omega) e4 dL_law_752 ?_
  refine z_callVi (pc := 753) C (c_X6_just hR r1 r2 r3 r4) k_L_81 zy_X6_just rfl rfl hX0 rfl rfl ⟨(Nat.le_of_ble_eq_true rfl), (Nat.le_of_ble_eq_true rfl)⟩ (Nat.le_of_ble_eq_true rfl) dL_law_753 ⟨rfl, rfl⟩ ⟨by show _ ≤ 600000; omega, by show _ ≤ 7302250; omega⟩ (fun ra ω1 hp => ?_)
  obtain ⟨ho, h1⟩ := hp
  have hM1 := (ho.1 (x + 58) (by omega)).trans hM0
  have hD1 := hD.fr (ω2 := ω1) (fun b q1 q2 => ho.1 b (by omega)) ho.2
  refine z_aload_n (i := 2) (pc := 756) C rfl rfl dL_law_756 ?_
  refine z_aload_n (i := 0) (pc := 757) C rfl rfl dL_law_757 ?_
  refine z_iload_n (i := 3) (pc := 758) C rfl rfl dL_law_758 ?_
  refine z_iconst (pc := 759) C dL_law_759 ?_
  refine z_iadd (pc := 760) C dL_law_760 ?_
  refine z_sld (pc := 761) C S (i + 1) (by omega) (by omega) e1 dL_law_761 ?_
  refine z_aload_n (i := 0) (pc := 762) C rfl rfl dL_law_762 ?_
  refine z_iload_n (i := 3) (pc := 763) C rfl rfl dL_law_763 ?_
  refine z_iconst (pc := 764) C dL_law_764 ?_
  refine z_iadd (pc := 765) C dL_law_765 ?_
  refine z_sld (pc := 766) C S (i + 2) (by omega) (by omega) e2 dL_law_766 ?_
  refine z_aload_n (i := 0) (pc := 767) C rfl rfl dL_law_767 ?_
  refine z_iload_n (i := 3) (pc := 768) C rfl rfl dL_law_768 ?_
  refine z_iconst (pc := 769) C dL_law_769 ?_
  refine z_iadd (pc := 770) C dL_law_770 ?_
  refine z_sld (pc := 771) C S (i + 3) (by omega) (by omega) e3 dL_law_771 ?_
  refine z_aload_n (i := 0) (pc := 772) C rfl rfl dL_law_772 ?_
  refine z_iload_n (i := 3) (pc := 773) C rfl rfl dL_law_773 ?_
  refine z_iconst (pc := 774) C dL_law_774 ?_
  refine z_iadd (pc := 775) C dL_law_775 ?_
  refine z_sld (pc := 776) C S (i + 4) (by omega) (by omega) e4 dL_law_776 ?_
  refine z_callVi (pc := 777) C (c_X7_just hD1 r1 r2 r3 r4) k_L_85 zy_X7_just rfl rfl hM1 rfl rfl ⟨(Nat.le_of_ble_eq_true rfl), (Nat.le_of_ble_eq_true rfl)⟩ (Nat.le_of_ble_eq_true rfl) dL_law_777 ⟨rfl, rfl⟩ ⟨by show _ ≤ 600000; omega, by show _ ≤ 7302250; omega⟩ (fun rb ω2 hp => ?_)
  obtain ⟨hk, h2⟩ := hp
  obtain ⟨he, hJ2⟩ : ra = rb ∧ zJn X ω2 x c := by
    obtain ⟨hR1, h1⟩ := h1
    obtain ⟨hD2, h2⟩ := h2
    refine ⟨?_, ⟨_, nv, bh, rt, tc, dc, tm, dm, (hR1.fr (fun b q1 q2 => hk.1 b (by omega))), hD2, hc, hbh, hrt, hnv, hT, hE⟩⟩
    rcases h1 with ⟨a1, a2, a3, a4⟩ | ⟨n1, rfl⟩ <;> rcases h2 with ⟨b1, b2, b3, b4⟩ | ⟨n2, rfl⟩
    · rcases Int.lt_trichotomy ra rb with q | q | q
      · exact absurd a3 (b4 ra a2.1 q)
      · exact q
      · exact absurd b3 (a4 rb b2.1 q)
    · exact absurd a1 n2
    · exact absurd b1 n1
    · rfl
  subst he
  exact z_icmp_same (tgt := 818) (pc := 780) C dL_law_780 (by decide) (K ω2 c hJ2)
set_option maxRecDepth 100000 in
set_option maxHeartbeats 4000000 in
theorem law_9 {Γ : zG} {l0 : Launch} {X : zX} {b L : Nat} {xs : Nat → Int32} {x c i : Nat} {ω : zWd} (C : Zc Γ l0 X room_1 4 cL_law RL) (S : zSc Γ b L xs) (hi : i + 6 ≤ L) (hJ : zJn X ω x c) (K : ∀ (ω : zWd) (c : Nat), zJn X ω x c → Zw Γ ω (2504 + c) (190089 + 72 * c) 818 [some (.ref b), some (.ref x), some (.ref (x + 58)), some (.int (zI (i : Int)))] []) : Zw Γ ω (2504 + c) (190089 + 72 * c) 521 [some (.ref b), some (.ref x), some (.ref (x + 58)), some (.int (zI (i : Int)))] [] := by
  have hL := S.l
  obtain ⟨bk, nv, bh, rt, tc, dc, tm, dm, hR, hD, hc, hbh, hrt, hnv, hT, hE⟩ := id hJ
  have hc3 : c ≤ 3698 := by omega
  obtain ⟨fx, hX0⟩ := hR.x
  obtain ⟨fm, hM0⟩ := hD.x
  obtain ⟨y1, e1, r1⟩ : ∃ y : Int, xs (i + 1) = zI y ∧ (-2147483648 ≤ y ∧ y < 2147483648) := ⟨_, (zI_of _).symm, zI_r _⟩
  obtain ⟨y2, e2, r2⟩ : ∃ y : Int, xs (i + 2) = zI y ∧ (-2147483648 ≤ y ∧ y < 2147483648) := ⟨_, (zI_of _).symm, zI_r _⟩
  refine z_aload_n (i := 1) (pc := 521) C rfl rfl dL_law_521 ?_
  refine z_aload_n (i := 0) (pc := 522) C rfl rfl dL_law_522 ?_
  refine z_iload_n (i := 3) (pc := 523) C rfl rfl dL_law_523 ?_
  refine z_iconst (pc := 524) C dL_law_524 ?_
  refine z_iadd (pc := 525) C dL_law_525 ?_
  refine z_sld (pc := 526) C S (i + 1) (by omega) (by omega) e1 dL_law_526 ?_
  refine z_aload_n (i := 0) (pc := 527) C rfl rfl dL_law_527 ?_
  refine z_iload_n (i := 3) (pc := 528) C rfl rfl dL_law_528 ?_
  refine z_iconst (pc := 529) C dL_law_529 ?_
  refine z_iadd (pc := 530) C dL_law_530 ?_
  refine z_sld (pc := 531) C S (i + 2) (by omega) (by omega) e2 dL_law_531 ?_
  refine z_callVi (pc := 532) C (c_X6_ever hR r1 r2) k_L_56 zy_X6_ever rfl rfl hX0 rfl rfl ⟨(Nat.le_of_ble_eq_true rfl), (Nat.le_of_ble_eq_true rfl)⟩ (Nat.le_of_ble_eq_true rfl) dL_law_532 ⟨rfl, rfl⟩ ⟨by show _ ≤ 600000; omega, by show _ ≤ 7302250; omega⟩ (fun ra ω1 hp => ?_)
  obtain ⟨ho, h1⟩ := hp
  have hM1 := (ho.1 (x + 58) (by omega)).trans hM0
  have hD1 := hD.fr (ω2 := ω1) (fun b q1 q2 => ho.1 b (by omega)) ho.2
  refine z_aload_n (i := 2) (pc := 535) C rfl rfl dL_law_535 ?_
  refine z_aload_n (i := 0) (pc := 536) C rfl rfl dL_law_536 ?_
  refine z_iload_n (i := 3) (pc := 537) C rfl rfl dL_law_537 ?_
  refine z_iconst (pc := 538) C dL_law_538 ?_
  refine z_iadd (pc := 539) C dL_law_539 ?_
  refine z_sld (pc := 540) C S (i + 1) (by omega) (by omega) e1 dL_law_540 ?_
  refine z_aload_n (i := 0) (pc := 541) C rfl rfl dL_law_541 ?_
  refine z_iload_n (i := 3) (pc := 542) C rfl rfl dL_law_542 ?_
  refine z_iconst (pc := 543) C dL_law_543 ?_
  refine z_iadd (pc := 544) C dL_law_544 ?_
  refine z_sld (pc := 545) C S (i + 2) (by omega) (by omega) e2 dL_law_545 ?_
  refine z_callVi (pc := 546) C (c_X7_ever hD1 r1 r2) k_L_60 zy_X7_ever rfl rfl hM1 rfl rfl ⟨(Nat.le_of_ble_eq_true rfl), (Nat.le_of_ble_eq_true rfl)⟩ (Nat.le_of_ble_eq_true rfl) dL_law_546 ⟨rfl, rfl⟩ ⟨by show _ ≤ 600000; omega, by show _ ≤ 7302250; omega⟩ (fun rb ω2 hp => ?_)
  obtain ⟨hk, h2⟩ := hp
  obtain ⟨he, hJ2⟩ : ra = rb ∧ zJn X ω2 x c := by
    rcases h1 with ⟨a1, rfl, hR1⟩ | ⟨n1, rfl, hR1⟩ <;> rcases h2 with ⟨b1, rfl, hD2⟩ | ⟨n2, rfl, hD2⟩
    · exact ⟨rfl, ⟨_, _, 10, rt, tc, dc, tm, dm, (hR1.fr (fun b q1 q2 => hk.1 b (by omega))), hD2, hc, (by omega), hrt, (zevr_b (hD.pt.2 y2.toNat (by have := a1.1.1; have := a1.1.2.1; omega)) a1.1.2.2 _), hT, hE⟩⟩
    · exact absurd a1 n2
    · exact absurd b1 n1
    · exact ⟨rfl, ⟨_, nv, bh, rt, tc, dc, tm, dm, (hR1.fr (fun b q1 q2 => hk.1 b (by omega))), hD2, hc, hbh, hrt, hnv, hT, hE⟩⟩
  subst he
  exact z_icmp_same (tgt := 818) (pc := 549) C dL_law_549 (by decide) (K ω2 c hJ2)
set_option maxRecDepth 100000 in
set_option maxHeartbeats 4000000 in
theorem law_10 {Γ : zG} {l0 : Launch} {X : zX} {b L : Nat} {xs : Nat → Int32} {x c i : Nat} {ω : zWd} (C : Zc Γ l0 X room_1 4 cL_law RL) (S : zSc Γ b L xs) (hi : i + 6 ≤ L) (hJ : zJn X ω x c) (K : ∀ (ω : zWd) (c : Nat), zJn X ω x c → Zw Γ ω (2504 + c) (190089 + 72 * c) 818 [some (.ref b), some (.ref x), some (.ref (x + 58)), some (.int (zI (i : Int)))] []) : Zw Γ ω (2504 + c) (190089 + 72 * c) 554 [some (.ref b), some (.ref x), some (.ref (x + 58)), some (.int (zI (i : Int)))] [] := by
  have hL := S.l
  obtain ⟨bk, nv, bh, rt, tc, dc, tm, dm, hR, hD, hc, hbh, hrt, hnv, hT, hE⟩ := id hJ
  have hc3 : c ≤ 3698 := by omega
  obtain ⟨fx, hX0⟩ := hR.x
  obtain ⟨fm, hM0⟩ := hD.x
  obtain ⟨y1, e1, r1⟩ : ∃ y : Int, xs (i + 1) = zI y ∧ (-2147483648 ≤ y ∧ y < 2147483648) := ⟨_, (zI_of _).symm, zI_r _⟩
  obtain ⟨y2, e2, r2⟩ : ∃ y : Int, xs (i + 2) = zI y ∧ (-2147483648 ≤ y ∧ y < 2147483648) := ⟨_, (zI_of _).symm, zI_r _⟩
  obtain ⟨y3, e3, r3⟩ : ∃ y : Int, xs (i + 3) = zI y ∧ (-2147483648 ≤ y ∧ y < 2147483648) := ⟨_, (zI_of _).symm, zI_r _⟩
  obtain ⟨y4, e4, r4⟩ : ∃ y : Int, xs (i + 4) = zI y ∧ (-2147483648 ≤ y ∧ y < 2147483648) := ⟨_, (zI_of _).symm, zI_r _⟩
  obtain ⟨y5, e5, r5⟩ : ∃ y : Int, xs (i + 5) = zI y ∧ (-2147483648 ≤ y ∧ y < 2147483648) := ⟨_, (zI_of _).symm, zI_r _⟩
  refine z_aload_n (i := 1) (pc := 554) C rfl rfl dL_law_554 ?_
  refine z_aload_n (i := 0) (pc := 555) C rfl rfl dL_law_555 ?_
  refine z_iload_n (i := 3) (pc := 556) C rfl rfl dL_law_556 ?_
  refine z_iconst (pc := 557) C dL_law_557 ?_
  refine z_iadd (pc := 558) C dL_law_558 ?_
  refine z_sld (pc := 559) C S (i + 1) (by omega) (by omega) e1 dL_law_559 ?_
  refine z_aload_n (i := 0) (pc := 560) C rfl rfl dL_law_560 ?_
  refine z_iload_n (i := 3) (pc := 561) C rfl rfl dL_law_561 ?_
  refine z_iconst (pc := 562) C dL_law_562 ?_
  refine z_iadd (pc := 563) C dL_law_563 ?_
  refine z_sld (pc := 564) C S (i + 2) (by omega) (by omega) e2 dL_law_564 ?_
  refine z_aload_n (i := 0) (pc := 565) C rfl rfl dL_law_565 ?_
  refine z_iload_n (i := 3) (pc := 566) C rfl rfl dL_law_566 ?_
  refine z_iconst (pc := 567) C dL_law_567 ?_
  refine z_iadd (pc := 568) C dL_law_568 ?_
  refine z_sld (pc := 569) C S (i + 3) (by omega) (by omega) e3 dL_law_569 ?_
  refine z_aload_n (i := 0) (pc := 570) C rfl rfl dL_law_570 ?_
  refine z_iload_n (i := 3) (pc := 571) C rfl rfl dL_law_571 ?_
  refine z_iconst (pc := 572) C dL_law_572 ?_
  refine z_iadd (pc := 573) C dL_law_573 ?_
  refine z_sld (pc := 574) C S (i + 4) (by omega) (by omega) e4 dL_law_574 ?_
  refine z_aload_n (i := 0) (pc := 575) C rfl rfl dL_law_575 ?_
  refine z_iload_n (i := 3) (pc := 576) C rfl rfl dL_law_576 ?_
  refine z_iconst (pc := 577) C dL_law_577 ?_
  refine z_iadd (pc := 578) C dL_law_578 ?_
  refine z_sld (pc := 579) C S (i + 5) (by omega) (by omega) e5 dL_law_579 ?_
  refine z_callVi (pc := 580) C (c_X6_worth hR r1 r2 r3 r4 r5) k_L_61 zy_X6_worth rfl rfl hX0 rfl rfl ⟨(Nat.le_of_ble_eq_true rfl), (Nat.le_of_ble_eq_true rfl)⟩ (Nat.le_of_ble_eq_true rfl) dL_law_580 ⟨rfl, rfl⟩ ⟨by show _ ≤ 600000; omega, by show _ ≤ 7302250; omega⟩ (fun ra ω1 hp => ?_)
  obtain ⟨ho, h1⟩ := hp
  have hM1 := (ho.1 (x + 58) (by omega)).trans hM0
  have hD1 := hD.fr (ω2 := ω1) (fun b q1 q2 => ho.1 b (by omega)) ho.2
  refine z_aload_n (i := 2) (pc := 583) C rfl rfl dL_law_583 ?_
  refine z_aload_n (i := 0) (pc := 584) C rfl rfl dL_law_584 ?_
  refine z_iload_n (i := 3) (pc := 585) C rfl rfl dL_law_585 ?_
  refine z_iconst (pc := 586) C dL_law_586 ?_
  refine z_iadd (pc := 587) C dL_law_587 ?_
  refine z_sld (pc := 588) C S (i + 1) (by omega) (by omega) e1 dL_law_588 ?_
  refine z_aload_n (i := 0) (pc := 589) C rfl rfl dL_law_589 ?_
  refine z_iload_n (i := 3) (pc := 590) C rfl rfl dL_law_590 ?_
  refine z_iconst (pc := 591) C dL_law_591 ?_
  refine z_iadd (pc := 592) C dL_law_592 ?_
  refine z_sld (pc := 593) C S (i + 2) (by omega) (by omega) e2 dL_law_593 ?_
  refine z_aload_n (i := 0) (pc := 594) C rfl rfl dL_law_594 ?_
  refine z_iload_n (i := 3) (pc := 595) C rfl rfl dL_law_595 ?_
  refine z_iconst (pc := 596) C dL_law_596 ?_
  refine z_iadd (pc := 597) C dL_law_597 ?_
  refine z_sld (pc := 598) C S (i + 3) (by omega) (by omega) e3 dL_law_598 ?_
  refine z_aload_n (i := 0) (pc := 599) C rfl rfl dL_law_599 ?_
  refine z_iload_n (i := 3) (pc := 600) C rfl rfl dL_law_600 ?_
  refine z_iconst (pc := 601) C dL_law_601 ?_
  refine z_iadd (pc := 602) C dL_law_602 ?_
  refine z_sld (pc := 603) C S (i + 4) (by omega) (by omega) e4 dL_law_603 ?_
  refine z_aload_n (i := 0) (pc := 604) C rfl rfl dL_law_604 ?_
  refine z_iload_n (i := 3) (pc := 605) C rfl rfl dL_law_605 ?_
  refine z_iconst (pc := 606) C dL_law_606 ?_
  refine z_iadd (pc := 607) C dL_law_607 ?_
  refine z_sld (pc := 608) C S (i + 5) (by omega) (by omega) e5 dL_law_608 ?_
  refine z_callVi (pc := 609) C (c_X7_worth hD1 r1 r2 r3 r4 r5) k_L_65 zy_X7_worth rfl rfl hM1 rfl rfl ⟨(Nat.le_of_ble_eq_true rfl), (Nat.le_of_ble_eq_true rfl)⟩ (Nat.le_of_ble_eq_true rfl) dL_law_609 ⟨rfl, rfl⟩ ⟨by show _ ≤ 600000; omega, by show _ ≤ 7302250; omega⟩ (fun rb ω2 hp => ?_)
  obtain ⟨hk, h2⟩ := hp
  obtain ⟨he, hJ2⟩ : ra = rb ∧ zJn X ω2 x c := by
    rcases h1 with ⟨a1, rfl, hR1⟩ | ⟨n1, rfl, hR1⟩ <;> rcases h2 with ⟨b1, rfl, hD2⟩ | ⟨n2, rfl, hD2⟩
    · obtain ⟨z1, z2, z3, z4, z5⟩ := a1
      have hR1 := hR1.fr (ω2 := ω2) (fun b q1 q2 => hk.1 b (by omega))
      rw [show 6 * y5.toNat = 3 * (2 * y5.toNat) by omega] at hR1
      exact ⟨rfl, ⟨_, _, (2 * y5.toNat), rt, tc, dc, tm, dm, hR1, hD2, hc, (by omega), hrt, (zworth_b (hD.pt.2 y3.toNat (by have := z1.1; have := z1.2.1; omega)) z1.2.2 z4 z3 z2 (by omega)), hT, hE⟩⟩
    · exact absurd a1 n2
    · exact absurd b1 n1
    · exact ⟨rfl, ⟨_, nv, bh, rt, tc, dc, tm, dm, (hR1.fr (fun b q1 q2 => hk.1 b (by omega))), hD2, hc, hbh, hrt, hnv, hT, hE⟩⟩
  subst he
  exact z_icmp_same (tgt := 818) (pc := 612) C dL_law_612 (by decide) (K ω2 c hJ2)
set_option maxRecDepth 100000 in
set_option maxHeartbeats 4000000 in
theorem law_6 {Γ : zG} {l0 : Launch} {X : zX} {b L : Nat} {xs : Nat → Int32} {x c i : Nat} {ω : zWd} (C : Zc Γ l0 X room_1 4 cL_law RL) (S : zSc Γ b L xs) (hi : i + 6 ≤ L) (hJ : zJn X ω x c) (K : ∀ (ω : zWd) (c : Nat), zJn X ω x c → Zw Γ ω (2504 + c) (190089 + 72 * c) 818 [some (.ref b), some (.ref x), some (.ref (x + 58)), some (.int (zI (i : Int)))] []) : Zw Γ ω (2504 + c) (190089 + 72 * c) 402 [some (.ref b), some (.ref x), some (.ref (x + 58)), some (.int (zI (i : Int)))] [] := by
  have hL := S.l
  obtain ⟨bk, nv, bh, rt, tc, dc, tm, dm, hR, hD, hc, hbh, hrt, hnv, hT, hE⟩ := id hJ
  have hc3 : c ≤ 3698 := by omega
  obtain ⟨fx, hX0⟩ := hR.x
  obtain ⟨fm, hM0⟩ := hD.x
  obtain ⟨y1, e1, r1⟩ : ∃ y : Int, xs (i + 1) = zI y ∧ (-2147483648 ≤ y ∧ y < 2147483648) := ⟨_, (zI_of _).symm, zI_r _⟩
  obtain ⟨y2, e2, r2⟩ : ∃ y : Int, xs (i + 2) = zI y ∧ (-2147483648 ≤ y ∧ y < 2147483648) := ⟨_, (zI_of _).symm, zI_r _⟩
  obtain ⟨y3, e3, r3⟩ : ∃ y : Int, xs (i + 3) = zI y ∧ (-2147483648 ≤ y ∧ y < 2147483648) := ⟨_, (zI_of _).symm, zI_r _⟩
  obtain ⟨y4, e4, r4⟩ : ∃ y : Int, xs (i + 4) = zI y ∧ (-2147483648 ≤ y ∧ y < 2147483648) := ⟨_, (zI_of _).symm, zI_r _⟩
  refine z_aload_n (i := 1) (pc := 402) C rfl rfl dL_law_402 ?_
  refine z_aload_n (i := 0) (pc := 403) C rfl rfl dL_law_403 ?_
  refine z_iload_n (i := 3) (pc := 404) C rfl rfl dL_law_404 ?_
  refine z_iconst (pc := 405) C dL_law_405 ?_
  refine z_iadd (pc := 406) C dL_law_406 ?_
  refine z_sld (pc := 407) C S (i + 1) (by omega) (by omega) e1 dL_law_407 ?_
  refine z_aload_n (i := 0) (pc := 408) C rfl rfl dL_law_408 ?_
  refine z_iload_n (i := 3) (pc := 409) C rfl rfl dL_law_409 ?_
  refine z_iconst (pc := 410) C dL_law_410 ?_
  refine z_iadd (pc := 411) C dL_law_411 ?_
  refine z_sld (pc := 412) C S (i + 2) (by omega) (by omega) e2 dL_law_412 ?_
  refine z_aload_n (i := 0) (pc := 413) C rfl rfl dL_law_413 ?_
  refine z_iload_n (i := 3) (pc := 414) C rfl rfl dL_law_414 ?_
  refine z_iconst (pc := 415) C dL_law_415 ?_
  refine z_iadd (pc := 416) C dL_law_416 ?_
  refine z_sld (pc := 417) C S (i + 3) (by omega) (by omega) e3 dL_law_417 ?_
  refine z_aload_n (i := 0) (pc := 418) C rfl rfl dL_law_418 ?_
  refine z_iload_n (i := 3) (pc := 419) C rfl rfl dL_law_419 ?_
  refine z_iconst (pc := 420) C dL_law_420 ?_
  refine z_iadd (pc := 421) C dL_law_421 ?_
  refine z_sld (pc := 422) C S (i + 4) (by omega) (by omega) e4 dL_law_422 ?_
  refine z_callVi (pc := 423) C (c_X6_ruin hR r1 r2 r3 r4) k_L_43 zy_X6_ruin rfl rfl hX0 rfl rfl ⟨(Nat.le_of_ble_eq_true rfl), (Nat.le_of_ble_eq_true rfl)⟩ (Nat.le_of_ble_eq_true rfl) dL_law_423 ⟨rfl, rfl⟩ ⟨by show _ ≤ 600000; omega, by show _ ≤ 7302250; omega⟩ (fun ra ω1 hp => ?_)
  obtain ⟨ho, h1⟩ := hp
  have hM1 := (ho.1 (x + 58) (by omega)).trans hM0
  have hD1 := hD.fr (ω2 := ω1) (fun b q1 q2 => ho.1 b (by omega)) ho.2
  refine z_aload_n (i := 2) (pc := 426) C rfl rfl dL_law_426 ?_
  refine z_aload_n (i := 0) (pc := 427) C rfl rfl dL_law_427 ?_
  refine z_iload_n (i := 3) (pc := 428) C rfl rfl dL_law_428 ?_
  refine z_iconst (pc := 429) C dL_law_429 ?_
  refine z_iadd (pc := 430) C dL_law_430 ?_
  refine z_sld (pc := 431) C S (i + 1) (by omega) (by omega) e1 dL_law_431 ?_
  refine z_aload_n (i := 0) (pc := 432) C rfl rfl dL_law_432 ?_
  refine z_iload_n (i := 3) (pc := 433) C rfl rfl dL_law_433 ?_
  refine z_iconst (pc := 434) C dL_law_434 ?_
  refine z_iadd (pc := 435) C dL_law_435 ?_
  refine z_sld (pc := 436) C S (i + 2) (by omega) (by omega) e2 dL_law_436 ?_
  refine z_aload_n (i := 0) (pc := 437) C rfl rfl dL_law_437 ?_
  refine z_iload_n (i := 3) (pc := 438) C rfl rfl dL_law_438 ?_
  refine z_iconst (pc := 439) C dL_law_439 ?_
  refine z_iadd (pc := 440) C dL_law_440 ?_
  refine z_sld (pc := 441) C S (i + 3) (by omega) (by omega) e3 dL_law_441 ?_
  refine z_aload_n (i := 0) (pc := 442) C rfl rfl dL_law_442 ?_
  refine z_iload_n (i := 3) (pc := 443) C rfl rfl dL_law_443 ?_
  refine z_iconst (pc := 444) C dL_law_444 ?_
  refine z_iadd (pc := 445) C dL_law_445 ?_
  refine z_sld (pc := 446) C S (i + 4) (by omega) (by omega) e4 dL_law_446 ?_
  refine z_callVi (pc := 447) C (c_X7_ruin hD1 r1 r2 r3 r4) k_L_47 zy_X7_ruin rfl rfl hM1 rfl rfl ⟨(Nat.le_of_ble_eq_true rfl), (Nat.le_of_ble_eq_true rfl)⟩ (Nat.le_of_ble_eq_true rfl) dL_law_447 ⟨rfl, rfl⟩ ⟨by show _ ≤ 600000; omega, by show _ ≤ 7302250; omega⟩ (fun rb ω2 hp => ?_)
  obtain ⟨hk, h2⟩ := hp
  obtain ⟨he, hJ2⟩ : ra = rb ∧ zJn X ω2 x c := by
    rcases h1 with ⟨a1, rfl, hR1⟩ | ⟨n1, rfl, hR1⟩ <;> rcases h2 with ⟨b1, rfl, hD2⟩ | ⟨n2, rfl, hD2⟩
    · obtain ⟨z1, z2, z3, z4⟩ := a1
      obtain ⟨pu, rfl⟩ := Int.eq_ofNat_of_zero_le z2.1
      exact ⟨rfl, ⟨_, _, y4.toNat, y4.toNat, _, _, _, _, (hR1.fr (fun b q1 q2 => hk.1 b (by omega))), hD2, hc, (by omega), (by omega), (zruin_b (hD.pt.2 y3.toNat (by have := z1.1; have := z1.2.1; omega)) z1.2.2 z3.1), (fun t t1 t2 => by (try dsimp only); rw [if_pos ⟨t1, t2⟩, if_pos (by omega), show ((t : Int) - 1).toNat = t - 1 by omega]; rfl), (fun k k1 k2 => by (try dsimp only); rw [if_neg (by omega), if_pos (by omega)]; rfl)⟩⟩
    · exact absurd a1 n2
    · exact absurd b1 n1
    · exact ⟨rfl, ⟨_, nv, bh, rt, tc, dc, tm, dm, (hR1.fr (fun b q1 q2 => hk.1 b (by omega))), hD2, hc, hbh, hrt, hnv, hT, hE⟩⟩
  subst he
  exact z_icmp_same (tgt := 818) (pc := 450) C dL_law_450 (by decide) (K ω2 c hJ2)
