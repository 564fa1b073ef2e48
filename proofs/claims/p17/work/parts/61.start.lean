/-! PRINTED by wip/gen5.py: what the Statement gives of texts and of the tables, at the law's start -/
def tx_fl : List Jvm.Cond := flatC (Jvm.Cond.and given_1 narrow_1)
theorem tx_nm {c : Jvm.Cond} (i : Nat) (h : tx_fl[i]? = some c) : c ∈ tx_fl := List.mem_of_getElem? h
def tx_tmL : List (String × Nat) := [("MaskBench", 417), ("MaskBench$Loader", 110), ("MaskBench$Loader", 112), ("MaskBench$Loader", 114), ("MaskBench$Loader", 116), ("MaskBench$Loader", 118), ("MaskBench$Loader", 120), ("MaskBench$Loader", 122), ("MaskBench$Loader", 124), ("MaskBench$Loader", 126), ("MaskBench$Loader", 128), ("MaskBench", 377), ("MaskBench", 383), ("MaskBench", 384), ("MaskBench", 386), ("MaskBench", 401)]
def tx_tm (i : Nat) : Term := Term.string (tx_tmL.getD i ("", 0)).1 (tx_tmL.getD i ("", 0)).2
set_option maxRecDepth 100000 in
set_option maxHeartbeats 4000000 in
theorem tx_ex : ∀ i, i < 16 → Jvm.Cond.exactly (tx_tm i) "java/lang/String" ∈ tx_fl := (lt_s (lt_s (lt_s (lt_s (lt_s (lt_s (lt_s (lt_s (lt_s (lt_s (lt_s (lt_s (lt_s (lt_s (lt_s (lt_s lt_0 (tx_nm 33 rfl)) (tx_nm 104 rfl)) (tx_nm 111 rfl)) (tx_nm 119 rfl)) (tx_nm 128 rfl)) (tx_nm 139 rfl)) (tx_nm 152 rfl)) (tx_nm 165 rfl)) (tx_nm 179 rfl)) (tx_nm 193 rfl)) (tx_nm 208 rfl)) (tx_nm 226 rfl)) (tx_nm 247 rfl)) (tx_nm 267 rfl)) (tx_nm 289 rfl)) (tx_nm 311 rfl))
set_option maxRecDepth 100000 in
set_option maxHeartbeats 4000000 in
theorem tx_co : ∀ i, i < 16 → Jvm.Cond.eq (.field (tx_tm i) "java/lang/String" "coder" "B") (.int 0) ∈ tx_fl := (lt_s (lt_s (lt_s (lt_s (lt_s (lt_s (lt_s (lt_s (lt_s (lt_s (lt_s (lt_s (lt_s (lt_s (lt_s (lt_s lt_0 (tx_nm 34 rfl)) (tx_nm 105 rfl)) (tx_nm 112 rfl)) (tx_nm 120 rfl)) (tx_nm 129 rfl)) (tx_nm 140 rfl)) (tx_nm 153 rfl)) (tx_nm 166 rfl)) (tx_nm 180 rfl)) (tx_nm 194 rfl)) (tx_nm 209 rfl)) (tx_nm 227 rfl)) (tx_nm 248 rfl)) (tx_nm 268 rfl)) (tx_nm 290 rfl)) (tx_nm 312 rfl))
set_option maxRecDepth 100000 in
set_option maxHeartbeats 4000000 in
theorem tx_ar : ∀ i, i < 16 → Jvm.Cond.arrayOf (.field (tx_tm i) "java/lang/String" "value" "[B") .byte ∈ tx_fl := (lt_s (lt_s (lt_s (lt_s (lt_s (lt_s (lt_s (lt_s (lt_s (lt_s (lt_s (lt_s (lt_s (lt_s (lt_s (lt_s lt_0 (tx_nm 35 rfl)) (tx_nm 106 rfl)) (tx_nm 113 rfl)) (tx_nm 121 rfl)) (tx_nm 130 rfl)) (tx_nm 141 rfl)) (tx_nm 154 rfl)) (tx_nm 167 rfl)) (tx_nm 181 rfl)) (tx_nm 195 rfl)) (tx_nm 210 rfl)) (tx_nm 228 rfl)) (tx_nm 249 rfl)) (tx_nm 269 rfl)) (tx_nm 291 rfl)) (tx_nm 313 rfl))
set_option maxRecDepth 100000 in
set_option maxHeartbeats 4000000 in
theorem tx_le : ∀ i, i < 16 → Jvm.Cond.eq (.length (.field (tx_tm i) "java/lang/String" "value" "[B")) (.int (Int32.ofNat (tx_len.getD i 0))) ∈ tx_fl := (lt_s (lt_s (lt_s (lt_s (lt_s (lt_s (lt_s (lt_s (lt_s (lt_s (lt_s (lt_s (lt_s (lt_s (lt_s (lt_s lt_0 (tx_nm 36 rfl)) (tx_nm 107 rfl)) (tx_nm 114 rfl)) (tx_nm 122 rfl)) (tx_nm 131 rfl)) (tx_nm 142 rfl)) (tx_nm 155 rfl)) (tx_nm 168 rfl)) (tx_nm 182 rfl)) (tx_nm 196 rfl)) (tx_nm 211 rfl)) (tx_nm 229 rfl)) (tx_nm 250 rfl)) (tx_nm 270 rfl)) (tx_nm 292 rfl)) (tx_nm 314 rfl))
set_option maxRecDepth 100000 in
set_option maxHeartbeats 4000000 in
theorem tx_el_0 : ∀ j, j < 67 → Jvm.Cond.eq (.elem (.field (tx_tm 0) "java/lang/String" "value" "[B") (.int (Int32.ofNat j))) (.int ((gT.getD 0 []).getD j 0)) ∈ tx_fl := (lt_s (lt_s (lt_s (lt_s (lt_s (lt_s (lt_s (lt_s (lt_s (lt_s (lt_s (lt_s (lt_s (lt_s (lt_s (lt_s (lt_s (lt_s (lt_s (lt_s (lt_s (lt_s (lt_s (lt_s (lt_s (lt_s (lt_s (lt_s (lt_s (lt_s (lt_s (lt_s (lt_s (lt_s (lt_s (lt_s (lt_s (lt_s (lt_s (lt_s (lt_s (lt_s (lt_s (lt_s (lt_s (lt_s (lt_s (lt_s (lt_s (lt_s (lt_s (lt_s (lt_s (lt_s (lt_s (lt_s (lt_s (lt_s (lt_s (lt_s (lt_s (lt_s (lt_s (lt_s (lt_s (lt_s (lt_s lt_0 (tx_nm 37 rfl)) (tx_nm 38 rfl)) (tx_nm 39 rfl)) (tx_nm 40 rfl)) (tx_nm 41 rfl)) (tx_nm 42 rfl)) (tx_nm 43 rfl)) (tx_nm 44 rfl)) (tx_nm 45 rfl)) (tx_nm 46 rfl)) (tx_nm 47 rfl)) (tx_nm 48 rfl)) (tx_nm 49 rfl)) (tx_nm 50 rfl)) (tx_nm 51 rfl)) (tx_nm 52 rfl)) (tx_nm 53 rfl)) (tx_nm 54 rfl)) (tx_nm 55 rfl)) (tx_nm 56 rfl)) (tx_nm 57 rfl)) (tx_nm 58 rfl)) (tx_nm 59 rfl)) (tx_nm 60 rfl)) (tx_nm 61 rfl)) (tx_nm 62 rfl)) (tx_nm 63 rfl)) (tx_nm 64 rfl)) (tx_nm 65 rfl)) (tx_nm 66 rfl)) (tx_nm 67 rfl)) (tx_nm 68 rfl)) (tx_nm 69 rfl)) (tx_nm 70 rfl)) (tx_nm 71 rfl)) (tx_nm 72 rfl)) (tx_nm 73 rfl)) (tx_nm 74 rfl)) (tx_nm 75 rfl)) (tx_nm 76 rfl)) (tx_nm 77 rfl)) (tx_nm 78 rfl)) (tx_nm 79 rfl)) (tx_nm 80 rfl)) (tx_nm 81 rfl)) (tx_nm 82 rfl)) (tx_nm 83 rfl)) (tx_nm 84 rfl)) (tx_nm 85 rfl)) (tx_nm 86 rfl)) (tx_nm 87 rfl)) (tx_nm 88 rfl)) (tx_nm 89 rfl)) (tx_nm 90 rfl)) (tx_nm 91 rfl)) (tx_nm 92 rfl)) (tx_nm 93 rfl)) (tx_nm 94 rfl)) (tx_nm 95 rfl)) (tx_nm 96 rfl)) (tx_nm 97 rfl)) (tx_nm 98 rfl)) (tx_nm 99 rfl)) (tx_nm 100 rfl)) (tx_nm 101 rfl)) (tx_nm 102 rfl)) (tx_nm 103 rfl))
set_option maxRecDepth 100000 in
set_option maxHeartbeats 4000000 in
theorem tx_el_1 : ∀ j, j < 2 → Jvm.Cond.eq (.elem (.field (tx_tm 1) "java/lang/String" "value" "[B") (.int (Int32.ofNat j))) (.int ((gT.getD 1 []).getD j 0)) ∈ tx_fl := (lt_s (lt_s lt_0 (tx_nm 108 rfl)) (tx_nm 109 rfl))
set_option maxRecDepth 100000 in
set_option maxHeartbeats 4000000 in
theorem tx_el_2 : ∀ j, j < 2 → Jvm.Cond.eq (.elem (.field (tx_tm 2) "java/lang/String" "value" "[B") (.int (Int32.ofNat j))) (.int ((gT.getD 2 []).getD j 0)) ∈ tx_fl := (lt_s (lt_s lt_0 (tx_nm 115 rfl)) (tx_nm 116 rfl))
set_option maxRecDepth 100000 in
set_option maxHeartbeats 4000000 in
theorem tx_el_3 : ∀ j, j < 2 → Jvm.Cond.eq (.elem (.field (tx_tm 3) "java/lang/String" "value" "[B") (.int (Int32.ofNat j))) (.int ((gT.getD 3 []).getD j 0)) ∈ tx_fl := (lt_s (lt_s lt_0 (tx_nm 123 rfl)) (tx_nm 124 rfl))
set_option maxRecDepth 100000 in
set_option maxHeartbeats 4000000 in
theorem tx_el_4 : ∀ j, j < 3 → Jvm.Cond.eq (.elem (.field (tx_tm 4) "java/lang/String" "value" "[B") (.int (Int32.ofNat j))) (.int ((gT.getD 4 []).getD j 0)) ∈ tx_fl := (lt_s (lt_s (lt_s lt_0 (tx_nm 132 rfl)) (tx_nm 133 rfl)) (tx_nm 134 rfl))
set_option maxRecDepth 100000 in
set_option maxHeartbeats 4000000 in
theorem tx_el_5 : ∀ j, j < 4 → Jvm.Cond.eq (.elem (.field (tx_tm 5) "java/lang/String" "value" "[B") (.int (Int32.ofNat j))) (.int ((gT.getD 5 []).getD j 0)) ∈ tx_fl := (lt_s (lt_s (lt_s (lt_s lt_0 (tx_nm 143 rfl)) (tx_nm 144 rfl)) (tx_nm 145 rfl)) (tx_nm 146 rfl))
set_option maxRecDepth 100000 in
set_option maxHeartbeats 4000000 in
theorem tx_el_6 : ∀ j, j < 3 → Jvm.Cond.eq (.elem (.field (tx_tm 6) "java/lang/String" "value" "[B") (.int (Int32.ofNat j))) (.int ((gT.getD 6 []).getD j 0)) ∈ tx_fl := (lt_s (lt_s (lt_s lt_0 (tx_nm 156 rfl)) (tx_nm 157 rfl)) (tx_nm 158 rfl))
set_option maxRecDepth 100000 in
set_option maxHeartbeats 4000000 in
theorem tx_el_7 : ∀ j, j < 3 → Jvm.Cond.eq (.elem (.field (tx_tm 7) "java/lang/String" "value" "[B") (.int (Int32.ofNat j))) (.int ((gT.getD 7 []).getD j 0)) ∈ tx_fl := (lt_s (lt_s (lt_s lt_0 (tx_nm 169 rfl)) (tx_nm 170 rfl)) (tx_nm 171 rfl))
set_option maxRecDepth 100000 in
set_option maxHeartbeats 4000000 in
theorem tx_el_8 : ∀ j, j < 2 → Jvm.Cond.eq (.elem (.field (tx_tm 8) "java/lang/String" "value" "[B") (.int (Int32.ofNat j))) (.int ((gT.getD 8 []).getD j 0)) ∈ tx_fl := (lt_s (lt_s lt_0 (tx_nm 183 rfl)) (tx_nm 184 rfl))
set_option maxRecDepth 100000 in
set_option maxHeartbeats 4000000 in
theorem tx_el_9 : ∀ j, j < 2 → Jvm.Cond.eq (.elem (.field (tx_tm 9) "java/lang/String" "value" "[B") (.int (Int32.ofNat j))) (.int ((gT.getD 9 []).getD j 0)) ∈ tx_fl := (lt_s (lt_s lt_0 (tx_nm 197 rfl)) (tx_nm 198 rfl))
set_option maxRecDepth 100000 in
set_option maxHeartbeats 4000000 in
theorem tx_el_10 : ∀ j, j < 4 → Jvm.Cond.eq (.elem (.field (tx_tm 10) "java/lang/String" "value" "[B") (.int (Int32.ofNat j))) (.int ((gT.getD 10 []).getD j 0)) ∈ tx_fl := (lt_s (lt_s (lt_s (lt_s lt_0 (tx_nm 212 rfl)) (tx_nm 213 rfl)) (tx_nm 214 rfl)) (tx_nm 215 rfl))
set_option maxRecDepth 100000 in
set_option maxHeartbeats 4000000 in
theorem tx_el_11 : ∀ j, j < 6 → Jvm.Cond.eq (.elem (.field (tx_tm 11) "java/lang/String" "value" "[B") (.int (Int32.ofNat j))) (.int ((gT.getD 11 []).getD j 0)) ∈ tx_fl := (lt_s (lt_s (lt_s (lt_s (lt_s (lt_s lt_0 (tx_nm 230 rfl)) (tx_nm 231 rfl)) (tx_nm 232 rfl)) (tx_nm 233 rfl)) (tx_nm 234 rfl)) (tx_nm 235 rfl))
set_option maxRecDepth 100000 in
set_option maxHeartbeats 4000000 in
theorem tx_el_12 : ∀ j, j < 4 → Jvm.Cond.eq (.elem (.field (tx_tm 12) "java/lang/String" "value" "[B") (.int (Int32.ofNat j))) (.int ((gT.getD 12 []).getD j 0)) ∈ tx_fl := (lt_s (lt_s (lt_s (lt_s lt_0 (tx_nm 251 rfl)) (tx_nm 252 rfl)) (tx_nm 253 rfl)) (tx_nm 254 rfl))
set_option maxRecDepth 100000 in
set_option maxHeartbeats 4000000 in
theorem tx_el_13 : ∀ j, j < 5 → Jvm.Cond.eq (.elem (.field (tx_tm 13) "java/lang/String" "value" "[B") (.int (Int32.ofNat j))) (.int ((gT.getD 13 []).getD j 0)) ∈ tx_fl := (lt_s (lt_s (lt_s (lt_s (lt_s lt_0 (tx_nm 271 rfl)) (tx_nm 272 rfl)) (tx_nm 273 rfl)) (tx_nm 274 rfl)) (tx_nm 275 rfl))
set_option maxRecDepth 100000 in
set_option maxHeartbeats 4000000 in
theorem tx_el_14 : ∀ j, j < 4 → Jvm.Cond.eq (.elem (.field (tx_tm 14) "java/lang/String" "value" "[B") (.int (Int32.ofNat j))) (.int ((gT.getD 14 []).getD j 0)) ∈ tx_fl := (lt_s (lt_s (lt_s (lt_s lt_0 (tx_nm 293 rfl)) (tx_nm 294 rfl)) (tx_nm 295 rfl)) (tx_nm 296 rfl))
set_option maxRecDepth 100000 in
set_option maxHeartbeats 4000000 in
theorem tx_el_15 : ∀ j, j < 3 → Jvm.Cond.eq (.elem (.field (tx_tm 15) "java/lang/String" "value" "[B") (.int (Int32.ofNat j))) (.int ((gT.getD 15 []).getD j 0)) ∈ tx_fl := (lt_s (lt_s (lt_s lt_0 (tx_nm 315 rfl)) (tx_nm 316 rfl)) (tx_nm 317 rfl))
set_option maxRecDepth 100000 in
set_option maxHeartbeats 4000000 in
theorem tx_el : ∀ i, i < 16 → ∀ j, j < tx_len.getD i 0 → Jvm.Cond.eq (.elem (.field (tx_tm i) "java/lang/String" "value" "[B") (.int (Int32.ofNat j))) (.int ((gT.getD i []).getD j 0)) ∈ tx_fl := (lt_s (lt_s (lt_s (lt_s (lt_s (lt_s (lt_s (lt_s (lt_s (lt_s (lt_s (lt_s (lt_s (lt_s (lt_s (lt_s lt_0 tx_el_0) tx_el_1) tx_el_2) tx_el_3) tx_el_4) tx_el_5) tx_el_6) tx_el_7) tx_el_8) tx_el_9) tx_el_10) tx_el_11) tx_el_12) tx_el_13) tx_el_14) tx_el_15)
set_option maxRecDepth 100000 in
set_option maxHeartbeats 4000000 in
theorem tx_ne_0 : ∀ j, j < 16 → 0 ≠ j → (Jvm.Cond.not (Jvm.Cond.eq (tx_tm 0) (tx_tm j)) ∈ tx_fl ∨ Jvm.Cond.not (Jvm.Cond.eq (tx_tm j) (tx_tm 0)) ∈ tx_fl) := (lt_s (lt_s (lt_s (lt_s (lt_s (lt_s (lt_s (lt_s (lt_s (lt_s (lt_s (lt_s (lt_s (lt_s (lt_s (lt_s lt_0 (fun h => absurd rfl h)) (fun _ => Or.inl (tx_nm 110 rfl))) (fun _ => Or.inl (tx_nm 117 rfl))) (fun _ => Or.inl (tx_nm 125 rfl))) (fun _ => Or.inl (tx_nm 135 rfl))) (fun _ => Or.inl (tx_nm 147 rfl))) (fun _ => Or.inl (tx_nm 159 rfl))) (fun _ => Or.inl (tx_nm 172 rfl))) (fun _ => Or.inl (tx_nm 185 rfl))) (fun _ => Or.inl (tx_nm 199 rfl))) (fun _ => Or.inl (tx_nm 216 rfl))) (fun _ => Or.inl (tx_nm 236 rfl))) (fun _ => Or.inl (tx_nm 255 rfl))) (fun _ => Or.inl (tx_nm 276 rfl))) (fun _ => Or.inl (tx_nm 297 rfl))) (fun _ => Or.inl (tx_nm 318 rfl)))
set_option maxRecDepth 100000 in
set_option maxHeartbeats 4000000 in
theorem tx_ne_1 : ∀ j, j < 16 → 1 ≠ j → (Jvm.Cond.not (Jvm.Cond.eq (tx_tm 1) (tx_tm j)) ∈ tx_fl ∨ Jvm.Cond.not (Jvm.Cond.eq (tx_tm j) (tx_tm 1)) ∈ tx_fl) := (lt_s (lt_s (lt_s (lt_s (lt_s (lt_s (lt_s (lt_s (lt_s (lt_s (lt_s (lt_s (lt_s (lt_s (lt_s (lt_s lt_0 (fun _ => Or.inr (tx_nm 110 rfl))) (fun h => absurd rfl h)) (fun _ => Or.inl (tx_nm 118 rfl))) (fun _ => Or.inl (tx_nm 126 rfl))) (fun _ => Or.inl (tx_nm 136 rfl))) (fun _ => Or.inl (tx_nm 148 rfl))) (fun _ => Or.inl (tx_nm 160 rfl))) (fun _ => Or.inl (tx_nm 173 rfl))) (fun _ => Or.inl (tx_nm 186 rfl))) (fun _ => Or.inl (tx_nm 200 rfl))) (fun _ => Or.inl (tx_nm 217 rfl))) (fun _ => Or.inl (tx_nm 237 rfl))) (fun _ => Or.inl (tx_nm 256 rfl))) (fun _ => Or.inl (tx_nm 277 rfl))) (fun _ => Or.inl (tx_nm 298 rfl))) (fun _ => Or.inl (tx_nm 319 rfl)))
set_option maxRecDepth 100000 in
set_option maxHeartbeats 4000000 in
theorem tx_ne_2 : ∀ j, j < 16 → 2 ≠ j → (Jvm.Cond.not (Jvm.Cond.eq (tx_tm 2) (tx_tm j)) ∈ tx_fl ∨ Jvm.Cond.not (Jvm.Cond.eq (tx_tm j) (tx_tm 2)) ∈ tx_fl) := (lt_s (lt_s (lt_s (lt_s (lt_s (lt_s (lt_s (lt_s (lt_s (lt_s (lt_s (lt_s (lt_s (lt_s (lt_s (lt_s lt_0 (fun _ => Or.inr (tx_nm 117 rfl))) (fun _ => Or.inr (tx_nm 118 rfl))) (fun h => absurd rfl h)) (fun _ => Or.inl (tx_nm 127 rfl))) (fun _ => Or.inl (tx_nm 137 rfl))) (fun _ => Or.inl (tx_nm 149 rfl))) (fun _ => Or.inl (tx_nm 161 rfl))) (fun _ => Or.inl (tx_nm 174 rfl))) (fun _ => Or.inl (tx_nm 187 rfl))) (fun _ => Or.inl (tx_nm 201 rfl))) (fun _ => Or.inl (tx_nm 218 rfl))) (fun _ => Or.inl (tx_nm 238 rfl))) (fun _ => Or.inl (tx_nm 257 rfl))) (fun _ => Or.inl (tx_nm 278 rfl))) (fun _ => Or.inl (tx_nm 299 rfl))) (fun _ => Or.inl (tx_nm 320 rfl)))
set_option maxRecDepth 100000 in
set_option maxHeartbeats 4000000 in
theorem tx_ne_3 : ∀ j, j < 16 → 3 ≠ j → (Jvm.Cond.not (Jvm.Cond.eq (tx_tm 3) (tx_tm j)) ∈ tx_fl ∨ Jvm.Cond.not (Jvm.Cond.eq (tx_tm j) (tx_tm 3)) ∈ tx_fl) := (lt_s (lt_s (lt_s (lt_s (lt_s (lt_s (lt_s (lt_s (lt_s (lt_s (lt_s (lt_s (lt_s (lt_s (lt_s (lt_s lt_0 (fun _ => Or.inr (tx_nm 125 rfl))) (fun _ => Or.inr (tx_nm 126 rfl))) (fun _ => Or.inr (tx_nm 127 rfl))) (fun h => absurd rfl h)) (fun _ => Or.inl (tx_nm 138 rfl))) (fun _ => Or.inl (tx_nm 150 rfl))) (fun _ => Or.inl (tx_nm 162 rfl))) (fun _ => Or.inl (tx_nm 175 rfl))) (fun _ => Or.inl (tx_nm 188 rfl))) (fun _ => Or.inl (tx_nm 202 rfl))) (fun _ => Or.inl (tx_nm 219 rfl))) (fun _ => Or.inl (tx_nm 239 rfl))) (fun _ => Or.inl (tx_nm 258 rfl))) (fun _ => Or.inl (tx_nm 279 rfl))) (fun _ => Or.inl (tx_nm 300 rfl))) (fun _ => Or.inl (tx_nm 321 rfl)))
set_option maxRecDepth 100000 in
set_option maxHeartbeats 4000000 in
theorem tx_ne_4 : ∀ j, j < 16 → 4 ≠ j → (Jvm.Cond.not (Jvm.Cond.eq (tx_tm 4) (tx_tm j)) ∈ tx_fl ∨ Jvm.Cond.not (Jvm.Cond.eq (tx_tm j) (tx_tm 4)) ∈ tx_fl) := (lt_s (lt_s (lt_s (lt_s (lt_s (lt_s (lt_s (lt_s (lt_s (lt_s (lt_s (lt_s (lt_s (lt_s (lt_s (lt_s lt_0 (fun _ => Or.inr (tx_nm 135 rfl))) (fun _ => Or.inr (tx_nm 136 rfl))) (fun _ => Or.inr (tx_nm 137 rfl))) (fun _ => Or.inr (tx_nm 138 rfl))) (fun h => absurd rfl h)) (fun _ => Or.inl (tx_nm 151 rfl))) (fun _ => Or.inl (tx_nm 163 rfl))) (fun _ => Or.inl (tx_nm 176 rfl))) (fun _ => Or.inl (tx_nm 189 rfl))) (fun _ => Or.inl (tx_nm 203 rfl))) (fun _ => Or.inl (tx_nm 220 rfl))) (fun _ => Or.inl (tx_nm 240 rfl))) (fun _ => Or.inl (tx_nm 259 rfl))) (fun _ => Or.inl (tx_nm 280 rfl))) (fun _ => Or.inl (tx_nm 301 rfl))) (fun _ => Or.inl (tx_nm 322 rfl)))
set_option maxRecDepth 100000 in
set_option maxHeartbeats 4000000 in
theorem tx_ne_5 : ∀ j, j < 16 → 5 ≠ j → (Jvm.Cond.not (Jvm.Cond.eq (tx_tm 5) (tx_tm j)) ∈ tx_fl ∨ Jvm.Cond.not (Jvm.Cond.eq (tx_tm j) (tx_tm 5)) ∈ tx_fl) := (lt_s (lt_s (lt_s (lt_s (lt_s (lt_s (lt_s (lt_s (lt_s (lt_s (lt_s (lt_s (lt_s (lt_s (lt_s (lt_s lt_0 (fun _ => Or.inr (tx_nm 147 rfl))) (fun _ => Or.inr (tx_nm 148 rfl))) (fun _ => Or.inr (tx_nm 149 rfl))) (fun _ => Or.inr (tx_nm 150 rfl))) (fun _ => Or.inr (tx_nm 151 rfl))) (fun h => absurd rfl h)) (fun _ => Or.inl (tx_nm 164 rfl))) (fun _ => Or.inl (tx_nm 177 rfl))) (fun _ => Or.inl (tx_nm 190 rfl))) (fun _ => Or.inl (tx_nm 204 rfl))) (fun _ => Or.inl (tx_nm 221 rfl))) (fun _ => Or.inl (tx_nm 241 rfl))) (fun _ => Or.inl (tx_nm 260 rfl))) (fun _ => Or.inl (tx_nm 281 rfl))) (fun _ => Or.inl (tx_nm 302 rfl))) (fun _ => Or.inl (tx_nm 323 rfl)))
set_option maxRecDepth 100000 in
set_option maxHeartbeats 4000000 in
theorem tx_ne_6 : ∀ j, j < 16 → 6 ≠ j → (Jvm.Cond.not (Jvm.Cond.eq (tx_tm 6) (tx_tm j)) ∈ tx_fl ∨ Jvm.Cond.not (Jvm.Cond.eq (tx_tm j) (tx_tm 6)) ∈ tx_fl) := (lt_s (lt_s (lt_s (lt_s (lt_s (lt_s (lt_s (lt_s (lt_s (lt_s (lt_s (lt_s (lt_s (lt_s (lt_s (lt_s lt_0 (fun _ => Or.inr (tx_nm 159 rfl))) (fun _ => Or.inr (tx_nm 160 rfl))) (fun _ => Or.inr (tx_nm 161 rfl))) (fun _ => Or.inr (tx_nm 162 rfl))) (fun _ => Or.inr (tx_nm 163 rfl))) (fun _ => Or.inr (tx_nm 164 rfl))) (fun h => absurd rfl h)) (fun _ => Or.inl (tx_nm 178 rfl))) (fun _ => Or.inl (tx_nm 191 rfl))) (fun _ => Or.inl (tx_nm 205 rfl))) (fun _ => Or.inl (tx_nm 222 rfl))) (fun _ => Or.inl (tx_nm 242 rfl))) (fun _ => Or.inl (tx_nm 261 rfl))) (fun _ => Or.inl (tx_nm 282 rfl))) (fun _ => Or.inl (tx_nm 303 rfl))) (fun _ => Or.inl (tx_nm 324 rfl)))
set_option maxRecDepth 100000 in
set_option maxHeartbeats 4000000 in
theorem tx_ne_7 : ∀ j, j < 16 → 7 ≠ j → (Jvm.Cond.not (Jvm.Cond.eq (tx_tm 7) (tx_tm j)) ∈ tx_fl ∨ Jvm.Cond.not (Jvm.Cond.eq (tx_tm j) (tx_tm 7)) ∈ tx_fl) := (lt_s (lt_s (lt_s (lt_s (lt_s (lt_s (lt_s (lt_s (lt_s (lt_s (lt_s (lt_s (lt_s (lt_s (lt_s (lt_s lt_0 (fun _ => Or.inr (tx_nm 172 rfl))) (fun _ => Or.inr (tx_nm 173 rfl))) (fun _ => Or.inr (tx_nm 174 rfl))) (fun _ => Or.inr (tx_nm 175 rfl))) (fun _ => Or.inr (tx_nm 176 rfl))) (fun _ => Or.inr (tx_nm 177 rfl))) (fun _ => Or.inr (tx_nm 178 rfl))) (fun h => absurd rfl h)) (fun _ => Or.inl (tx_nm 192 rfl))) (fun _ => Or.inl (tx_nm 206 rfl))) (fun _ => Or.inl (tx_nm 223 rfl))) (fun _ => Or.inl (tx_nm 243 rfl))) (fun _ => Or.inl (tx_nm 262 rfl))) (fun _ => Or.inl (tx_nm 283 rfl))) (fun _ => Or.inl (tx_nm 304 rfl))) (fun _ => Or.inl (tx_nm 325 rfl)))
set_option maxRecDepth 100000 in
set_option maxHeartbeats 4000000 in
theorem tx_ne_8 : ∀ j, j < 16 → 8 ≠ j → (Jvm.Cond.not (Jvm.Cond.eq (tx_tm 8) (tx_tm j)) ∈ tx_fl ∨ Jvm.Cond.not (Jvm.Cond.eq (tx_tm j) (tx_tm 8)) ∈ tx_fl) := (lt_s (lt_s (lt_s (lt_s (lt_s (lt_s (lt_s (lt_s (lt_s (lt_s (lt_s (lt_s (lt_s (lt_s (lt_s (lt_s lt_0 (fun _ => Or.inr (tx_nm 185 rfl))) (fun _ => Or.inr (tx_nm 186 rfl))) (fun _ => Or.inr (tx_nm 187 rfl))) (fun _ => Or.inr (tx_nm 188 rfl))) (fun _ => Or.inr (tx_nm 189 rfl))) (fun _ => Or.inr (tx_nm 190 rfl))) (fun _ => Or.inr (tx_nm 191 rfl))) (fun _ => Or.inr (tx_nm 192 rfl))) (fun h => absurd rfl h)) (fun _ => Or.inl (tx_nm 207 rfl))) (fun _ => Or.inl (tx_nm 224 rfl))) (fun _ => Or.inl (tx_nm 244 rfl))) (fun _ => Or.inl (tx_nm 263 rfl))) (fun _ => Or.inl (tx_nm 284 rfl))) (fun _ => Or.inl (tx_nm 305 rfl))) (fun _ => Or.inl (tx_nm 326 rfl)))
set_option maxRecDepth 100000 in
set_option maxHeartbeats 4000000 in
theorem tx_ne_9 : ∀ j, j < 16 → 9 ≠ j → (Jvm.Cond.not (Jvm.Cond.eq (tx_tm 9) (tx_tm j)) ∈ tx_fl ∨ Jvm.Cond.not (Jvm.Cond.eq (tx_tm j) (tx_tm 9)) ∈ tx_fl) := (lt_s (lt_s (lt_s (lt_s (lt_s (lt_s (lt_s (lt_s (lt_s (lt_s (lt_s (lt_s (lt_s (lt_s (lt_s (lt_s lt_0 (fun _ => Or.inr (tx_nm 199 rfl))) (fun _ => Or.inr (tx_nm 200 rfl))) (fun _ => Or.inr (tx_nm 201 rfl))) (fun _ => Or.inr (tx_nm 202 rfl))) (fun _ => Or.inr (tx_nm 203 rfl))) (fun _ => Or.inr (tx_nm 204 rfl))) (fun _ => Or.inr (tx_nm 205 rfl))) (fun _ => Or.inr (tx_nm 206 rfl))) (fun _ => Or.inr (tx_nm 207 rfl))) (fun h => absurd rfl h)) (fun _ => Or.inl (tx_nm 225 rfl))) (fun _ => Or.inl (tx_nm 245 rfl))) (fun _ => Or.inl (tx_nm 264 rfl))) (fun _ => Or.inl (tx_nm 285 rfl))) (fun _ => Or.inl (tx_nm 306 rfl))) (fun _ => Or.inl (tx_nm 327 rfl)))
set_option maxRecDepth 100000 in
set_option maxHeartbeats 4000000 in
theorem tx_ne_10 : ∀ j, j < 16 → 10 ≠ j → (Jvm.Cond.not (Jvm.Cond.eq (tx_tm 10) (tx_tm j)) ∈ tx_fl ∨ Jvm.Cond.not (Jvm.Cond.eq (tx_tm j) (tx_tm 10)) ∈ tx_fl) := (lt_s (lt_s (lt_s (lt_s (lt_s (lt_s (lt_s (lt_s (lt_s (lt_s (lt_s (lt_s (lt_s (lt_s (lt_s (lt_s lt_0 (fun _ => Or.inr (tx_nm 216 rfl))) (fun _ => Or.inr (tx_nm 217 rfl))) (fun _ => Or.inr (tx_nm 218 rfl))) (fun _ => Or.inr (tx_nm 219 rfl))) (fun _ => Or.inr (tx_nm 220 rfl))) (fun _ => Or.inr (tx_nm 221 rfl))) (fun _ => Or.inr (tx_nm 222 rfl))) (fun _ => Or.inr (tx_nm 223 rfl))) (fun _ => Or.inr (tx_nm 224 rfl))) (fun _ => Or.inr (tx_nm 225 rfl))) (fun h => absurd rfl h)) (fun _ => Or.inl (tx_nm 246 rfl))) (fun _ => Or.inl (tx_nm 265 rfl))) (fun _ => Or.inl (tx_nm 286 rfl))) (fun _ => Or.inl (tx_nm 307 rfl))) (fun _ => Or.inl (tx_nm 328 rfl)))
set_option maxRecDepth 100000 in
set_option maxHeartbeats 4000000 in
theorem tx_ne_11 : ∀ j, j < 16 → 11 ≠ j → (Jvm.Cond.not (Jvm.Cond.eq (tx_tm 11) (tx_tm j)) ∈ tx_fl ∨ Jvm.Cond.not (Jvm.Cond.eq (tx_tm j) (tx_tm 11)) ∈ tx_fl) := (lt_s (lt_s (lt_s (lt_s (lt_s (lt_s (lt_s (lt_s (lt_s (lt_s (lt_s (lt_s (lt_s (lt_s (lt_s (lt_s lt_0 (fun _ => Or.inr (tx_nm 236 rfl))) (fun _ => Or.inr (tx_nm 237 rfl))) (fun _ => Or.inr (tx_nm 238 rfl))) (fun _ => Or.inr (tx_nm 239 rfl))) (fun _ => Or.inr (tx_nm 240 rfl))) (fun _ => Or.inr (tx_nm 241 rfl))) (fun _ => Or.inr (tx_nm 242 rfl))) (fun _ => Or.inr (tx_nm 243 rfl))) (fun _ => Or.inr (tx_nm 244 rfl))) (fun _ => Or.inr (tx_nm 245 rfl))) (fun _ => Or.inr (tx_nm 246 rfl))) (fun h => absurd rfl h)) (fun _ => Or.inl (tx_nm 266 rfl))) (fun _ => Or.inl (tx_nm 287 rfl))) (fun _ => Or.inl (tx_nm 308 rfl))) (fun _ => Or.inl (tx_nm 329 rfl)))
set_option maxRecDepth 100000 in
set_option maxHeartbeats 4000000 in
theorem tx_ne_12 : ∀ j, j < 16 → 12 ≠ j → (Jvm.Cond.not (Jvm.Cond.eq (tx_tm 12) (tx_tm j)) ∈ tx_fl ∨ Jvm.Cond.not (Jvm.Cond.eq (tx_tm j) (tx_tm 12)) ∈ tx_fl) := (lt_s (lt_s (lt_s (lt_s (lt_s (lt_s (lt_s (lt_s (lt_s (lt_s (lt_s (lt_s (lt_s (lt_s (lt_s (lt_s lt_0 (fun _ => Or.inr (tx_nm 255 rfl))) (fun _ => Or.inr (tx_nm 256 rfl))) (fun _ => Or.inr (tx_nm 257 rfl))) (fun _ => Or.inr (tx_nm 258 rfl))) (fun _ => Or.inr (tx_nm 259 rfl))) (fun _ => Or.inr (tx_nm 260 rfl))) (fun _ => Or.inr (tx_nm 261 rfl))) (fun _ => Or.inr (tx_nm 262 rfl))) (fun _ => Or.inr (tx_nm 263 rfl))) (fun _ => Or.inr (tx_nm 264 rfl))) (fun _ => Or.inr (tx_nm 265 rfl))) (fun _ => Or.inr (tx_nm 266 rfl))) (fun h => absurd rfl h)) (fun _ => Or.inl (tx_nm 288 rfl))) (fun _ => Or.inl (tx_nm 309 rfl))) (fun _ => Or.inl (tx_nm 330 rfl)))
set_option maxRecDepth 100000 in
set_option maxHeartbeats 4000000 in
theorem tx_ne_13 : ∀ j, j < 16 → 13 ≠ j → (Jvm.Cond.not (Jvm.Cond.eq (tx_tm 13) (tx_tm j)) ∈ tx_fl ∨ Jvm.Cond.not (Jvm.Cond.eq (tx_tm j) (tx_tm 13)) ∈ tx_fl) := (lt_s (lt_s (lt_s (lt_s (lt_s (lt_s (lt_s (lt_s (lt_s (lt_s (lt_s (lt_s (lt_s (lt_s (lt_s (lt_s lt_0 (fun _ => Or.inr (tx_nm 276 rfl))) (fun _ => Or.inr (tx_nm 277 rfl))) (fun _ => Or.inr (tx_nm 278 rfl))) (fun _ => Or.inr (tx_nm 279 rfl))) (fun _ => Or.inr (tx_nm 280 rfl))) (fun _ => Or.inr (tx_nm 281 rfl))) (fun _ => Or.inr (tx_nm 282 rfl))) (fun _ => Or.inr (tx_nm 283 rfl))) (fun _ => Or.inr (tx_nm 284 rfl))) (fun _ => Or.inr (tx_nm 285 rfl))) (fun _ => Or.inr (tx_nm 286 rfl))) (fun _ => Or.inr (tx_nm 287 rfl))) (fun _ => Or.inr (tx_nm 288 rfl))) (fun h => absurd rfl h)) (fun _ => Or.inl (tx_nm 310 rfl))) (fun _ => Or.inl (tx_nm 331 rfl)))
set_option maxRecDepth 100000 in
set_option maxHeartbeats 4000000 in
theorem tx_ne_14 : ∀ j, j < 16 → 14 ≠ j → (Jvm.Cond.not (Jvm.Cond.eq (tx_tm 14) (tx_tm j)) ∈ tx_fl ∨ Jvm.Cond.not (Jvm.Cond.eq (tx_tm j) (tx_tm 14)) ∈ tx_fl) := (lt_s (lt_s (lt_s (lt_s (lt_s (lt_s (lt_s (lt_s (lt_s (lt_s (lt_s (lt_s (lt_s (lt_s (lt_s (lt_s lt_0 (fun _ => Or.inr (tx_nm 297 rfl))) (fun _ => Or.inr (tx_nm 298 rfl))) (fun _ => Or.inr (tx_nm 299 rfl))) (fun _ => Or.inr (tx_nm 300 rfl))) (fun _ => Or.inr (tx_nm 301 rfl))) (fun _ => Or.inr (tx_nm 302 rfl))) (fun _ => Or.inr (tx_nm 303 rfl))) (fun _ => Or.inr (tx_nm 304 rfl))) (fun _ => Or.inr (tx_nm 305 rfl))) (fun _ => Or.inr (tx_nm 306 rfl))) (fun _ => Or.inr (tx_nm 307 rfl))) (fun _ => Or.inr (tx_nm 308 rfl))) (fun _ => Or.inr (tx_nm 309 rfl))) (fun _ => Or.inr (tx_nm 310 rfl))) (fun h => absurd rfl h)) (fun _ => Or.inl (tx_nm 332 rfl)))
set_option maxRecDepth 100000 in
set_option maxHeartbeats 4000000 in
theorem tx_ne_15 : ∀ j, j < 16 → 15 ≠ j → (Jvm.Cond.not (Jvm.Cond.eq (tx_tm 15) (tx_tm j)) ∈ tx_fl ∨ Jvm.Cond.not (Jvm.Cond.eq (tx_tm j) (tx_tm 15)) ∈ tx_fl) := (lt_s (lt_s (lt_s (lt_s (lt_s (lt_s (lt_s (lt_s (lt_s (lt_s (lt_s (lt_s (lt_s (lt_s (lt_s (lt_s lt_0 (fun _ => Or.inr (tx_nm 318 rfl))) (fun _ => Or.inr (tx_nm 319 rfl))) (fun _ => Or.inr (tx_nm 320 rfl))) (fun _ => Or.inr (tx_nm 321 rfl))) (fun _ => Or.inr (tx_nm 322 rfl))) (fun _ => Or.inr (tx_nm 323 rfl))) (fun _ => Or.inr (tx_nm 324 rfl))) (fun _ => Or.inr (tx_nm 325 rfl))) (fun _ => Or.inr (tx_nm 326 rfl))) (fun _ => Or.inr (tx_nm 327 rfl))) (fun _ => Or.inr (tx_nm 328 rfl))) (fun _ => Or.inr (tx_nm 329 rfl))) (fun _ => Or.inr (tx_nm 330 rfl))) (fun _ => Or.inr (tx_nm 331 rfl))) (fun _ => Or.inr (tx_nm 332 rfl))) (fun h => absurd rfl h))
theorem tx_ne : ∀ i, i < 16 → ∀ j, j < 16 → i ≠ j → (Jvm.Cond.not (Jvm.Cond.eq (tx_tm i) (tx_tm j)) ∈ tx_fl ∨ Jvm.Cond.not (Jvm.Cond.eq (tx_tm j) (tx_tm i)) ∈ tx_fl) := (lt_s (lt_s (lt_s (lt_s (lt_s (lt_s (lt_s (lt_s (lt_s (lt_s (lt_s (lt_s (lt_s (lt_s (lt_s (lt_s lt_0 tx_ne_0) tx_ne_1) tx_ne_2) tx_ne_3) tx_ne_4) tx_ne_5) tx_ne_6) tx_ne_7) tx_ne_8) tx_ne_9) tx_ne_10) tx_ne_11) tx_ne_12) tx_ne_13) tx_ne_14) tx_ne_15)
set_option maxRecDepth 100000 in
set_option maxHeartbeats 4000000 in
theorem tx_sr : ∀ q ∈ gStr, Jvm.Cond.stringRef q.1 q.2.1 q.2.2.1 ∈ lw_tbl := by
  refine List.forall_mem_cons.mpr ⟨(List.mem_append_right _ (ti3 34 rfl)), ?_⟩
  refine List.forall_mem_cons.mpr ⟨(List.mem_append_right _ (ti3 112 rfl)), ?_⟩
  refine List.forall_mem_cons.mpr ⟨(List.mem_append_right _ (ti3 113 rfl)), ?_⟩
  refine List.forall_mem_cons.mpr ⟨(List.mem_append_right _ (ti3 114 rfl)), ?_⟩
  refine List.forall_mem_cons.mpr ⟨(List.mem_append_right _ (ti3 115 rfl)), ?_⟩
  refine List.forall_mem_cons.mpr ⟨(List.mem_append_right _ (ti3 116 rfl)), ?_⟩
  refine List.forall_mem_cons.mpr ⟨(List.mem_append_right _ (ti3 117 rfl)), ?_⟩
  refine List.forall_mem_cons.mpr ⟨(List.mem_append_right _ (ti3 118 rfl)), ?_⟩
  refine List.forall_mem_cons.mpr ⟨(List.mem_append_right _ (ti3 119 rfl)), ?_⟩
  refine List.forall_mem_cons.mpr ⟨(List.mem_append_right _ (ti3 120 rfl)), ?_⟩
  refine List.forall_mem_cons.mpr ⟨(List.mem_append_right _ (ti3 121 rfl)), ?_⟩
  refine List.forall_mem_cons.mpr ⟨(List.mem_append_right _ (ti5 239 rfl)), ?_⟩
  refine List.forall_mem_cons.mpr ⟨(List.mem_append_right _ (ti6 16 rfl)), ?_⟩
  refine List.forall_mem_cons.mpr ⟨(List.mem_append_right _ (ti6 17 rfl)), ?_⟩
  refine List.forall_mem_cons.mpr ⟨(List.mem_append_right _ (ti6 18 rfl)), ?_⟩
  refine List.forall_mem_cons.mpr ⟨(List.mem_append_right _ (ti6 19 rfl)), ?_⟩
  exact fun e he => absurd he List.not_mem_nil
set_option maxRecDepth 100000 in
set_option maxHeartbeats 4000000 in
theorem tx_st : ∀ q ∈ gStr, q.2.2.2 < 16 ∧ (tx_tmL.getD q.2.2.2 ("", 0)) = (q.1, q.2.1) := by decide +kernel
set_option maxRecDepth 100000 in
set_option maxHeartbeats 4000000 in
theorem tx_kn : ∀ c, c < 12 → ∀ q, gCl[c]? = some q → (∀ w ∈ u_ws q.1 q.2.1 q.2.2, w ∈ gTbl) ∧ ∃ n, Jvm.Cond.instantiable q.1 n ∈ gTbl := (lt_s (lt_s (lt_s (lt_s (lt_s (lt_s (lt_s (lt_s (lt_s (lt_s (lt_s (lt_s lt_0 (fun q h => by cases h; exact ⟨(cls_0 []).2.2.1, _, (tb1 21 rfl rfl)⟩)) (fun q h => by cases h; exact ⟨(cls_1 []).2.2.1, _, (tb1 29 rfl rfl)⟩)) (fun q h => by cases h; exact ⟨(cls_2 []).2.2.1, _, (tb1 51 rfl rfl)⟩)) (fun q h => by cases h; exact ⟨(cls_3 []).2.2.1, _, (tb1 57 rfl rfl)⟩)) (fun q h => by cases h; exact ⟨(cls_4 []).2.2.1, _, (tb1 105 rfl rfl)⟩)) (fun q h => by cases h; exact ⟨(cls_5 []).2.2.1, _, (tb1 112 rfl rfl)⟩)) (fun q h => by cases h; exact ⟨(cls_6 []).2.2.1, _, (tb1 118 rfl rfl)⟩)) (fun q h => by cases h; exact ⟨(cls_7 []).2.2.1, _, (tb1 192 rfl rfl)⟩)) (fun q h => by cases h; exact ⟨(cls_8 []).2.2.1, _, (tb1 217 rfl rfl)⟩)) (fun q h => by cases h; exact ⟨(cls_9 []).2.2.1, _, (tb1 228 rfl rfl)⟩)) (fun q h => by cases h; exact ⟨(cls_10 []).2.2.1, _, (tb2 73 rfl rfl)⟩)) (fun q h => by cases h; exact ⟨(cls_11 []).2.2.1, _, (tb6 29 rfl rfl)⟩))
theorem tx_D {args : Array Value} {s : State} (hts : ∀ w ∈ gTbl, w.before args s = true) : ∃ D : va_G, ∀ (c : Nat) (q : vw_C), gCl[c]? = some q → u_Kn s q.1 q.2.1 q.2.2 (D.1 c) (D.2 c) := by
  have h : ∀ c : Nat, ∃ z : ClassId × (Nat → Nat), ∀ q : vw_C, gCl[c]? = some q → u_Kn s q.1 q.2.1 q.2.2 z.1 z.2 := by
    intro c
    by_cases hc : c < 12
    · obtain ⟨q, hq⟩ : ∃ q, gCl[c]? = some q := ⟨gCl[c]'(by show c < gCl.length; exact hc), List.getElem?_eq_getElem _⟩
      obtain ⟨h1, n, h2⟩ := tx_kn c hc q hq
      obtain ⟨cC, iS, hk⟩ := u_known (C := q.1) (T := q.2.1) (N := q.2.2) (n := n) hts h1 (hts _ h2)
      refine ⟨(cC, iS), fun q' hq' => ?_⟩
      cases hq.symm.trans hq'
      exact hk
    · refine ⟨(0, fun _ => 0), fun q hq => ?_⟩
      rw [List.getElem?_eq_none_iff.mpr (by show gCl.length ≤ c; exact Nat.not_lt.mp hc)] at hq
      cases hq
  obtain ⟨z, hz⟩ := Classical.axiomOfChoice h
  exact ⟨(fun c => (z c).1, fun c => (z c).2), hz⟩
/-- the arrays' classes -/
theorem tx_A {args : Array Value} {s : State} (hts : ∀ w ∈ gTbl, w.before args s = true) (hnst : ∀ w ∈ gNst, w.before args s = true) : ∃ (tA : Nat → ClassId) (tys : List (ClassId × FieldType)), (∀ (k : Nat) (q : ClassId × FieldType), tys[k]? = some q → ArrOfT s q.1 q.2 ∧ va_RA s q.1 q.2) ∧ ∀ (a t n : Nat), gSh a = some (.inr (t, n)) → ∃ t0 : Nat, tys[t0]? = some (tA t, pm_ft gCl t) := by
  have prim : ∀ ty : FieldType, (∀ C, ty ≠ .object C) → Jvm.Cond.arrayClass ty ∈ gTbl → ∃ cA, ArrOfT s cA ty ∧ va_RA s cA ty := by
    intro ty hty hw
    obtain ⟨cA, kA, comp, h1, h2, h3⟩ := Cond.arrayClass_spec (hts _ hw)
    refine ⟨cA, fun n z => ⟨fun k h => (by cases h), kA, h2, comp, h3⟩, ?_⟩
    cases ty with
    | object C => exact absurd rfl (hty C)
    | _ => exact h1
  have ref : ∀ C : String, Jvm.Cond.arrayOver (.object C) ∈ gNst → ∃ cA, ArrOfT s cA (.object C) ∧ va_RA s cA (.object C) := by
    intro C hw
    obtain ⟨comp, c, k, h1, h2, h3, h4, h5⟩ := Cond.arrayOver_spec (hnst _ hw)
    exact ⟨c, fun n z => ⟨(fun k h => by cases h), k, h3, comp, h4⟩, k, comp, h3, h4, h1, h5⟩
  obtain ⟨c0, a0, r0⟩ := prim .int (fun C h => by cases h) (tb1 49 rfl rfl)
  obtain ⟨c1, a1, r1⟩ := prim .long (fun C h => by cases h) (tb6 222 rfl rfl)
  obtain ⟨c2, a2, r2⟩ := prim .byte (fun C h => by cases h) (tb4 35 rfl rfl)
  obtain ⟨c3, a3, r3⟩ := prim .boolean (fun C h => by cases h) (tb6 223 rfl rfl)
  obtain ⟨c9, a9, r9⟩ := ref "MaskBench$Scene" (nb1 111 rfl rfl)
  obtain ⟨c13, a13, r13⟩ := ref "MaskBench$Plate" (nb1 223 rfl rfl)
  refine ⟨fun t => if t = 0 then c0 else if t = 1 then c1 else if t = 2 then c2 else if t = 3 then c3 else if t = 9 then c9 else if t = 13 then c13 else 0, [(c0, .int), (c1, .long), (c2, .byte), (c3, .boolean), (c9, .object "MaskBench$Scene"), (c13, .object "MaskBench$Plate")], ?_, ?_⟩
  · intro k q hq
    match k, hq with
    | 0, hq => cases hq; exact ⟨a0, r0⟩
    | 1, hq => cases hq; exact ⟨a1, r1⟩
    | 2, hq => cases hq; exact ⟨a2, r2⟩
    | 3, hq => cases hq; exact ⟨a3, r3⟩
    | 4, hq => cases hq; exact ⟨a9, r9⟩
    | 5, hq => cases hq; exact ⟨a13, r13⟩
    | k + 6, hq => simp at hq
  · intro a t n ha
    have hall : gS.all (fun x => match x with | .inl _ => true | .inr (t, _) => decide (t = 0 ∨ t = 1 ∨ t = 2 ∨ t = 3 ∨ t = 9 ∨ t = 13)) = true := by decide +kernel
    have ha2 : gS[a]? = some (.inr (t, n)) := by
      by_cases hlt : a < 306
      · rw [← gSh_ok a hlt]; exact ha
      · unfold gSh at ha; rw [pm_nb hlt] at ha; cases ha
    have h := List.all_eq_true.mp hall _ (List.mem_of_getElem? ha2)
    simp only [decide_eq_true_eq] at h
    rcases h with rfl | rfl | rfl | rfl | rfl | rfl
    · exact ⟨0, rfl⟩
    · exact ⟨1, rfl⟩
    · exact ⟨2, rfl⟩
    · exact ⟨3, rfl⟩
    · exact ⟨4, rfl⟩
    · exact ⟨5, rfl⟩
theorem tx_TT0 {b : Nat} {s : State} (hts : ∀ w ∈ lw_tbl, w.before #[Value.ref b] s = true) (hgv : (Jvm.Cond.and given_1 narrow_1).before #[Value.ref b] s = true) : ∃ adK adV : Nat → Nat, tx_TT s.heap.size adK adV s := by
  have hfl := flat_of_before _ hgv
  have hA : ∀ a : Nat, a < s.heap.size → ¬ (fun q : Nat => s.heap.size ≤ q) a := fun a h => Nat.not_le.mpr h
  obtain ⟨adK, adV, h1, h2⟩ := vk_Sof (args := #[Value.ref b]) (s := s) (N := 16) (tm := tx_tm) (len := tx_len) (byt := gT) (A := fun q : Nat => s.heap.size ≤ q) (fun i hi => by rw [tx_len_eq hi]; have := (tx_bytes i hi).1; omega) (fun i hi => hfl _ (tx_ex i hi)) (fun i hi => hfl _ (tx_co i hi)) (fun i hi => hfl _ (tx_ar i hi)) (fun i hi => hfl _ (tx_le i hi)) (fun i hi j hj => hfl _ (tx_el i hi j hj)) (fun i j hi hj h => (tx_ne i hi j hj h).imp (fun q => hfl _ q) (fun q => hfl _ q)) hA
  refine ⟨adK, adV, h1, fun q hq => ?_, va_Zof (hts _ (List.mem_append_right _ (ti3 44 rfl))) (hts _ (List.mem_append_right _ (ti1 14 rfl))) (va_eqi (hfl _ (tx_nm 4 rfl))) hA, va_Zqof (hts _ (List.mem_append_right _ (ti3 60 rfl))) (hts _ (List.mem_append_right _ (ti1 16 rfl))) (hfl _ (tx_nm 5 rfl)) hA, fun w hw => ?_⟩
  · obtain ⟨q1, q2⟩ := tx_st q hq
    refine vk_R.of (A := #[Value.ref b]) (hts _ (tx_sr q hq)) ?_
    have := h2 _ q1
    rw [tx_tm, q2] at this
    exact this
  · exact tx_any (List.mem_filter.mp hw).2 (hts w (List.mem_append_right _ (List.mem_filter.mp hw).1))
