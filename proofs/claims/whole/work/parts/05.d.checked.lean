theorem ck_0 : (List.range' 0 5).all (fun k => c_met k && c_code k) = true := by decide +kernel
theorem ck_5 : (List.range' 5 9).all (fun k => c_met k && c_code k) = true := by decide +kernel
theorem ck_14 : (List.range' 14 7).all (fun k => c_met k && c_code k) = true := by decide +kernel
theorem ck_21 : (List.range' 21 7).all (fun k => c_met k && c_code k) = true := by decide +kernel
theorem ck_28 : (List.range' 28 5).all (fun k => c_met k && c_code k) = true := by decide +kernel
theorem ck_33 : (List.range' 33 4).all (fun k => c_met k && c_code k) = true := by decide +kernel
theorem ck_37 : (List.range' 37 7).all (fun k => c_met k && c_code k) = true := by decide +kernel
theorem ck_44 : (List.range' 44 4).all (fun k => c_met k && c_code k) = true := by decide +kernel
theorem ck_48 : (List.range' 48 4).all (fun k => c_met k && c_code k) = true := by decide +kernel
theorem ck_52 : (List.range' 52 5).all (fun k => c_met k && c_code k) = true := by decide +kernel
theorem ck_57 : (List.range' 57 6).all (fun k => c_met k && c_code k) = true := by decide +kernel
theorem ck_63 : (List.range' 63 7).all (fun k => c_met k && c_code k) = true := by decide +kernel
theorem ck_70 : (List.range' 70 6).all (fun k => c_met k && c_code k) = true := by decide +kernel
theorem ck_76 : (List.range' 76 6).all (fun k => c_met k && c_code k) = true := by decide +kernel
theorem ck_82 : (List.range' 82 8).all (fun k => c_met k && c_code k) = true := by decide +kernel
theorem ck_90 : (List.range' 90 5).all (fun k => c_met k && c_code k) = true := by decide +kernel
theorem ck_95 : (List.range' 95 6).all (fun k => c_met k && c_code k) = true := by decide +kernel
theorem ck_101 : (List.range' 101 7).all (fun k => c_met k && c_code k) = true := by decide +kernel
theorem ck_108 : (List.range' 108 8).all (fun k => c_met k && c_code k) = true := by decide +kernel
theorem ck_116 : (List.range' 116 5).all (fun k => c_met k && c_code k) = true := by decide +kernel
theorem ck_121 : (List.range' 121 4).all (fun k => c_met k && c_code k) = true := by decide +kernel
theorem ck_125 : (List.range' 125 9).all (fun k => c_met k && c_code k) = true := by decide +kernel
theorem ck_134 : (List.range' 134 5).all (fun k => c_met k && c_code k) = true := by decide +kernel
theorem ck_139 : (List.range' 139 1).all (fun k => c_met k && c_code k) = true := by decide +kernel
theorem ck_140 : (List.range' 140 2).all (fun k => c_met k && c_code k) = true := by decide +kernel
theorem ck_142 : (List.range' 142 1).all (fun k => c_met k && c_code k) = true := by decide +kernel
theorem ck_143 : (List.range' 143 5).all (fun k => c_met k && c_code k) = true := by decide +kernel
theorem ck_148 : (List.range' 148 2).all (fun k => c_met k && c_code k) = true := by decide +kernel
theorem ck_150 : (List.range' 150 2).all (fun k => c_met k && c_code k) = true := by decide +kernel
theorem ck_152 : (List.range' 152 2).all (fun k => c_met k && c_code k) = true := by decide +kernel
theorem ck_154 : (List.range' 154 2).all (fun k => c_met k && c_code k) = true := by decide +kernel
theorem ck_156 : (List.range' 156 6).all (fun k => c_met k && c_code k) = true := by decide +kernel
theorem ck_162 : (List.range' 162 3).all (fun k => c_met k && c_code k) = true := by decide +kernel
theorem ck_165 : (List.range' 165 6).all (fun k => c_met k && c_code k) = true := by decide +kernel
theorem ck_171 : (List.range' 171 3).all (fun k => c_met k && c_code k) = true := by decide +kernel
theorem ck_174 : (List.range' 174 2).all (fun k => c_met k && c_code k) = true := by decide +kernel
theorem ck_176 : (List.range' 176 3).all (fun k => c_met k && c_code k) = true := by decide +kernel
theorem ck_179 : (List.range' 179 5).all (fun k => c_met k && c_code k) = true := by decide +kernel
theorem ck_184 : (List.range' 184 2).all (fun k => c_met k && c_code k) = true := by decide +kernel
theorem ck_186 : (List.range' 186 3).all (fun k => c_met k && c_code k) = true := by decide +kernel
theorem ck_189 : (List.range' 189 3).all (fun k => c_met k && c_code k) = true := by decide +kernel
theorem ck_192 : (List.range' 192 1).all (fun k => c_met k && c_code k) = true := by decide +kernel
theorem ck_193 : (List.range' 193 2).all (fun k => c_met k && c_code k) = true := by decide +kernel
theorem ck_195 : (List.range' 195 9).all (fun k => c_met k && c_code k) = true := by decide +kernel
theorem ck_204 : (List.range' 204 14).all (fun k => c_met k && c_code k) = true := by decide +kernel
theorem ck_218 : (List.range' 218 7).all (fun k => c_met k && c_code k) = true := by decide +kernel
theorem ck_all {k : Nat} (hk : k + 1 < NM) : c_met k = true ∧ c_code k = true := by
  unfold NM at hk
  by_cases h5 : k < 5
  · have := List.all_eq_true.mp ck_0 k (List.mem_range'_1.mpr ⟨by omega, by omega⟩)
    simpa only [Bool.and_eq_true] using this
  by_cases h14 : k < 14
  · have := List.all_eq_true.mp ck_5 k (List.mem_range'_1.mpr ⟨by omega, by omega⟩)
    simpa only [Bool.and_eq_true] using this
  by_cases h21 : k < 21
  · have := List.all_eq_true.mp ck_14 k (List.mem_range'_1.mpr ⟨by omega, by omega⟩)
    simpa only [Bool.and_eq_true] using this
  by_cases h28 : k < 28
  · have := List.all_eq_true.mp ck_21 k (List.mem_range'_1.mpr ⟨by omega, by omega⟩)
    simpa only [Bool.and_eq_true] using this
  by_cases h33 : k < 33
  · have := List.all_eq_true.mp ck_28 k (List.mem_range'_1.mpr ⟨by omega, by omega⟩)
    simpa only [Bool.and_eq_true] using this
  by_cases h37 : k < 37
  · have := List.all_eq_true.mp ck_33 k (List.mem_range'_1.mpr ⟨by omega, by omega⟩)
    simpa only [Bool.and_eq_true] using this
  by_cases h44 : k < 44
  · have := List.all_eq_true.mp ck_37 k (List.mem_range'_1.mpr ⟨by omega, by omega⟩)
    simpa only [Bool.and_eq_true] using this
  by_cases h48 : k < 48
  · have := List.all_eq_true.mp ck_44 k (List.mem_range'_1.mpr ⟨by omega, by omega⟩)
    simpa only [Bool.and_eq_true] using this
  by_cases h52 : k < 52
  · have := List.all_eq_true.mp ck_48 k (List.mem_range'_1.mpr ⟨by omega, by omega⟩)
    simpa only [Bool.and_eq_true] using this
  by_cases h57 : k < 57
  · have := List.all_eq_true.mp ck_52 k (List.mem_range'_1.mpr ⟨by omega, by omega⟩)
    simpa only [Bool.and_eq_true] using this
  by_cases h63 : k < 63
  · have := List.all_eq_true.mp ck_57 k (List.mem_range'_1.mpr ⟨by omega, by omega⟩)
    simpa only [Bool.and_eq_true] using this
  by_cases h70 : k < 70
  · have := List.all_eq_true.mp ck_63 k (List.mem_range'_1.mpr ⟨by omega, by omega⟩)
    simpa only [Bool.and_eq_true] using this
  by_cases h76 : k < 76
  · have := List.all_eq_true.mp ck_70 k (List.mem_range'_1.mpr ⟨by omega, by omega⟩)
    simpa only [Bool.and_eq_true] using this
  by_cases h82 : k < 82
  · have := List.all_eq_true.mp ck_76 k (List.mem_range'_1.mpr ⟨by omega, by omega⟩)
    simpa only [Bool.and_eq_true] using this
  by_cases h90 : k < 90
  · have := List.all_eq_true.mp ck_82 k (List.mem_range'_1.mpr ⟨by omega, by omega⟩)
    simpa only [Bool.and_eq_true] using this
  by_cases h95 : k < 95
  · have := List.all_eq_true.mp ck_90 k (List.mem_range'_1.mpr ⟨by omega, by omega⟩)
    simpa only [Bool.and_eq_true] using this
  by_cases h101 : k < 101
  · have := List.all_eq_true.mp ck_95 k (List.mem_range'_1.mpr ⟨by omega, by omega⟩)
    simpa only [Bool.and_eq_true] using this
  by_cases h108 : k < 108
  · have := List.all_eq_true.mp ck_101 k (List.mem_range'_1.mpr ⟨by omega, by omega⟩)
    simpa only [Bool.and_eq_true] using this
  by_cases h116 : k < 116
  · have := List.all_eq_true.mp ck_108 k (List.mem_range'_1.mpr ⟨by omega, by omega⟩)
    simpa only [Bool.and_eq_true] using this
  by_cases h121 : k < 121
  · have := List.all_eq_true.mp ck_116 k (List.mem_range'_1.mpr ⟨by omega, by omega⟩)
    simpa only [Bool.and_eq_true] using this
  by_cases h125 : k < 125
  · have := List.all_eq_true.mp ck_121 k (List.mem_range'_1.mpr ⟨by omega, by omega⟩)
    simpa only [Bool.and_eq_true] using this
  by_cases h134 : k < 134
  · have := List.all_eq_true.mp ck_125 k (List.mem_range'_1.mpr ⟨by omega, by omega⟩)
    simpa only [Bool.and_eq_true] using this
  by_cases h139 : k < 139
  · have := List.all_eq_true.mp ck_134 k (List.mem_range'_1.mpr ⟨by omega, by omega⟩)
    simpa only [Bool.and_eq_true] using this
  by_cases h140 : k < 140
  · have := List.all_eq_true.mp ck_139 k (List.mem_range'_1.mpr ⟨by omega, by omega⟩)
    simpa only [Bool.and_eq_true] using this
  by_cases h142 : k < 142
  · have := List.all_eq_true.mp ck_140 k (List.mem_range'_1.mpr ⟨by omega, by omega⟩)
    simpa only [Bool.and_eq_true] using this
  by_cases h143 : k < 143
  · have := List.all_eq_true.mp ck_142 k (List.mem_range'_1.mpr ⟨by omega, by omega⟩)
    simpa only [Bool.and_eq_true] using this
  by_cases h148 : k < 148
  · have := List.all_eq_true.mp ck_143 k (List.mem_range'_1.mpr ⟨by omega, by omega⟩)
    simpa only [Bool.and_eq_true] using this
  by_cases h150 : k < 150
  · have := List.all_eq_true.mp ck_148 k (List.mem_range'_1.mpr ⟨by omega, by omega⟩)
    simpa only [Bool.and_eq_true] using this
  by_cases h152 : k < 152
  · have := List.all_eq_true.mp ck_150 k (List.mem_range'_1.mpr ⟨by omega, by omega⟩)
    simpa only [Bool.and_eq_true] using this
  by_cases h154 : k < 154
  · have := List.all_eq_true.mp ck_152 k (List.mem_range'_1.mpr ⟨by omega, by omega⟩)
    simpa only [Bool.and_eq_true] using this
  by_cases h156 : k < 156
  · have := List.all_eq_true.mp ck_154 k (List.mem_range'_1.mpr ⟨by omega, by omega⟩)
    simpa only [Bool.and_eq_true] using this
  by_cases h162 : k < 162
  · have := List.all_eq_true.mp ck_156 k (List.mem_range'_1.mpr ⟨by omega, by omega⟩)
    simpa only [Bool.and_eq_true] using this
  by_cases h165 : k < 165
  · have := List.all_eq_true.mp ck_162 k (List.mem_range'_1.mpr ⟨by omega, by omega⟩)
    simpa only [Bool.and_eq_true] using this
  by_cases h171 : k < 171
  · have := List.all_eq_true.mp ck_165 k (List.mem_range'_1.mpr ⟨by omega, by omega⟩)
    simpa only [Bool.and_eq_true] using this
  by_cases h174 : k < 174
  · have := List.all_eq_true.mp ck_171 k (List.mem_range'_1.mpr ⟨by omega, by omega⟩)
    simpa only [Bool.and_eq_true] using this
  by_cases h176 : k < 176
  · have := List.all_eq_true.mp ck_174 k (List.mem_range'_1.mpr ⟨by omega, by omega⟩)
    simpa only [Bool.and_eq_true] using this
  by_cases h179 : k < 179
  · have := List.all_eq_true.mp ck_176 k (List.mem_range'_1.mpr ⟨by omega, by omega⟩)
    simpa only [Bool.and_eq_true] using this
  by_cases h184 : k < 184
  · have := List.all_eq_true.mp ck_179 k (List.mem_range'_1.mpr ⟨by omega, by omega⟩)
    simpa only [Bool.and_eq_true] using this
  by_cases h186 : k < 186
  · have := List.all_eq_true.mp ck_184 k (List.mem_range'_1.mpr ⟨by omega, by omega⟩)
    simpa only [Bool.and_eq_true] using this
  by_cases h189 : k < 189
  · have := List.all_eq_true.mp ck_186 k (List.mem_range'_1.mpr ⟨by omega, by omega⟩)
    simpa only [Bool.and_eq_true] using this
  by_cases h192 : k < 192
  · have := List.all_eq_true.mp ck_189 k (List.mem_range'_1.mpr ⟨by omega, by omega⟩)
    simpa only [Bool.and_eq_true] using this
  by_cases h193 : k < 193
  · have := List.all_eq_true.mp ck_192 k (List.mem_range'_1.mpr ⟨by omega, by omega⟩)
    simpa only [Bool.and_eq_true] using this
  by_cases h195 : k < 195
  · have := List.all_eq_true.mp ck_193 k (List.mem_range'_1.mpr ⟨by omega, by omega⟩)
    simpa only [Bool.and_eq_true] using this
  by_cases h204 : k < 204
  · have := List.all_eq_true.mp ck_195 k (List.mem_range'_1.mpr ⟨by omega, by omega⟩)
    simpa only [Bool.and_eq_true] using this
  by_cases h218 : k < 218
  · have := List.all_eq_true.mp ck_204 k (List.mem_range'_1.mpr ⟨by omega, by omega⟩)
    simpa only [Bool.and_eq_true] using this
  by_cases h225 : k < 225
  · have := List.all_eq_true.mp ck_218 k (List.mem_range'_1.mpr ⟨by omega, by omega⟩)
    simpa only [Bool.and_eq_true] using this
  omega
