def wG : List Cond := lw_tbl.filter goodWord
theorem wG_of {w : Cond} (h : w ∈ lw_tbl) (g : goodWord w = true) : w ∈ wG := List.mem_filter.mpr ⟨h, g⟩
theorem wG_good {w : Cond} (h : w ∈ wG) : (w.onTables && w.keeps) = true ∨ ∃ ty, w = .arrayClass ty := good_of_word (List.mem_filter.mp h).2
theorem gdI {y : MethodName} {b : ByteArray} {n : Nat} {r : Option FieldType} (h : Cond.code y b n r ∈ wG) : GoodIn wG (.code y b n r :: wG) := fun w hw => (List.mem_cons.mp hw).elim (fun e => e ▸ ⟨h, wG_good h⟩) (fun h2 => ⟨h2, wG_good h2⟩)
theorem gd3 {a1 a2 a3 : Cond} {ws : List Cond} (h1 : a1 ∈ wG) (h2 : a2 ∈ wG) (h3 : a3 ∈ wG) (h : GoodIn wG ws) : GoodIn wG ([a1, a2, a3] ++ ws) := fun w hw => by
  simp only [List.cons_append, List.nil_append, List.mem_cons] at hw
  rcases hw with rfl | rfl | rfl | hw
  · exact ⟨h1, wG_good h1⟩
  · exact ⟨h2, wG_good h2⟩
  · exact ⟨h3, wG_good h3⟩
  · exact h w hw
theorem gdV {own C : String} {idx : Nat} {y : MethodName} {b : ByteArray} {n : Nat} {r : Option FieldType} (h1 : Cond.methodLink own idx y ∈ wG) (h2 : Cond.instanceMethod y ∈ wG) (h3 : Cond.selects C y y ∈ wG) (h4 : Cond.initialized C ∈ wG) (h : Cond.code y b n r ∈ wG) : GoodIn wG (wsV own idx C y (.code y b n r :: wG)) := fun w hw => by
  simp only [wsV, List.cons_append, List.nil_append] at hw
  rcases List.mem_cons.mp hw with rfl | hw
  · exact ⟨h1, wG_good h1⟩
  · exact gd3 h2 h3 h4 (gdI h) w hw
theorem gdT {own : String} {idx : Nat} {y : MethodName} {b : ByteArray} {n : Nat} {r : Option FieldType} (h1 : Cond.methodLink own idx y ∈ wG) (h2 : Cond.static y ∈ wG) (h3 : Cond.initialized y.cls ∈ wG) (h : Cond.code y b n r ∈ wG) : GoodIn wG (va_wsS own idx y (.code y b n r :: wG)) := gd3 h1 h2 h3 (gdI h)
theorem inT_0 {w : Cond} (h : w ∈ k2_sels lw_privs) : w ∈ lw_tbl := List.mem_append_left _ h
theorem inT_1 {w : Cond} (h : w ∈ tables_1_1) : w ∈ lw_tbl := List.mem_append_right _ (List.mem_append_left _ h)
theorem inT_2 {w : Cond} (h : w ∈ tables_1_2) : w ∈ lw_tbl := List.mem_append_right _ (List.mem_append_right _ (List.mem_append_left _ h))
theorem inT_3 {w : Cond} (h : w ∈ tables_1_3) : w ∈ lw_tbl := List.mem_append_right _ (List.mem_append_right _ (List.mem_append_right _ (List.mem_append_left _ h)))
theorem inT_4 {w : Cond} (h : w ∈ tables_1_4) : w ∈ lw_tbl := List.mem_append_right _ (List.mem_append_right _ (List.mem_append_right _ (List.mem_append_right _ (List.mem_append_left _ h))))
theorem inT_5 {w : Cond} (h : w ∈ tables_1_5) : w ∈ lw_tbl := List.mem_append_right _ (List.mem_append_right _ (List.mem_append_right _ (List.mem_append_right _ (List.mem_append_right _ (List.mem_append_left _ h)))))
theorem inT_6 {w : Cond} (h : w ∈ tables_1_6) : w ∈ lw_tbl := List.mem_append_right _ (List.mem_append_right _ (List.mem_append_right _ (List.mem_append_right _ (List.mem_append_right _ (List.mem_append_right _ (List.mem_append_left _ h))))))
theorem inT_7 {w : Cond} (h : w ∈ tables_1_7) : w ∈ lw_tbl := List.mem_append_right _ (List.mem_append_right _ (List.mem_append_right _ (List.mem_append_right _ (List.mem_append_right _ (List.mem_append_right _ (List.mem_append_right _ (List.mem_append_left _ h)))))))
theorem inT_8 {w : Cond} (h : w ∈ tables_1_8) : w ∈ lw_tbl := List.mem_append_right _ (List.mem_append_right _ (List.mem_append_right _ (List.mem_append_right _ (List.mem_append_right _ (List.mem_append_right _ (List.mem_append_right _ (List.mem_append_right _ (List.mem_append_left _ h))))))))
theorem inT_9 {w : Cond} (h : w ∈ tables_1_9) : w ∈ lw_tbl := List.mem_append_right _ (List.mem_append_right _ (List.mem_append_right _ (List.mem_append_right _ (List.mem_append_right _ (List.mem_append_right _ (List.mem_append_right _ (List.mem_append_right _ (List.mem_append_right _ (h)))))))))
theorem inGX0 : ∀ w ∈ wsX00, w ∈ wG := fun w h => by
  obtain ⟨k, hk, rfl⟩ := List.mem_map.mp h
  have hk := List.mem_range.mp hk
  match k, hk with
  | 0, _ => exact wG_of (inT_2 (List.mem_of_getElem? (i := 77) (by decide +kernel))) (by decide +kernel)
  | 1, _ => exact wG_of (inT_2 (List.mem_of_getElem? (i := 79) (by decide +kernel))) (by decide +kernel)
  | 2, _ => exact wG_of (inT_2 (List.mem_of_getElem? (i := 81) (by decide +kernel))) (by decide +kernel)
  | 3, _ => exact wG_of (inT_2 (List.mem_of_getElem? (i := 83) (by decide +kernel))) (by decide +kernel)
  | 4, _ => exact wG_of (inT_2 (List.mem_of_getElem? (i := 85) (by decide +kernel))) (by decide +kernel)
  | 5, _ => exact wG_of (inT_2 (List.mem_of_getElem? (i := 87) (by decide +kernel))) (by decide +kernel)
  | 6, _ => exact wG_of (inT_2 (List.mem_of_getElem? (i := 89) (by decide +kernel))) (by decide +kernel)
  | 7, _ => exact wG_of (inT_2 (List.mem_of_getElem? (i := 91) (by decide +kernel))) (by decide +kernel)
  | 8, _ => exact wG_of (inT_2 (List.mem_of_getElem? (i := 93) (by decide +kernel))) (by decide +kernel)
  | 9, _ => exact wG_of (inT_2 (List.mem_of_getElem? (i := 95) (by decide +kernel))) (by decide +kernel)
  | 10, _ => exact wG_of (inT_2 (List.mem_of_getElem? (i := 97) (by decide +kernel))) (by decide +kernel)
  | 11, _ => exact wG_of (inT_2 (List.mem_of_getElem? (i := 99) (by decide +kernel))) (by decide +kernel)
  | q + 12, hq => exact absurd hq (by omega)
theorem inGX1 : ∀ w ∈ wsX10, w ∈ wG := fun w h => by
  obtain ⟨k, hk, rfl⟩ := List.mem_map.mp h
  have hk := List.mem_range.mp hk
  match k, hk with
  | 0, _ => exact wG_of (inT_1 (List.mem_of_getElem? (i := 203) (by decide +kernel))) (by decide +kernel)
  | 1, _ => exact wG_of (inT_1 (List.mem_of_getElem? (i := 205) (by decide +kernel))) (by decide +kernel)
  | 2, _ => exact wG_of (inT_1 (List.mem_of_getElem? (i := 207) (by decide +kernel))) (by decide +kernel)
  | 3, _ => exact wG_of (inT_1 (List.mem_of_getElem? (i := 209) (by decide +kernel))) (by decide +kernel)
  | 4, _ => exact wG_of (inT_1 (List.mem_of_getElem? (i := 211) (by decide +kernel))) (by decide +kernel)
  | 5, _ => exact wG_of (inT_1 (List.mem_of_getElem? (i := 213) (by decide +kernel))) (by decide +kernel)
  | 6, _ => exact wG_of (inT_1 (List.mem_of_getElem? (i := 215) (by decide +kernel))) (by decide +kernel)
  | q + 7, hq => exact absurd hq (by omega)
theorem inGX2 : ∀ w ∈ wsX20, w ∈ wG := fun w h => by
  obtain ⟨k, hk, rfl⟩ := List.mem_map.mp h
  have hk := List.mem_range.mp hk
  match k, hk with
  | 0, _ => exact wG_of (inT_2 (List.mem_of_getElem? (i := 25) (by decide +kernel))) (by decide +kernel)
  | 1, _ => exact wG_of (inT_2 (List.mem_of_getElem? (i := 27) (by decide +kernel))) (by decide +kernel)
  | 2, _ => exact wG_of (inT_2 (List.mem_of_getElem? (i := 29) (by decide +kernel))) (by decide +kernel)
  | 3, _ => exact wG_of (inT_2 (List.mem_of_getElem? (i := 31) (by decide +kernel))) (by decide +kernel)
  | 4, _ => exact wG_of (inT_2 (List.mem_of_getElem? (i := 33) (by decide +kernel))) (by decide +kernel)
  | 5, _ => exact wG_of (inT_2 (List.mem_of_getElem? (i := 35) (by decide +kernel))) (by decide +kernel)
  | 6, _ => exact wG_of (inT_2 (List.mem_of_getElem? (i := 37) (by decide +kernel))) (by decide +kernel)
  | 7, _ => exact wG_of (inT_2 (List.mem_of_getElem? (i := 39) (by decide +kernel))) (by decide +kernel)
  | 8, _ => exact wG_of (inT_2 (List.mem_of_getElem? (i := 41) (by decide +kernel))) (by decide +kernel)
  | 9, _ => exact wG_of (inT_2 (List.mem_of_getElem? (i := 43) (by decide +kernel))) (by decide +kernel)
  | 10, _ => exact wG_of (inT_2 (List.mem_of_getElem? (i := 45) (by decide +kernel))) (by decide +kernel)
  | 11, _ => exact wG_of (inT_2 (List.mem_of_getElem? (i := 47) (by decide +kernel))) (by decide +kernel)
  | 12, _ => exact wG_of (inT_2 (List.mem_of_getElem? (i := 49) (by decide +kernel))) (by decide +kernel)
  | 13, _ => exact wG_of (inT_2 (List.mem_of_getElem? (i := 51) (by decide +kernel))) (by decide +kernel)
  | 14, _ => exact wG_of (inT_2 (List.mem_of_getElem? (i := 53) (by decide +kernel))) (by decide +kernel)
  | q + 15, hq => exact absurd hq (by omega)
theorem inGX3 : ∀ w ∈ wsX30, w ∈ wG := fun w h => by
  obtain ⟨k, hk, rfl⟩ := List.mem_map.mp h
  have hk := List.mem_range.mp hk
  match k, hk with
  | 0, _ => exact wG_of (inT_1 (List.mem_of_getElem? (i := 133) (by decide +kernel))) (by decide +kernel)
  | 1, _ => exact wG_of (inT_1 (List.mem_of_getElem? (i := 135) (by decide +kernel))) (by decide +kernel)
  | 2, _ => exact wG_of (inT_1 (List.mem_of_getElem? (i := 137) (by decide +kernel))) (by decide +kernel)
  | 3, _ => exact wG_of (inT_1 (List.mem_of_getElem? (i := 139) (by decide +kernel))) (by decide +kernel)
  | 4, _ => exact wG_of (inT_1 (List.mem_of_getElem? (i := 141) (by decide +kernel))) (by decide +kernel)
  | 5, _ => exact wG_of (inT_1 (List.mem_of_getElem? (i := 143) (by decide +kernel))) (by decide +kernel)
  | 6, _ => exact wG_of (inT_1 (List.mem_of_getElem? (i := 145) (by decide +kernel))) (by decide +kernel)
  | 7, _ => exact wG_of (inT_1 (List.mem_of_getElem? (i := 147) (by decide +kernel))) (by decide +kernel)
  | 8, _ => exact wG_of (inT_1 (List.mem_of_getElem? (i := 149) (by decide +kernel))) (by decide +kernel)
  | q + 9, hq => exact absurd hq (by omega)
theorem inGX4 : ∀ w ∈ wsX40, w ∈ wG := fun w h => by
  obtain ⟨k, hk, rfl⟩ := List.mem_map.mp h
  have hk := List.mem_range.mp hk
  match k, hk with
  | 0, _ => exact wG_of (inT_1 (List.mem_of_getElem? (i := 227) (by decide +kernel))) (by decide +kernel)
  | 1, _ => exact wG_of (inT_1 (List.mem_of_getElem? (i := 229) (by decide +kernel))) (by decide +kernel)
  | 2, _ => exact wG_of (inT_1 (List.mem_of_getElem? (i := 231) (by decide +kernel))) (by decide +kernel)
  | q + 3, hq => exact absurd hq (by omega)
theorem inGX5 : ∀ w ∈ wsX50, w ∈ wG := fun w h => by
  obtain ⟨k, hk, rfl⟩ := List.mem_map.mp h
  have hk := List.mem_range.mp hk
  match k, hk with
  | 0, _ => exact wG_of (inT_1 (List.mem_of_getElem? (i := 45) (by decide +kernel))) (by decide +kernel)
  | 1, _ => exact wG_of (inT_1 (List.mem_of_getElem? (i := 47) (by decide +kernel))) (by decide +kernel)
  | 2, _ => exact wG_of (inT_1 (List.mem_of_getElem? (i := 49) (by decide +kernel))) (by decide +kernel)
  | 3, _ => exact wG_of (inT_1 (List.mem_of_getElem? (i := 51) (by decide +kernel))) (by decide +kernel)
  | 4, _ => exact wG_of (inT_1 (List.mem_of_getElem? (i := 53) (by decide +kernel))) (by decide +kernel)
  | 5, _ => exact wG_of (inT_1 (List.mem_of_getElem? (i := 55) (by decide +kernel))) (by decide +kernel)
  | 6, _ => exact wG_of (inT_1 (List.mem_of_getElem? (i := 57) (by decide +kernel))) (by decide +kernel)
  | 7, _ => exact wG_of (inT_1 (List.mem_of_getElem? (i := 59) (by decide +kernel))) (by decide +kernel)
  | q + 8, hq => exact absurd hq (by omega)
theorem inGX6 : ∀ w ∈ wsX60, w ∈ wG := fun w h => by
  obtain ⟨k, hk, rfl⟩ := List.mem_map.mp h
  have hk := List.mem_range.mp hk
  match k, hk with
  | 0, _ => exact wG_of (inT_1 (List.mem_of_getElem? (i := 86) (by decide +kernel))) (by decide +kernel)
  | 1, _ => exact wG_of (inT_1 (List.mem_of_getElem? (i := 88) (by decide +kernel))) (by decide +kernel)
  | 2, _ => exact wG_of (inT_1 (List.mem_of_getElem? (i := 90) (by decide +kernel))) (by decide +kernel)
  | 3, _ => exact wG_of (inT_1 (List.mem_of_getElem? (i := 92) (by decide +kernel))) (by decide +kernel)
  | q + 4, hq => exact absurd hq (by omega)
theorem inGX7 : ∀ w ∈ wsX70, w ∈ wG := fun w h => by
  obtain ⟨k, hk, rfl⟩ := List.mem_map.mp h
  have hk := List.mem_range.mp hk
  match k, hk with
  | 0, _ => exact wG_of (inT_2 (List.mem_of_getElem? (i := 111) (by decide +kernel))) (by decide +kernel)
  | 1, _ => exact wG_of (inT_2 (List.mem_of_getElem? (i := 113) (by decide +kernel))) (by decide +kernel)
  | 2, _ => exact wG_of (inT_2 (List.mem_of_getElem? (i := 115) (by decide +kernel))) (by decide +kernel)
  | q + 3, hq => exact absurd hq (by omega)
theorem inGX8 : ∀ w ∈ wsX80, w ∈ wG := fun w h => by
  obtain ⟨k, hk, rfl⟩ := List.mem_map.mp h
  have hk := List.mem_range.mp hk
  match k, hk with
  | 0, _ => exact wG_of (inT_2 (List.mem_of_getElem? (i := 129) (by decide +kernel))) (by decide +kernel)
  | 1, _ => exact wG_of (inT_2 (List.mem_of_getElem? (i := 131) (by decide +kernel))) (by decide +kernel)
  | 2, _ => exact wG_of (inT_2 (List.mem_of_getElem? (i := 133) (by decide +kernel))) (by decide +kernel)
  | q + 3, hq => exact absurd hq (by omega)
theorem inGX9 : ∀ w ∈ wsX90, w ∈ wG := fun w h => by
  obtain ⟨k, hk, rfl⟩ := List.mem_map.mp h
  have hk := List.mem_range.mp hk
  match k, hk with
  | 0, _ => exact wG_of (inT_1 (List.mem_of_getElem? (i := 171) (by decide +kernel))) (by decide +kernel)
  | 1, _ => exact wG_of (inT_1 (List.mem_of_getElem? (i := 173) (by decide +kernel))) (by decide +kernel)
  | 2, _ => exact wG_of (inT_1 (List.mem_of_getElem? (i := 175) (by decide +kernel))) (by decide +kernel)
  | 3, _ => exact wG_of (inT_1 (List.mem_of_getElem? (i := 177) (by decide +kernel))) (by decide +kernel)
  | 4, _ => exact wG_of (inT_1 (List.mem_of_getElem? (i := 179) (by decide +kernel))) (by decide +kernel)
  | 5, _ => exact wG_of (inT_1 (List.mem_of_getElem? (i := 181) (by decide +kernel))) (by decide +kernel)
  | q + 6, hq => exact absurd hq (by omega)
theorem inGX10 : ∀ w ∈ wsX100, w ∈ wG := fun w h => by
  obtain ⟨k, hk, rfl⟩ := List.mem_map.mp h
  have hk := List.mem_range.mp hk
  match k, hk with
  | 0, _ => exact wG_of (inT_2 (List.mem_of_getElem? (i := 187) (by decide +kernel))) (by decide +kernel)
  | 1, _ => exact wG_of (inT_2 (List.mem_of_getElem? (i := 189) (by decide +kernel))) (by decide +kernel)
  | 2, _ => exact wG_of (inT_2 (List.mem_of_getElem? (i := 191) (by decide +kernel))) (by decide +kernel)
  | 3, _ => exact wG_of (inT_2 (List.mem_of_getElem? (i := 193) (by decide +kernel))) (by decide +kernel)
  | 4, _ => exact wG_of (inT_2 (List.mem_of_getElem? (i := 195) (by decide +kernel))) (by decide +kernel)
  | 5, _ => exact wG_of (inT_2 (List.mem_of_getElem? (i := 197) (by decide +kernel))) (by decide +kernel)
  | 6, _ => exact wG_of (inT_2 (List.mem_of_getElem? (i := 199) (by decide +kernel))) (by decide +kernel)
  | 7, _ => exact wG_of (inT_2 (List.mem_of_getElem? (i := 201) (by decide +kernel))) (by decide +kernel)
  | 8, _ => exact wG_of (inT_2 (List.mem_of_getElem? (i := 203) (by decide +kernel))) (by decide +kernel)
  | 9, _ => exact wG_of (inT_2 (List.mem_of_getElem? (i := 205) (by decide +kernel))) (by decide +kernel)
  | 10, _ => exact wG_of (inT_2 (List.mem_of_getElem? (i := 207) (by decide +kernel))) (by decide +kernel)
  | 11, _ => exact wG_of (inT_2 (List.mem_of_getElem? (i := 209) (by decide +kernel))) (by decide +kernel)
  | 12, _ => exact wG_of (inT_2 (List.mem_of_getElem? (i := 211) (by decide +kernel))) (by decide +kernel)
  | 13, _ => exact wG_of (inT_2 (List.mem_of_getElem? (i := 213) (by decide +kernel))) (by decide +kernel)
  | 14, _ => exact wG_of (inT_2 (List.mem_of_getElem? (i := 215) (by decide +kernel))) (by decide +kernel)
  | q + 15, hq => exact absurd hq (by omega)
theorem inGX11 : ∀ w ∈ wsX110, w ∈ wG := fun w h => by
  obtain ⟨k, hk, rfl⟩ := List.mem_map.mp h
  have hk := List.mem_range.mp hk
  match k, hk with
  | 0, _ => exact wG_of (inT_6 (List.mem_of_getElem? (i := 138) (by decide +kernel))) (by decide +kernel)
  | 1, _ => exact wG_of (inT_6 (List.mem_of_getElem? (i := 140) (by decide +kernel))) (by decide +kernel)
  | 2, _ => exact wG_of (inT_6 (List.mem_of_getElem? (i := 142) (by decide +kernel))) (by decide +kernel)
  | 3, _ => exact wG_of (inT_6 (List.mem_of_getElem? (i := 144) (by decide +kernel))) (by decide +kernel)
  | 4, _ => exact wG_of (inT_6 (List.mem_of_getElem? (i := 146) (by decide +kernel))) (by decide +kernel)
  | 5, _ => exact wG_of (inT_6 (List.mem_of_getElem? (i := 148) (by decide +kernel))) (by decide +kernel)
  | 6, _ => exact wG_of (inT_6 (List.mem_of_getElem? (i := 150) (by decide +kernel))) (by decide +kernel)
  | 7, _ => exact wG_of (inT_6 (List.mem_of_getElem? (i := 152) (by decide +kernel))) (by decide +kernel)
  | 8, _ => exact wG_of (inT_6 (List.mem_of_getElem? (i := 154) (by decide +kernel))) (by decide +kernel)
  | 9, _ => exact wG_of (inT_6 (List.mem_of_getElem? (i := 156) (by decide +kernel))) (by decide +kernel)
  | 10, _ => exact wG_of (inT_6 (List.mem_of_getElem? (i := 158) (by decide +kernel))) (by decide +kernel)
  | 11, _ => exact wG_of (inT_6 (List.mem_of_getElem? (i := 160) (by decide +kernel))) (by decide +kernel)
  | 12, _ => exact wG_of (inT_6 (List.mem_of_getElem? (i := 162) (by decide +kernel))) (by decide +kernel)
  | 13, _ => exact wG_of (inT_6 (List.mem_of_getElem? (i := 164) (by decide +kernel))) (by decide +kernel)
  | 14, _ => exact wG_of (inT_6 (List.mem_of_getElem? (i := 166) (by decide +kernel))) (by decide +kernel)
  | 15, _ => exact wG_of (inT_6 (List.mem_of_getElem? (i := 168) (by decide +kernel))) (by decide +kernel)
  | 16, _ => exact wG_of (inT_6 (List.mem_of_getElem? (i := 170) (by decide +kernel))) (by decide +kernel)
  | 17, _ => exact wG_of (inT_6 (List.mem_of_getElem? (i := 172) (by decide +kernel))) (by decide +kernel)
  | 18, _ => exact wG_of (inT_6 (List.mem_of_getElem? (i := 174) (by decide +kernel))) (by decide +kernel)
  | 19, _ => exact wG_of (inT_6 (List.mem_of_getElem? (i := 176) (by decide +kernel))) (by decide +kernel)
  | 20, _ => exact wG_of (inT_6 (List.mem_of_getElem? (i := 178) (by decide +kernel))) (by decide +kernel)
  | 21, _ => exact wG_of (inT_6 (List.mem_of_getElem? (i := 180) (by decide +kernel))) (by decide +kernel)
  | 22, _ => exact wG_of (inT_6 (List.mem_of_getElem? (i := 182) (by decide +kernel))) (by decide +kernel)
  | 23, _ => exact wG_of (inT_6 (List.mem_of_getElem? (i := 184) (by decide +kernel))) (by decide +kernel)
  | 24, _ => exact wG_of (inT_6 (List.mem_of_getElem? (i := 186) (by decide +kernel))) (by decide +kernel)
  | 25, _ => exact wG_of (inT_6 (List.mem_of_getElem? (i := 188) (by decide +kernel))) (by decide +kernel)
  | 26, _ => exact wG_of (inT_6 (List.mem_of_getElem? (i := 190) (by decide +kernel))) (by decide +kernel)
  | 27, _ => exact wG_of (inT_6 (List.mem_of_getElem? (i := 192) (by decide +kernel))) (by decide +kernel)
  | 28, _ => exact wG_of (inT_6 (List.mem_of_getElem? (i := 194) (by decide +kernel))) (by decide +kernel)
  | 29, _ => exact wG_of (inT_6 (List.mem_of_getElem? (i := 196) (by decide +kernel))) (by decide +kernel)
  | 30, _ => exact wG_of (inT_6 (List.mem_of_getElem? (i := 198) (by decide +kernel))) (by decide +kernel)
  | 31, _ => exact wG_of (inT_6 (List.mem_of_getElem? (i := 200) (by decide +kernel))) (by decide +kernel)
  | 32, _ => exact wG_of (inT_6 (List.mem_of_getElem? (i := 202) (by decide +kernel))) (by decide +kernel)
  | 33, _ => exact wG_of (inT_6 (List.mem_of_getElem? (i := 204) (by decide +kernel))) (by decide +kernel)
  | 34, _ => exact wG_of (inT_6 (List.mem_of_getElem? (i := 206) (by decide +kernel))) (by decide +kernel)
  | 35, _ => exact wG_of (inT_6 (List.mem_of_getElem? (i := 208) (by decide +kernel))) (by decide +kernel)
  | 36, _ => exact wG_of (inT_6 (List.mem_of_getElem? (i := 210) (by decide +kernel))) (by decide +kernel)
  | 37, _ => exact wG_of (inT_6 (List.mem_of_getElem? (i := 212) (by decide +kernel))) (by decide +kernel)
  | 38, _ => exact wG_of (inT_6 (List.mem_of_getElem? (i := 214) (by decide +kernel))) (by decide +kernel)
  | 39, _ => exact wG_of (inT_6 (List.mem_of_getElem? (i := 216) (by decide +kernel))) (by decide +kernel)
  | 40, _ => exact wG_of (inT_6 (List.mem_of_getElem? (i := 218) (by decide +kernel))) (by decide +kernel)
  | 41, _ => exact wG_of (inT_6 (List.mem_of_getElem? (i := 220) (by decide +kernel))) (by decide +kernel)
  | 42, _ => exact wG_of (inT_6 (List.mem_of_getElem? (i := 222) (by decide +kernel))) (by decide +kernel)
  | 43, _ => exact wG_of (inT_6 (List.mem_of_getElem? (i := 224) (by decide +kernel))) (by decide +kernel)
  | 44, _ => exact wG_of (inT_6 (List.mem_of_getElem? (i := 226) (by decide +kernel))) (by decide +kernel)
  | 45, _ => exact wG_of (inT_6 (List.mem_of_getElem? (i := 228) (by decide +kernel))) (by decide +kernel)
  | 46, _ => exact wG_of (inT_6 (List.mem_of_getElem? (i := 230) (by decide +kernel))) (by decide +kernel)
  | 47, _ => exact wG_of (inT_6 (List.mem_of_getElem? (i := 232) (by decide +kernel))) (by decide +kernel)
  | 48, _ => exact wG_of (inT_6 (List.mem_of_getElem? (i := 234) (by decide +kernel))) (by decide +kernel)
  | 49, _ => exact wG_of (inT_6 (List.mem_of_getElem? (i := 236) (by decide +kernel))) (by decide +kernel)
  | 50, _ => exact wG_of (inT_6 (List.mem_of_getElem? (i := 238) (by decide +kernel))) (by decide +kernel)
  | 51, _ => exact wG_of (inT_7 (List.mem_of_getElem? (i := 0) (by decide +kernel))) (by decide +kernel)
  | 52, _ => exact wG_of (inT_7 (List.mem_of_getElem? (i := 2) (by decide +kernel))) (by decide +kernel)
  | 53, _ => exact wG_of (inT_7 (List.mem_of_getElem? (i := 4) (by decide +kernel))) (by decide +kernel)
  | 54, _ => exact wG_of (inT_7 (List.mem_of_getElem? (i := 6) (by decide +kernel))) (by decide +kernel)
  | 55, _ => exact wG_of (inT_7 (List.mem_of_getElem? (i := 8) (by decide +kernel))) (by decide +kernel)
  | 56, _ => exact wG_of (inT_7 (List.mem_of_getElem? (i := 10) (by decide +kernel))) (by decide +kernel)
  | 57, _ => exact wG_of (inT_7 (List.mem_of_getElem? (i := 12) (by decide +kernel))) (by decide +kernel)
  | q + 58, hq => exact absurd hq (by omega)
