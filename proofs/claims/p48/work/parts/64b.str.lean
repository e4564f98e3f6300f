theorem nsr_0 : Cond.stringRef RX5 105 "line" ∈ lw_tbl := (inT_3 (List.mem_of_getElem? (i := 31) (by decide +kernel)))
theorem nsr_1 : Cond.stringRef RX5 111 "long" ∈ lw_tbl := (inT_3 (List.mem_of_getElem? (i := 92) (by decide +kernel)))
theorem nsr_2 : Cond.stringRef RX5 121 "slope" ∈ lw_tbl := (inT_3 (List.mem_of_getElem? (i := 105) (by decide +kernel)))
theorem nsr_3 : Cond.stringRef RX5 126 "wet" ∈ lw_tbl := (inT_3 (List.mem_of_getElem? (i := 130) (by decide +kernel)))
theorem nsr_4 : Cond.stringRef RX5 131 "limit" ∈ lw_tbl := (inT_3 (List.mem_of_getElem? (i := 137) (by decide +kernel)))
theorem nsr_5 : Cond.stringRef RX5 136 "platform" ∈ lw_tbl := (inT_3 (List.mem_of_getElem? (i := 143) (by decide +kernel)))
theorem nsr_6 : Cond.stringRef RX5 141 "kind" ∈ lw_tbl := (inT_3 (List.mem_of_getElem? (i := 148) (by decide +kernel)))
theorem nsr_7 : Cond.stringRef RX5 146 "train" ∈ lw_tbl := (inT_3 (List.mem_of_getElem? (i := 155) (by decide +kernel)))
theorem nsr_8 : Cond.stringRef RX5 151 "coach" ∈ lw_tbl := (inT_3 (List.mem_of_getElem? (i := 163) (by decide +kernel)))
theorem nsr_9 : Cond.stringRef RX5 164 "at" ∈ lw_tbl := (inT_3 (List.mem_of_getElem? (i := 123) (by decide +kernel)))
theorem nsr_10 : Cond.stringRef RX5 170 "up" ∈ lw_tbl := (inT_3 (List.mem_of_getElem? (i := 128) (by decide +kernel)))
theorem nsr_11 : Cond.stringRef RX5 172 "down" ∈ lw_tbl := (inT_3 (List.mem_of_getElem? (i := 129) (by decide +kernel)))
theorem nsr_12 : Cond.stringRef RX5 177 "to" ∈ lw_tbl := (inT_3 (List.mem_of_getElem? (i := 135) (by decide +kernel)))
theorem nsr_13 : Cond.stringRef RX5 179 "by" ∈ lw_tbl := (inT_3 (List.mem_of_getElem? (i := 136) (by decide +kernel)))
theorem nsr_14 : Cond.stringRef RX5 184 "of" ∈ lw_tbl := (inT_3 (List.mem_of_getElem? (i := 142) (by decide +kernel)))
theorem nsr_15 : Cond.stringRef RX5 192 "roll" ∈ lw_tbl := (inT_3 (List.mem_of_getElem? (i := 153) (by decide +kernel)))
theorem nsr_16 : Cond.stringRef RX5 194 "brakes" ∈ lw_tbl := (inT_3 (List.mem_of_getElem? (i := 154) (by decide +kernel)))
theorem nsr_17 : Cond.stringRef RX5 199 "starts" ∈ lw_tbl := (inT_3 (List.mem_of_getElem? (i := 160) (by decide +kernel)))
theorem nsr_18 : Cond.stringRef RX5 201 "speed" ∈ lw_tbl := (inT_3 (List.mem_of_getElem? (i := 161) (by decide +kernel)))
theorem nsr_19 : Cond.stringRef RX5 203 "loses" ∈ lw_tbl := (inT_3 (List.mem_of_getElem? (i := 162) (by decide +kernel)))
theorem nsr_20 : Cond.stringRef RX5 215 "for" ∈ lw_tbl := (inT_3 (List.mem_of_getElem? (i := 173) (by decide +kernel)))
theorem nsz_0 : Cond.laysStatic "java/lang/String" "COMPACT_STRINGS" "Z" ∈ lw_tbl := (inT_3 (List.mem_of_getElem? (i := 49) (by decide +kernel)))
theorem nsz_1 : Cond.initialized "java/lang/String" ∈ lw_tbl := (inT_1 (List.mem_of_getElem? (i := 15) (by decide +kernel)))
theorem nsz_2 : Cond.laysStatic "jdk/internal/util/Preconditions" "SIOOBE_FORMATTER" "Ljava/util/function/BiFunction;" ∈ lw_tbl := (inT_3 (List.mem_of_getElem? (i := 65) (by decide +kernel)))
theorem nsz_3 : Cond.initialized "jdk/internal/util/Preconditions" ∈ lw_tbl := (inT_1 (List.mem_of_getElem? (i := 17) (by decide +kernel)))
def nq_T : Cond := Jvm.Cond.and given_1 narrow_1
def nq_si : List Nat := [105, 111, 121, 126, 131, 136, 141, 146, 151, 164, 170, 172, 177, 179, 184, 192, 194, 199, 201, 203, 215]
def nq_tm (i : Nat) : Term := Term.string "SlipCoach$Reader" (nq_si.getD i 0)
theorem nq_mem {i : Nat} {w : Cond} {av : Array Value} {s : State} (hgv : nq_T.before av s = true) (h : (flatC nq_T)[i]? = some w) : w.before av s = true := flat_of_before _ hgv _ (List.mem_of_getElem? h)
set_option maxRecDepth 100000 in
theorem nq_f1 : ∀ i, i < 21 → (flatC nq_T)[([33, 41, 50, 93, 133, 167, 190, 255, 358, 61, 70, 80, 106, 119, 151, 210, 231, 279, 305, 331, 386] : List Nat).getD i 0]? = some (Cond.exactly (nq_tm i) "java/lang/String") := by decide +kernel
set_option maxRecDepth 100000 in
theorem nq_f2 : ∀ i, i < 21 → (flatC nq_T)[([34, 42, 51, 94, 134, 168, 191, 256, 359, 62, 71, 81, 107, 120, 152, 211, 232, 280, 306, 332, 387] : List Nat).getD i 0]? = some (Cond.eq (.field (nq_tm i) "java/lang/String" "coder" "B") (.int 0)) := by decide +kernel
set_option maxRecDepth 100000 in
theorem nq_f3 : ∀ i, i < 21 → (flatC nq_T)[([35, 43, 52, 95, 135, 169, 192, 257, 360, 63, 72, 82, 108, 121, 153, 212, 233, 281, 307, 333, 388] : List Nat).getD i 0]? = some (Cond.arrayOf (.field (nq_tm i) "java/lang/String" "value" "[B") .byte) := by decide +kernel
set_option maxRecDepth 100000 in
theorem nq_f4 : ∀ i, i < 21 → (flatC nq_T)[([36, 44, 53, 96, 136, 170, 193, 258, 361, 64, 73, 83, 109, 122, 154, 213, 234, 282, 308, 334, 389] : List Nat).getD i 0]? = some (Cond.eq (.length (.field (nq_tm i) "java/lang/String" "value" "[B")) (.int (Int32.ofNat (mq_slen.getD i 0)))) := by decide +kernel
set_option maxRecDepth 100000 in
theorem nq_f5 : ∀ i, i < 21 → ∀ j, j < mq_slen.getD i 0 → (flatC nq_T)[(([[37, 38, 39, 40], [45, 46, 47, 48], [54, 55, 56, 57, 58], [97, 98, 99], [137, 138, 139, 140, 141], [171, 172, 173, 174, 175, 176, 177, 178], [194, 195, 196, 197], [259, 260, 261, 262, 263], [362, 363, 364, 365, 366], [65, 66], [74, 75], [84, 85, 86, 87], [110, 111], [123, 124], [155, 156], [214, 215, 216, 217], [235, 236, 237, 238, 239, 240], [283, 284, 285, 286, 287, 288], [309, 310, 311, 312, 313], [335, 336, 337, 338, 339], [390, 391, 392]] : List (List Nat)).getD i []).getD j 0]? = some (Cond.eq (.elem (.field (nq_tm i) "java/lang/String" "value" "[B") (.int (Int32.ofNat j))) (.int ((mq_sbyt.getD i []).getD j 0))) := by decide +kernel
def nq_nel : List (List Nat) := [[0, 49, 59, 100, 142, 179, 198, 264, 367, 67, 76, 88, 112, 125, 157, 218, 241, 289, 314, 340, 393], [10049, 0, 60, 101, 143, 180, 199, 265, 368, 68, 77, 89, 113, 126, 158, 219, 242, 290, 315, 341, 394], [10059, 10060, 0, 102, 144, 181, 200, 266, 369, 69, 78, 90, 114, 127, 159, 220, 243, 291, 316, 342, 395], [10100, 10101, 10102, 0, 148, 185, 204, 270, 373, 10103, 10104, 10105, 118, 131, 163, 224, 247, 295, 320, 346, 399], [10142, 10143, 10144, 10148, 0, 188, 207, 273, 376, 10145, 10146, 10147, 10149, 10150, 166, 227, 250, 298, 323, 349, 402], [10179, 10180, 10181, 10185, 10188, 0, 209, 275, 378, 10182, 10183, 10184, 10186, 10187, 10189, 229, 252, 300, 325, 351, 404], [10198, 10199, 10200, 10204, 10207, 10209, 0, 276, 379, 10201, 10202, 10203, 10205, 10206, 10208, 230, 253, 301, 326, 352, 405], [10264, 10265, 10266, 10270, 10273, 10275, 10276, 0, 382, 10267, 10268, 10269, 10271, 10272, 10274, 10277, 10278, 304, 329, 355, 408], [10367, 10368, 10369, 10373, 10376, 10378, 10379, 10382, 0, 10370, 10371, 10372, 10374, 10375, 10377, 10380, 10381, 10383, 10384, 10385, 412], [10067, 10068, 10069, 103, 145, 182, 201, 267, 370, 0, 79, 91, 115, 128, 160, 221, 244, 292, 317, 343, 396], [10076, 10077, 10078, 104, 146, 183, 202, 268, 371, 10079, 0, 92, 116, 129, 161, 222, 245, 293, 318, 344, 397], [10088, 10089, 10090, 105, 147, 184, 203, 269, 372, 10091, 10092, 0, 117, 130, 162, 223, 246, 294, 319, 345, 398], [10112, 10113, 10114, 10118, 149, 186, 205, 271, 374, 10115, 10116, 10117, 0, 132, 164, 225, 248, 296, 321, 347, 400], [10125, 10126, 10127, 10131, 150, 187, 206, 272, 375, 10128, 10129, 10130, 10132, 0, 165, 226, 249, 297, 322, 348, 401], [10157, 10158, 10159, 10163, 10166, 189, 208, 274, 377, 10160, 10161, 10162, 10164, 10165, 0, 228, 251, 299, 324, 350, 403], [10218, 10219, 10220, 10224, 10227, 10229, 10230, 277, 380, 10221, 10222, 10223, 10225, 10226, 10228, 0, 254, 302, 327, 353, 406], [10241, 10242, 10243, 10247, 10250, 10252, 10253, 278, 381, 10244, 10245, 10246, 10248, 10249, 10251, 10254, 0, 303, 328, 354, 407], [10289, 10290, 10291, 10295, 10298, 10300, 10301, 10304, 383, 10292, 10293, 10294, 10296, 10297, 10299, 10302, 10303, 0, 330, 356, 409], [10314, 10315, 10316, 10320, 10323, 10325, 10326, 10329, 384, 10317, 10318, 10319, 10321, 10322, 10324, 10327, 10328, 10330, 0, 357, 410], [10340, 10341, 10342, 10346, 10349, 10351, 10352, 10355, 385, 10343, 10344, 10345, 10347, 10348, 10350, 10353, 10354, 10356, 10357, 0, 411], [10393, 10394, 10395, 10399, 10402, 10404, 10405, 10408, 10412, 10396, 10397, 10398, 10400, 10401, 10403, 10406, 10407, 10409, 10410, 10411, 0]]
set_option maxRecDepth 100000 in
theorem nq_f6 : ∀ i, i < 21 → ∀ j, j < 21 → i ≠ j → (flatC nq_T)[(nq_nel.getD i []).getD j 0]? = some (Cond.not (Cond.eq (nq_tm i) (nq_tm j))) ∨ (flatC nq_T)[(nq_nel.getD i []).getD j 0 - 10000]? = some (Cond.not (Cond.eq (nq_tm j) (nq_tm i))) := by decide +kernel
set_option maxRecDepth 100000 in
theorem nq_f7 : (flatC nq_T)[4]? = some (Cond.eq (.static "java/lang/String" "COMPACT_STRINGS" "Z") (.int 1)) := by decide +kernel
set_option maxRecDepth 100000 in
theorem nq_f8 : (flatC nq_T)[5]? = some (Cond.isRef (.static "jdk/internal/util/Preconditions" "SIOOBE_FORMATTER" "Ljava/util/function/BiFunction;")) := by decide +kernel
set_option maxRecDepth 100000 in
theorem nq_str {b : Nat} {s : State} (hts : ∀ w ∈ lw_tbl, w.before #[Value.ref b] s = true) (hgv : nq_T.before #[Value.ref b] s = true) : ∃ ex : mq_J → Nat, ex (97, 0) = b ∧ ∀ a : Nat → Nat, mq_str (nq_ad a ex) (fun q : Nat => s.heap.size ≤ q) s s.heap := by
  have hA : ∀ a : Nat, a < s.heap.size → ¬ (fun q : Nat => s.heap.size ≤ q) a := fun a h => Nat.not_le.mpr h
  obtain ⟨adK, adV, hS, hE⟩ := vk_Sof (args := #[Value.ref b]) (s := s) (N := 21) (tm := nq_tm) (len := mq_slen) (byt := mq_sbyt) (A := fun q : Nat => s.heap.size ≤ q) (by decide +kernel) (fun i hi => nq_mem hgv (nq_f1 i hi)) (fun i hi => nq_mem hgv (nq_f2 i hi)) (fun i hi => nq_mem hgv (nq_f3 i hi)) (fun i hi => nq_mem hgv (nq_f4 i hi)) (fun i hi j hj => nq_mem hgv (nq_f5 i hi j hj)) (fun i j hi hj hn => (nq_f6 i hi j hj hn).imp (fun h => nq_mem hgv h) (fun h => nq_mem hgv h)) hA
  obtain ⟨v, hv, hvr⟩ := Cond.isRef_spec (nq_mem hgv nq_f8)
  have hz : ∃ z : Nat, v = .null ∨ v = .ref z := by
    cases v with
    | null => exact ⟨0, Or.inl rfl⟩
    | ref z => exact ⟨z, Or.inr rfl⟩
    | _ => exact absurd hvr (by simp [Value.isRef])
  obtain ⟨z, hz⟩ := hz
  refine ⟨fun j => bif Nat.beq j.1 97 then b else bif Nat.beq j.1 99 then adK j.2 else bif Nat.beq j.1 98 then adV j.2 else z, rfl, fun a => ⟨hS, ?_, va_Zof (hts _ nsz_0) (hts _ nsz_1) (va_eqt (nq_mem hgv nq_f7)) hA, v, hz, va_Zof (hts _ nsz_2) (hts _ nsz_3) hv hA⟩⟩
  intro q hq
  simp only [mq_strs, List.mem_cons, List.not_mem_nil, or_false] at hq
  rcases hq with rfl | rfl | rfl | rfl | rfl | rfl | rfl | rfl | rfl | rfl | rfl | rfl | rfl | rfl | rfl | rfl | rfl | rfl | rfl | rfl | rfl
  · exact vk_R.of (hts _ nsr_0) (hE 0 (by decide))
  · exact vk_R.of (hts _ nsr_1) (hE 1 (by decide))
  · exact vk_R.of (hts _ nsr_2) (hE 2 (by decide))
  · exact vk_R.of (hts _ nsr_3) (hE 3 (by decide))
  · exact vk_R.of (hts _ nsr_4) (hE 4 (by decide))
  · exact vk_R.of (hts _ nsr_5) (hE 5 (by decide))
  · exact vk_R.of (hts _ nsr_6) (hE 6 (by decide))
  · exact vk_R.of (hts _ nsr_7) (hE 7 (by decide))
  · exact vk_R.of (hts _ nsr_8) (hE 8 (by decide))
  · exact vk_R.of (hts _ nsr_9) (hE 9 (by decide))
  · exact vk_R.of (hts _ nsr_10) (hE 10 (by decide))
  · exact vk_R.of (hts _ nsr_11) (hE 11 (by decide))
  · exact vk_R.of (hts _ nsr_12) (hE 12 (by decide))
  · exact vk_R.of (hts _ nsr_13) (hE 13 (by decide))
  · exact vk_R.of (hts _ nsr_14) (hE 14 (by decide))
  · exact vk_R.of (hts _ nsr_15) (hE 15 (by decide))
  · exact vk_R.of (hts _ nsr_16) (hE 16 (by decide))
  · exact vk_R.of (hts _ nsr_17) (hE 17 (by decide))
  · exact vk_R.of (hts _ nsr_18) (hE 18 (by decide))
  · exact vk_R.of (hts _ nsr_19) (hE 19 (by decide))
  · exact vk_R.of (hts _ nsr_20) (hE 20 (by decide))
