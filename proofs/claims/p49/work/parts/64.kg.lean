theorem ntw_1 : Cond.instantiable RX0 12 ∈ lw_tbl := (inT_2 (List.mem_of_getElem? (i := 57) (by decide +kernel)))
theorem ntw_2 : Cond.instantiable RX1 7 ∈ lw_tbl := (inT_1 (List.mem_of_getElem? (i := 186) (by decide +kernel)))
theorem ntw_3 : Cond.instantiable RX2 15 ∈ lw_tbl := (inT_1 (List.mem_of_getElem? (i := 235) (by decide +kernel)))
theorem ntw_4 : Cond.instantiable RX3 9 ∈ lw_tbl := (inT_1 (List.mem_of_getElem? (i := 64) (by decide +kernel)))
theorem ntw_5 : Cond.instantiable RX4 3 ∈ lw_tbl := (inT_1 (List.mem_of_getElem? (i := 219) (by decide +kernel)))
theorem ntw_6 : Cond.instantiable RX5 8 ∈ lw_tbl := (inT_1 (List.mem_of_getElem? (i := 30) (by decide +kernel)))
theorem ntw_7 : Cond.instantiable RX6 4 ∈ lw_tbl := (inT_1 (List.mem_of_getElem? (i := 70) (by decide +kernel)))
theorem ntw_8 : Cond.instantiable RX7 3 ∈ lw_tbl := (inT_2 (List.mem_of_getElem? (i := 103) (by decide +kernel)))
theorem ntw_9 : Cond.instantiable RX8 3 ∈ lw_tbl := (inT_2 (List.mem_of_getElem? (i := 118) (by decide +kernel)))
theorem ntw_10 : Cond.instantiable RX9 6 ∈ lw_tbl := (inT_1 (List.mem_of_getElem? (i := 156) (by decide +kernel)))
theorem ntw_11 : Cond.instantiable RX10 15 ∈ lw_tbl := (inT_1 (List.mem_of_getElem? (i := 22) (by decide +kernel)))
theorem ntw_12 : Cond.instantiable RX11 58 ∈ lw_tbl := (inT_6 (List.mem_of_getElem? (i := 74) (by decide +kernel)))
theorem ntw_13 : Cond.arrayClass .int ∈ lw_tbl := (inT_1 (List.mem_of_getElem? (i := 95) (by decide +kernel)))
theorem ntw_14 : Cond.arrayClass .byte ∈ lw_tbl := (inT_1 (List.mem_of_getElem? (i := 62) (by decide +kernel)))
theorem ntw_15 : Cond.arrayClass .boolean ∈ lw_tbl := (inT_1 (List.mem_of_getElem? (i := 184) (by decide +kernel)))
theorem ntw_16 : Cond.arrayClass .long ∈ lw_tbl := (inT_2 (List.mem_of_getElem? (i := 136) (by decide +kernel)))
theorem ntw_17 : Cond.arrayOver (.object "SlipCoach$Line") ∈ lw_tbl := (inT_1 (List.mem_of_getElem? (i := 152) (by decide +kernel)))
theorem ntw_18 : Cond.arrayOver (.object "SlipCoach$Slot") ∈ lw_tbl := (inT_1 (List.mem_of_getElem? (i := 154) (by decide +kernel)))
theorem ntw_19 : Cond.arrayOver (.array .byte) ∈ lw_tbl := (inT_1 (List.mem_of_getElem? (i := 192) (by decide +kernel)))
theorem ntw_20 : Cond.methodLinkNest RX10 19 yX5_init "SlipCoach" ∈ lw_tbl := (inT_1 (List.mem_of_getElem? (i := 31) (by decide +kernel)))
theorem ntw_21 : Cond.methodLinkNest RX10 26 yX3_init "SlipCoach" ∈ lw_tbl := (inT_1 (List.mem_of_getElem? (i := 65) (by decide +kernel)))
theorem ntw_22 : Cond.methodLinkNest RX10 54 yX9_init "SlipCoach" ∈ lw_tbl := (inT_1 (List.mem_of_getElem? (i := 157) (by decide +kernel)))
theorem ntw_23 : Cond.methodLinkNest RX10 70 yX4_init "SlipCoach" ∈ lw_tbl := (inT_1 (List.mem_of_getElem? (i := 220) (by decide +kernel)))
theorem ntw_24 : Cond.methodLinkNest RX10 95 yX7_init "SlipCoach" ∈ lw_tbl := (inT_2 (List.mem_of_getElem? (i := 104) (by decide +kernel)))
theorem ntw_25 : Cond.methodLinkNest RX10 100 yX8_init "SlipCoach" ∈ lw_tbl := (inT_2 (List.mem_of_getElem? (i := 119) (by decide +kernel)))
theorem ntw_26 : Cond.methodLinkNest RX9 72 yX10_isAmong "SlipCoach" ∈ lw_tbl := (inT_2 (List.mem_of_getElem? (i := 162) (by decide +kernel)))
theorem ntw_27 : Cond.methodLinkNest RX9 101 yX10_speedLess "SlipCoach" ∈ lw_tbl := (inT_4 (List.mem_of_getElem? (i := 11) (by decide +kernel)))
theorem ntw_28 : Cond.methodLinkNest RX1 39 yX10_isAmong "SlipCoach" ∈ lw_tbl := (inT_4 (List.mem_of_getElem? (i := 30) (by decide +kernel)))
theorem ntw_29 : Cond.methodLinkNest RX1 43 yX10_cellOf "SlipCoach" ∈ lw_tbl := (inT_4 (List.mem_of_getElem? (i := 44) (by decide +kernel)))
theorem ntw_30 : Cond.methodLinkNest RX1 90 yX10_speedLess "SlipCoach" ∈ lw_tbl := (inT_4 (List.mem_of_getElem? (i := 52) (by decide +kernel)))
theorem ntw_31 : Cond.methodLinkNest RX4 28 yX10_isAmong "SlipCoach" ∈ lw_tbl := (inT_4 (List.mem_of_getElem? (i := 84) (by decide +kernel)))
theorem ntw_32 : Cond.methodLinkNest RX4 38 yX10_cellOf "SlipCoach" ∈ lw_tbl := (inT_4 (List.mem_of_getElem? (i := 86) (by decide +kernel)))
theorem ntw_33 : Cond.methodLinkNest RX4 51 yX10_speedLess "SlipCoach" ∈ lw_tbl := (inT_4 (List.mem_of_getElem? (i := 92) (by decide +kernel)))
theorem ntw_34 : Cond.methodLinkNest RX2 67 yX10_isAmong "SlipCoach" ∈ lw_tbl := (inT_4 (List.mem_of_getElem? (i := 195) (by decide +kernel)))
theorem ntw_35 : Cond.methodLinkNest RX7 63 yX10_isAmong "SlipCoach" ∈ lw_tbl := (inT_5 (List.mem_of_getElem? (i := 202) (by decide +kernel)))
set_option maxHeartbeats 40000000 in
set_option maxRecDepth 100000 in
theorem mq_kG_start {s : State} {av : Array Value} (h0 : ∀ w ∈ lw_tbl, w.before av s = true) : ∃ G : KG, mq_kG G s := by
  obtain ⟨c0, iS0, k0⟩ := u_known (C := RX0) (T := TX0) (N := 12) (n := 12) h0 (fun w h => (List.mem_filter.mp (inGX0 w h)).1) (h0 _ ntw_1)
  obtain ⟨c1, iS1, k1⟩ := u_known (C := RX1) (T := TX1) (N := 7) (n := 7) h0 (fun w h => (List.mem_filter.mp (inGX1 w h)).1) (h0 _ ntw_2)
  obtain ⟨c2, iS2, k2⟩ := u_known (C := RX2) (T := TX2) (N := 15) (n := 15) h0 (fun w h => (List.mem_filter.mp (inGX2 w h)).1) (h0 _ ntw_3)
  obtain ⟨c3, iS3, k3⟩ := u_known (C := RX3) (T := TX3) (N := 9) (n := 9) h0 (fun w h => (List.mem_filter.mp (inGX3 w h)).1) (h0 _ ntw_4)
  obtain ⟨c4, iS4, k4⟩ := u_known (C := RX4) (T := TX4) (N := 3) (n := 3) h0 (fun w h => (List.mem_filter.mp (inGX4 w h)).1) (h0 _ ntw_5)
  obtain ⟨c5, iS5, k5⟩ := u_known (C := RX5) (T := TX5) (N := 8) (n := 8) h0 (fun w h => (List.mem_filter.mp (inGX5 w h)).1) (h0 _ ntw_6)
  obtain ⟨c6, iS6, k6⟩ := u_known (C := RX6) (T := TX6) (N := 4) (n := 4) h0 (fun w h => (List.mem_filter.mp (inGX6 w h)).1) (h0 _ ntw_7)
  obtain ⟨c7, iS7, k7⟩ := u_known (C := RX7) (T := TX7) (N := 3) (n := 3) h0 (fun w h => (List.mem_filter.mp (inGX7 w h)).1) (h0 _ ntw_8)
  obtain ⟨c8, iS8, k8⟩ := u_known (C := RX8) (T := TX8) (N := 3) (n := 3) h0 (fun w h => (List.mem_filter.mp (inGX8 w h)).1) (h0 _ ntw_9)
  obtain ⟨c9, iS9, k9⟩ := u_known (C := RX9) (T := TX9) (N := 6) (n := 6) h0 (fun w h => (List.mem_filter.mp (inGX9 w h)).1) (h0 _ ntw_10)
  obtain ⟨c10, iS10, k10⟩ := u_known (C := RX10) (T := TX10) (N := 15) (n := 15) h0 (fun w h => (List.mem_filter.mp (inGX10 w h)).1) (h0 _ ntw_11)
  obtain ⟨c11, iS11, k11⟩ := u_known (C := RX11) (T := TX11) (N := 58) (n := 58) h0 (fun w h => (List.mem_filter.mp (inGX11 w h)).1) (h0 _ ntw_12)
  obtain ⟨a0, ak0, ac0, af0, ag0, ah0⟩ := Cond.arrayClass_spec (h0 _ ntw_13)
  obtain ⟨a1, ak1, ac1, af1, ag1, ah1⟩ := Cond.arrayClass_spec (h0 _ ntw_14)
  obtain ⟨a2, ak2, ac2, af2, ag2, ah2⟩ := Cond.arrayClass_spec (h0 _ ntw_15)
  obtain ⟨a3, ak3, ac3, af3, ag3, ah3⟩ := Cond.arrayClass_spec (h0 _ ntw_16)
  have o4 := h0 _ ntw_17
  obtain ⟨ac4, a4, ak4, ai4, aj4, ag4, ah4, af4⟩ := Cond.arrayOver_spec o4
  have o5 := h0 _ ntw_18
  obtain ⟨ac5, a5, ak5, ai5, aj5, ag5, ah5, af5⟩ := Cond.arrayOver_spec o5
  have o6 := h0 _ ntw_19
  obtain ⟨ac6, a6, ak6, ai6, aj6, ag6, ah6, af6⟩ := arrayOverA_spec o6
  refine ⟨((fun k => match k with | 0 => c0 | 1 => c1 | 2 => c2 | 3 => c3 | 4 => c4 | 5 => c5 | 6 => c6 | 7 => c7 | 8 => c8 | 9 => c9 | 10 => c10 | _ => c11, fun k => match k with | 0 => iS0 | 1 => iS1 | 2 => iS2 | 3 => iS3 | 4 => iS4 | 5 => iS5 | 6 => iS6 | 7 => iS7 | 8 => iS8 | 9 => iS9 | 10 => iS10 | _ => iS11), fun k => match k with | 0 => a0 | 1 => a1 | 2 => a2 | 3 => a3 | 4 => a4 | 5 => a5 | _ => a6), ⟨⟨?_, ?_⟩, va_AO.of o4, va_AO.of o5, over_moved (Vm.Alike.refl s.vm) (h0 _ ntw_19), ?_⟩⟩
  · intro k q hq
    match k, hq with
    | 0, hq => cases hq; exact k0
    | 1, hq => cases hq; exact k1
    | 2, hq => cases hq; exact k2
    | 3, hq => cases hq; exact k3
    | 4, hq => cases hq; exact k4
    | 5, hq => cases hq; exact k5
    | 6, hq => cases hq; exact k6
    | 7, hq => cases hq; exact k7
    | 8, hq => cases hq; exact k8
    | 9, hq => cases hq; exact k9
    | 10, hq => cases hq; exact k10
    | 11, hq => cases hq; exact k11
    | k + 12, hq => simp [vwCl] at hq
  · intro k q hq
    match k, hq with
    | 0, hq => cases hq; exact ⟨fun n z => ⟨(fun k h => by cases h), ak0, ag0, ac0, ah0⟩, af0⟩
    | 1, hq => cases hq; exact ⟨fun n z => ⟨(fun k h => by cases h), ak1, ag1, ac1, ah1⟩, af1⟩
    | 2, hq => cases hq; exact ⟨fun n z => ⟨(fun k h => by cases h), ak2, ag2, ac2, ah2⟩, af2⟩
    | 3, hq => cases hq; exact ⟨fun n z => ⟨(fun k h => by cases h), ak3, ag3, ac3, ah3⟩, af3⟩
    | 4, hq => cases hq; exact ⟨fun n z => ⟨(fun k h => by cases h), ak4, ag4, ac4, ah4⟩, ak4, ac4, ag4, ah4, ai4, af4⟩
    | 5, hq => cases hq; exact ⟨fun n z => ⟨(fun k h => by cases h), ak5, ag5, ac5, ah5⟩, ak5, ac5, ag5, ah5, ai5, af5⟩
    | 6, hq => cases hq; exact ⟨fun n z => ⟨(fun k h => by cases h), ak6, ag6, ac6, ah6⟩, af6⟩
    | k + 7, hq => simp [mq_ty, tyG] at hq
  · intro k q hq
    match k, hq with
    | 0, hq => cases hq; exact va_Nw.of rfl (h0 _ ntw_20)
    | 1, hq => cases hq; exact va_Nw.of rfl (h0 _ ntw_21)
    | 2, hq => cases hq; exact va_Nw.of rfl (h0 _ ntw_22)
    | 3, hq => cases hq; exact va_Nw.of rfl (h0 _ ntw_23)
    | 4, hq => cases hq; exact va_Nw.of rfl (h0 _ ntw_24)
    | 5, hq => cases hq; exact va_Nw.of rfl (h0 _ ntw_25)
    | 6, hq => cases hq; exact va_Nw.of rfl (h0 _ ntw_26)
    | 7, hq => cases hq; exact va_Nw.of rfl (h0 _ ntw_27)
    | 8, hq => cases hq; exact va_Nw.of rfl (h0 _ ntw_28)
    | 9, hq => cases hq; exact va_Nw.of rfl (h0 _ ntw_29)
    | 10, hq => cases hq; exact va_Nw.of rfl (h0 _ ntw_30)
    | 11, hq => cases hq; exact va_Nw.of rfl (h0 _ ntw_31)
    | 12, hq => cases hq; exact va_Nw.of rfl (h0 _ ntw_32)
    | 13, hq => cases hq; exact va_Nw.of rfl (h0 _ ntw_33)
    | 14, hq => cases hq; exact va_Nw.of rfl (h0 _ ntw_34)
    | 15, hq => cases hq; exact va_Nw.of rfl (h0 _ ntw_35)
    | k + 16, hq => simp [nsL] at hq
