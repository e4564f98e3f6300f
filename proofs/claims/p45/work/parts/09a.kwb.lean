theorem kwB : Cond.arrayClass .byte ∈ wG := wG_of (inT_1 (List.mem_of_getElem? (i := 62) (by decide +kernel))) (by decide +kernel)
