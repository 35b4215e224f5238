/-! words of nest mates and of arrays of references -/
theorem nwb1 {w : Cond} {i : Nat} (h : tables_1_1[i]? = some w) (hg : isNW w = true) : w ∈ NW := List.mem_filter.mpr ⟨List.mem_append_right _ (List.mem_append_left _ (List.mem_of_getElem? h)), hg⟩
theorem nwb2 {w : Cond} {i : Nat} (h : tables_1_2[i]? = some w) (hg : isNW w = true) : w ∈ NW := List.mem_filter.mpr ⟨List.mem_append_right _ (List.mem_append_right _ (List.mem_append_left _ (List.mem_of_getElem? h))), hg⟩
theorem nwb3 {w : Cond} {i : Nat} (h : tables_1_3[i]? = some w) (hg : isNW w = true) : w ∈ NW := List.mem_filter.mpr ⟨List.mem_append_right _ (List.mem_append_right _ (List.mem_append_right _ (List.mem_append_left _ (List.mem_of_getElem? h)))), hg⟩
theorem nwb4 {w : Cond} {i : Nat} (h : tables_1_4[i]? = some w) (hg : isNW w = true) : w ∈ NW := List.mem_filter.mpr ⟨List.mem_append_right _ (List.mem_append_right _ (List.mem_append_right _ (List.mem_append_right _ (List.mem_of_getElem? h)))), hg⟩
theorem nwX7_9 : Cond.methodLinkNest RX7 9 yX4_init "DoorbellDrive" ∈ NW := nwb1 (i := 23) (by decide +kernel) rfl
theorem nwX7_18 : Cond.methodLinkNest RX7 18 yX3_init "DoorbellDrive" ∈ NW := nwb1 (i := 34) (by decide +kernel) rfl
theorem nwA3 : Cond.arrayOver (.object "DoorbellDrive$Submission") ∈ NW := nwb1 (i := 56) (by decide +kernel) rfl
theorem nwA4 : Cond.arrayOver (.object "DoorbellDrive$Completion") ∈ NW := nwb1 (i := 58) (by decide +kernel) rfl
theorem nwX7_35 : Cond.methodLinkNest RX7 35 yX6_init "DoorbellDrive" ∈ NW := nwb1 (i := 60) (by decide +kernel) rfl
theorem nwX6_1 : Cond.methodLinkNest RX6 1 yX5_init "DoorbellDrive" ∈ NW := nwb1 (i := 63) (by decide +kernel) rfl
theorem nwX7_36 : Cond.methodLinkNest RX7 36 yX1_init "DoorbellDrive" ∈ NW := nwb1 (i := 111) (by decide +kernel) rfl
theorem nwX1_1 : Cond.methodLinkNest RX1 1 yX5_init "DoorbellDrive" ∈ NW := nwb1 (i := 114) (by decide +kernel) rfl
theorem nwX7_39 : Cond.methodLinkNest RX7 39 yX0_init "DoorbellDrive" ∈ NW := nwb1 (i := 131) (by decide +kernel) rfl
theorem nwX7_46 : Cond.methodLinkNest RX7 46 yX2_init "DoorbellDrive" ∈ NW := nwb1 (i := 169) (by decide +kernel) rfl
theorem nwM : Cond.arrayOver (.array .long) ∈ NW := nwb3 (i := 122) (by decide +kernel) rfl
set_option maxRecDepth 20000 in
theorem twObj : Cond.code objectInit ⟨#[0xb1]⟩ 1 none ∈ BW := bw1 (i := 20) rfl rfl
