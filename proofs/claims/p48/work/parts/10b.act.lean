set_option maxRecDepth 100000 in
theorem cw_L_act : Cond.codeWith (jy I_L_act) (jb I_L_act) (jn I_L_act) (jr I_L_act) (jh I_L_act) ∈ jv_gw := List.mem_filter.mpr ⟨List.mem_of_getElem? (i := 645) rfl, rfl⟩
theorem ok_L_act : jv_mokW I_L_act := ⟨by decide +kernel, rfl, cw_L_act, jv_gwm 13 (by decide +kernel) rfl, ⟨by decide +kernel, by decide +kernel⟩, by decide⟩
