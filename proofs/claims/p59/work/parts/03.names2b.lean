/-! a row whose code is too long to be compared byte by byte: it is the table's own -/
set_option maxRecDepth 100000 in
theorem lw_903 : lw_tbl[903]? = some (Cond.code yL_slides cL_slides 13 (some .boolean)) := rfl
theorem m_903 : Cond.code yL_slides cL_slides 13 (some .boolean) ∈ aw := mem_aw 903 lw_903 (by decide +kernel)
