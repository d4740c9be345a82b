/-- the ends of spell and text of the reference leave the TAPE's length alone -/
def fp_spt : jFp := [(125, 1, 2), (132, 0, 16), (133, 0, 256), (134, 0, 768)]
def fp_txt : jFp := [(125, 1, 2), (126, 4, 5), (126, 16, 17), (126, 18820, 46540), (126, 49920, 50660)]
theorem sp_t0 {h hx9 : jH} (S : jSm fp_spt h hx9) (e : jiv h 125 8 = 0) : (jiv hx9 125 8).toInt = 0 := by
  rw [jmc S rfl e]
  decide
theorem tx_t0 {h hx9 : jH} (S : jSm fp_txt h hx9) (e : jiv h 125 8 = 0) : (jiv hx9 125 8).toInt = 0 := by
  rw [jmc S rfl e]
  decide
