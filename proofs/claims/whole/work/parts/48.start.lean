theorem s_startOf_80 (d f k : Nat) (z : ds_St) (h0 : z.1 80 0 = 16) (hf : z.1 80 2 = nI f) (hf1 : f < 1000) (hk : k < 1000) : ds_call (d + 1) j_Shelf_startOf [.ref 80, .int (nI k)] z = some (some (.int (nI ((f + k) % 16 * 14))), z) := by
  rw [c_Shelf_startOf, b_Shelf_startOf_0_80, h0, hf, if_pos (by decide), ds_nz_t (by decide), nI_add, show (16 : Int32) = nI 16 from rfl, pk_rem (by omega) (by omega) (by omega), show (14 : Int32) = nI 14 from rfl, pk_mul]
  rfl
theorem s_startOf_82 (d f k : Nat) (z : ds_St) (h0 : z.1 82 0 = 3) (hf : z.1 82 2 = nI f) (hf1 : f < 1000) (hk : k < 1000) : ds_call (d + 1) j_Shelf_startOf [.ref 82, .int (nI k)] z = some (some (.int (nI ((f + k) % 3 * 14))), z) := by
  rw [c_Shelf_startOf, b_Shelf_startOf_0_82, h0, hf, if_pos (by decide), ds_nz_t (by decide), nI_add, show (3 : Int32) = nI 3 from rfl, pk_rem (by omega) (by omega) (by omega), show (14 : Int32) = nI 14 from rfl, pk_mul]
  rfl
