/-! THE CODE WORDS OF ALL METHODS -/
theorem am_cw1 : Cond.code (am_mi 1).2.1 (am_mi 1).2.2.1 (am_mi 1).2.2.2.1 (am_mi 1).2.2.2.2.1 ∈ am_W := List.mem_filter.mpr ⟨am_u_am_wk20 _ (List.mem_of_getElem? (i := 3) (show am_wk20[3]? = some (Cond.code (am_mi 1).2.1 (am_mi 1).2.2.1 (am_mi 1).2.2.2.1 (am_mi 1).2.2.2.2.1) from rfl)), rfl⟩
theorem am_cw2 : Cond.code (am_mi 2).2.1 (am_mi 2).2.2.1 (am_mi 2).2.2.2.1 (am_mi 2).2.2.2.2.1 ∈ am_W := List.mem_filter.mpr ⟨am_u_am_wk34 _ (List.mem_of_getElem? (i := 3) (show am_wk34[3]? = some (Cond.code (am_mi 2).2.1 (am_mi 2).2.2.1 (am_mi 2).2.2.2.1 (am_mi 2).2.2.2.2.1) from rfl)), rfl⟩
theorem am_cw3 : Cond.code (am_mi 3).2.1 (am_mi 3).2.2.1 (am_mi 3).2.2.2.1 (am_mi 3).2.2.2.2.1 ∈ am_W := List.mem_filter.mpr ⟨am_u_am_wk22 _ (List.mem_of_getElem? (i := 14) (show am_wk22[14]? = some (Cond.code (am_mi 3).2.1 (am_mi 3).2.2.1 (am_mi 3).2.2.2.1 (am_mi 3).2.2.2.2.1) from rfl)), rfl⟩
theorem am_cw4 : Cond.code (am_mi 4).2.1 (am_mi 4).2.2.1 (am_mi 4).2.2.2.1 (am_mi 4).2.2.2.2.1 ∈ am_W := List.mem_filter.mpr ⟨am_u_am_wk6 _ (List.mem_of_getElem? (i := 30) (show am_wk6[30]? = some (Cond.code (am_mi 4).2.1 (am_mi 4).2.2.1 (am_mi 4).2.2.2.1 (am_mi 4).2.2.2.2.1) from rfl)), rfl⟩
theorem am_cw5 : Cond.code (am_mi 5).2.1 (am_mi 5).2.2.1 (am_mi 5).2.2.2.1 (am_mi 5).2.2.2.2.1 ∈ am_W := List.mem_filter.mpr ⟨am_u_am_wk33 _ (List.mem_of_getElem? (i := 30) (show am_wk33[30]? = some (Cond.code (am_mi 5).2.1 (am_mi 5).2.2.1 (am_mi 5).2.2.2.1 (am_mi 5).2.2.2.2.1) from rfl)), rfl⟩
theorem am_cw6 : Cond.code (am_mi 6).2.1 (am_mi 6).2.2.1 (am_mi 6).2.2.2.1 (am_mi 6).2.2.2.2.1 ∈ am_W := List.mem_filter.mpr ⟨am_u_am_wk21 _ (List.mem_of_getElem? (i := 26) (show am_wk21[26]? = some (Cond.code (am_mi 6).2.1 (am_mi 6).2.2.1 (am_mi 6).2.2.2.1 (am_mi 6).2.2.2.2.1) from rfl)), rfl⟩
theorem am_cw7 : Cond.code (am_mi 7).2.1 (am_mi 7).2.2.1 (am_mi 7).2.2.2.1 (am_mi 7).2.2.2.2.1 ∈ am_W := List.mem_filter.mpr ⟨am_u_am_wk37 _ (List.mem_of_getElem? (i := 2) (show am_wk37[2]? = some (Cond.code (am_mi 7).2.1 (am_mi 7).2.2.1 (am_mi 7).2.2.2.1 (am_mi 7).2.2.2.2.1) from rfl)), rfl⟩
theorem am_cw8 : Cond.code (am_mi 8).2.1 (am_mi 8).2.2.1 (am_mi 8).2.2.2.1 (am_mi 8).2.2.2.2.1 ∈ am_W := List.mem_filter.mpr ⟨am_u_am_wk22 _ (List.mem_of_getElem? (i := 2) (show am_wk22[2]? = some (Cond.code (am_mi 8).2.1 (am_mi 8).2.2.1 (am_mi 8).2.2.2.1 (am_mi 8).2.2.2.2.1) from rfl)), rfl⟩
theorem am_cw9 : Cond.code (am_mi 9).2.1 (am_mi 9).2.2.1 (am_mi 9).2.2.2.1 (am_mi 9).2.2.2.2.1 ∈ am_W := List.mem_filter.mpr ⟨am_u_am_wk22 _ (List.mem_of_getElem? (i := 6) (show am_wk22[6]? = some (Cond.code (am_mi 9).2.1 (am_mi 9).2.2.1 (am_mi 9).2.2.2.1 (am_mi 9).2.2.2.2.1) from rfl)), rfl⟩
theorem am_cw10 : Cond.code (am_mi 10).2.1 (am_mi 10).2.2.1 (am_mi 10).2.2.2.1 (am_mi 10).2.2.2.2.1 ∈ am_W := List.mem_filter.mpr ⟨am_u_am_wk21 _ (List.mem_of_getElem? (i := 22) (show am_wk21[22]? = some (Cond.code (am_mi 10).2.1 (am_mi 10).2.2.1 (am_mi 10).2.2.2.1 (am_mi 10).2.2.2.2.1) from rfl)), rfl⟩
theorem am_cw11 : Cond.code (am_mi 11).2.1 (am_mi 11).2.2.1 (am_mi 11).2.2.2.1 (am_mi 11).2.2.2.2.1 ∈ am_W := List.mem_filter.mpr ⟨am_u_am_wk30 _ (List.mem_of_getElem? (i := 6) (show am_wk30[6]? = some (Cond.code (am_mi 11).2.1 (am_mi 11).2.2.1 (am_mi 11).2.2.2.1 (am_mi 11).2.2.2.2.1) from rfl)), rfl⟩
theorem am_cw12 : Cond.code (am_mi 12).2.1 (am_mi 12).2.2.1 (am_mi 12).2.2.2.1 (am_mi 12).2.2.2.2.1 ∈ am_W := List.mem_filter.mpr ⟨am_u_am_wk30 _ (List.mem_of_getElem? (i := 16) (show am_wk30[16]? = some (Cond.code (am_mi 12).2.1 (am_mi 12).2.2.1 (am_mi 12).2.2.2.1 (am_mi 12).2.2.2.2.1) from rfl)), rfl⟩
theorem am_cw13 : Cond.code (am_mi 13).2.1 (am_mi 13).2.2.1 (am_mi 13).2.2.2.1 (am_mi 13).2.2.2.2.1 ∈ am_W := List.mem_filter.mpr ⟨am_u_am_wk43 _ (List.mem_of_getElem? (i := 9) (show am_wk43[9]? = some (Cond.code (am_mi 13).2.1 (am_mi 13).2.2.1 (am_mi 13).2.2.2.1 (am_mi 13).2.2.2.2.1) from rfl)), rfl⟩
theorem am_cw14 : Cond.code (am_mi 14).2.1 (am_mi 14).2.2.1 (am_mi 14).2.2.2.1 (am_mi 14).2.2.2.2.1 ∈ am_W := List.mem_filter.mpr ⟨am_u_am_wk21 _ (List.mem_of_getElem? (i := 30) (show am_wk21[30]? = some (Cond.code (am_mi 14).2.1 (am_mi 14).2.2.1 (am_mi 14).2.2.2.1 (am_mi 14).2.2.2.2.1) from rfl)), rfl⟩
theorem am_cw15 : Cond.code (am_mi 15).2.1 (am_mi 15).2.2.1 (am_mi 15).2.2.2.1 (am_mi 15).2.2.2.2.1 ∈ am_W := List.mem_filter.mpr ⟨am_u_am_wk14 _ (List.mem_of_getElem? (i := 6) (show am_wk14[6]? = some (Cond.code (am_mi 15).2.1 (am_mi 15).2.2.1 (am_mi 15).2.2.2.1 (am_mi 15).2.2.2.2.1) from rfl)), rfl⟩
theorem am_cw16 : Cond.code (am_mi 16).2.1 (am_mi 16).2.2.1 (am_mi 16).2.2.2.1 (am_mi 16).2.2.2.2.1 ∈ am_W := List.mem_filter.mpr ⟨am_u_am_wk43 _ (List.mem_of_getElem? (i := 13) (show am_wk43[13]? = some (Cond.code (am_mi 16).2.1 (am_mi 16).2.2.1 (am_mi 16).2.2.2.1 (am_mi 16).2.2.2.2.1) from rfl)), rfl⟩
theorem am_cw17 : Cond.code (am_mi 17).2.1 (am_mi 17).2.2.1 (am_mi 17).2.2.2.1 (am_mi 17).2.2.2.2.1 ∈ am_W := List.mem_filter.mpr ⟨am_u_am_wk41 _ (List.mem_of_getElem? (i := 19) (show am_wk41[19]? = some (Cond.code (am_mi 17).2.1 (am_mi 17).2.2.1 (am_mi 17).2.2.2.1 (am_mi 17).2.2.2.2.1) from rfl)), rfl⟩
theorem am_cw18 : Cond.code (am_mi 18).2.1 (am_mi 18).2.2.1 (am_mi 18).2.2.2.1 (am_mi 18).2.2.2.2.1 ∈ am_W := List.mem_filter.mpr ⟨am_u_am_wk41 _ (List.mem_of_getElem? (i := 27) (show am_wk41[27]? = some (Cond.code (am_mi 18).2.1 (am_mi 18).2.2.1 (am_mi 18).2.2.2.1 (am_mi 18).2.2.2.2.1) from rfl)), rfl⟩
theorem am_cw19 : Cond.code (am_mi 19).2.1 (am_mi 19).2.2.1 (am_mi 19).2.2.2.1 (am_mi 19).2.2.2.2.1 ∈ am_W := List.mem_filter.mpr ⟨am_u_am_wk42 _ (List.mem_of_getElem? (i := 3) (show am_wk42[3]? = some (Cond.code (am_mi 19).2.1 (am_mi 19).2.2.1 (am_mi 19).2.2.2.1 (am_mi 19).2.2.2.2.1) from rfl)), rfl⟩
theorem am_cw20 : Cond.code (am_mi 20).2.1 (am_mi 20).2.2.1 (am_mi 20).2.2.2.1 (am_mi 20).2.2.2.2.1 ∈ am_W := List.mem_filter.mpr ⟨am_u_am_wk42 _ (List.mem_of_getElem? (i := 15) (show am_wk42[15]? = some (Cond.code (am_mi 20).2.1 (am_mi 20).2.2.1 (am_mi 20).2.2.2.1 (am_mi 20).2.2.2.2.1) from rfl)), rfl⟩
theorem am_cw21 : Cond.code (am_mi 21).2.1 (am_mi 21).2.2.1 (am_mi 21).2.2.2.1 (am_mi 21).2.2.2.2.1 ∈ am_W := List.mem_filter.mpr ⟨am_u_am_wk42 _ (List.mem_of_getElem? (i := 7) (show am_wk42[7]? = some (Cond.code (am_mi 21).2.1 (am_mi 21).2.2.1 (am_mi 21).2.2.2.1 (am_mi 21).2.2.2.2.1) from rfl)), rfl⟩
theorem am_cw22 : Cond.code (am_mi 22).2.1 (am_mi 22).2.2.1 (am_mi 22).2.2.2.1 (am_mi 22).2.2.2.2.1 ∈ am_W := List.mem_filter.mpr ⟨am_u_am_wk5 _ (List.mem_of_getElem? (i := 10) (show am_wk5[10]? = some (Cond.code (am_mi 22).2.1 (am_mi 22).2.2.1 (am_mi 22).2.2.2.1 (am_mi 22).2.2.2.2.1) from rfl)), rfl⟩
theorem am_cw23 : Cond.code (am_mi 23).2.1 (am_mi 23).2.2.1 (am_mi 23).2.2.2.1 (am_mi 23).2.2.2.2.1 ∈ am_W := List.mem_filter.mpr ⟨am_u_am_wk37 _ (List.mem_of_getElem? (i := 6) (show am_wk37[6]? = some (Cond.code (am_mi 23).2.1 (am_mi 23).2.2.1 (am_mi 23).2.2.2.1 (am_mi 23).2.2.2.2.1) from rfl)), rfl⟩
theorem am_cw24 : Cond.code (am_mi 24).2.1 (am_mi 24).2.2.1 (am_mi 24).2.2.2.1 (am_mi 24).2.2.2.2.1 ∈ am_W := List.mem_filter.mpr ⟨am_u_am_wk17 _ (List.mem_of_getElem? (i := 0) (show am_wk17[0]? = some (Cond.code (am_mi 24).2.1 (am_mi 24).2.2.1 (am_mi 24).2.2.2.1 (am_mi 24).2.2.2.2.1) from rfl)), rfl⟩
theorem am_cw25 : Cond.code (am_mi 25).2.1 (am_mi 25).2.2.1 (am_mi 25).2.2.2.1 (am_mi 25).2.2.2.2.1 ∈ am_W := List.mem_filter.mpr ⟨am_u_am_wk17 _ (List.mem_of_getElem? (i := 5) (show am_wk17[5]? = some (Cond.code (am_mi 25).2.1 (am_mi 25).2.2.1 (am_mi 25).2.2.2.1 (am_mi 25).2.2.2.2.1) from rfl)), rfl⟩
theorem am_cw26 : Cond.code (am_mi 26).2.1 (am_mi 26).2.2.1 (am_mi 26).2.2.2.1 (am_mi 26).2.2.2.2.1 ∈ am_W := List.mem_filter.mpr ⟨am_u_am_wk22 _ (List.mem_of_getElem? (i := 10) (show am_wk22[10]? = some (Cond.code (am_mi 26).2.1 (am_mi 26).2.2.1 (am_mi 26).2.2.2.1 (am_mi 26).2.2.2.2.1) from rfl)), rfl⟩
theorem am_cw27 : Cond.code (am_mi 27).2.1 (am_mi 27).2.2.1 (am_mi 27).2.2.2.1 (am_mi 27).2.2.2.2.1 ∈ am_W := List.mem_filter.mpr ⟨am_u_am_wk30 _ (List.mem_of_getElem? (i := 26) (show am_wk30[26]? = some (Cond.code (am_mi 27).2.1 (am_mi 27).2.2.1 (am_mi 27).2.2.2.1 (am_mi 27).2.2.2.2.1) from rfl)), rfl⟩
theorem am_cw28 : Cond.code (am_mi 28).2.1 (am_mi 28).2.2.1 (am_mi 28).2.2.2.1 (am_mi 28).2.2.2.2.1 ∈ am_W := List.mem_filter.mpr ⟨am_u_am_wk32 _ (List.mem_of_getElem? (i := 28) (show am_wk32[28]? = some (Cond.code (am_mi 28).2.1 (am_mi 28).2.2.1 (am_mi 28).2.2.2.1 (am_mi 28).2.2.2.2.1) from rfl)), rfl⟩
theorem am_cw29 : Cond.code (am_mi 29).2.1 (am_mi 29).2.2.1 (am_mi 29).2.2.2.1 (am_mi 29).2.2.2.2.1 ∈ am_W := List.mem_filter.mpr ⟨am_u_am_wk35 _ (List.mem_of_getElem? (i := 8) (show am_wk35[8]? = some (Cond.code (am_mi 29).2.1 (am_mi 29).2.2.1 (am_mi 29).2.2.2.1 (am_mi 29).2.2.2.2.1) from rfl)), rfl⟩
theorem am_cw30 : Cond.code (am_mi 30).2.1 (am_mi 30).2.2.1 (am_mi 30).2.2.2.1 (am_mi 30).2.2.2.2.1 ∈ am_W := List.mem_filter.mpr ⟨am_u_am_wk35 _ (List.mem_of_getElem? (i := 14) (show am_wk35[14]? = some (Cond.code (am_mi 30).2.1 (am_mi 30).2.2.1 (am_mi 30).2.2.2.1 (am_mi 30).2.2.2.2.1) from rfl)), rfl⟩
theorem am_cw31 : Cond.code (am_mi 31).2.1 (am_mi 31).2.2.1 (am_mi 31).2.2.2.1 (am_mi 31).2.2.2.2.1 ∈ am_W := List.mem_filter.mpr ⟨am_u_am_wk31 _ (List.mem_of_getElem? (i := 10) (show am_wk31[10]? = some (Cond.code (am_mi 31).2.1 (am_mi 31).2.2.1 (am_mi 31).2.2.2.1 (am_mi 31).2.2.2.2.1) from rfl)), rfl⟩
theorem am_cw32 : Cond.code (am_mi 32).2.1 (am_mi 32).2.2.1 (am_mi 32).2.2.2.1 (am_mi 32).2.2.2.2.1 ∈ am_W := List.mem_filter.mpr ⟨am_u_am_wk33 _ (List.mem_of_getElem? (i := 7) (show am_wk33[7]? = some (Cond.code (am_mi 32).2.1 (am_mi 32).2.2.1 (am_mi 32).2.2.2.1 (am_mi 32).2.2.2.2.1) from rfl)), rfl⟩
theorem am_cw33 : Cond.code (am_mi 33).2.1 (am_mi 33).2.2.1 (am_mi 33).2.2.2.1 (am_mi 33).2.2.2.2.1 ∈ am_W := List.mem_filter.mpr ⟨am_u_am_wk31 _ (List.mem_of_getElem? (i := 2) (show am_wk31[2]? = some (Cond.code (am_mi 33).2.1 (am_mi 33).2.2.1 (am_mi 33).2.2.2.1 (am_mi 33).2.2.2.2.1) from rfl)), rfl⟩
theorem am_cw34 : Cond.code (am_mi 34).2.1 (am_mi 34).2.2.1 (am_mi 34).2.2.2.1 (am_mi 34).2.2.2.2.1 ∈ am_W := List.mem_filter.mpr ⟨am_u_am_wk31 _ (List.mem_of_getElem? (i := 14) (show am_wk31[14]? = some (Cond.code (am_mi 34).2.1 (am_mi 34).2.2.1 (am_mi 34).2.2.2.1 (am_mi 34).2.2.2.2.1) from rfl)), rfl⟩
theorem am_cw35 : Cond.code (am_mi 35).2.1 (am_mi 35).2.2.1 (am_mi 35).2.2.2.1 (am_mi 35).2.2.2.2.1 ∈ am_W := List.mem_filter.mpr ⟨am_u_am_wk32 _ (List.mem_of_getElem? (i := 2) (show am_wk32[2]? = some (Cond.code (am_mi 35).2.1 (am_mi 35).2.2.1 (am_mi 35).2.2.2.1 (am_mi 35).2.2.2.2.1) from rfl)), rfl⟩
theorem am_cw36 : Cond.code (am_mi 36).2.1 (am_mi 36).2.2.1 (am_mi 36).2.2.2.1 (am_mi 36).2.2.2.2.1 ∈ am_W := List.mem_filter.mpr ⟨am_u_am_wk39 _ (List.mem_of_getElem? (i := 30) (show am_wk39[30]? = some (Cond.code (am_mi 36).2.1 (am_mi 36).2.2.1 (am_mi 36).2.2.2.1 (am_mi 36).2.2.2.2.1) from rfl)), rfl⟩
theorem am_cw37 : Cond.code (am_mi 37).2.1 (am_mi 37).2.2.1 (am_mi 37).2.2.2.1 (am_mi 37).2.2.2.2.1 ∈ am_W := List.mem_filter.mpr ⟨am_u_am_wk40 _ (List.mem_of_getElem? (i := 17) (show am_wk40[17]? = some (Cond.code (am_mi 37).2.1 (am_mi 37).2.2.1 (am_mi 37).2.2.2.1 (am_mi 37).2.2.2.2.1) from rfl)), rfl⟩
theorem am_cw38 : Cond.code (am_mi 38).2.1 (am_mi 38).2.2.1 (am_mi 38).2.2.2.1 (am_mi 38).2.2.2.2.1 ∈ am_W := List.mem_filter.mpr ⟨am_u_am_wk30 _ (List.mem_of_getElem? (i := 30) (show am_wk30[30]? = some (Cond.code (am_mi 38).2.1 (am_mi 38).2.2.1 (am_mi 38).2.2.2.1 (am_mi 38).2.2.2.2.1) from rfl)), rfl⟩
theorem am_cw39 : Cond.code (am_mi 39).2.1 (am_mi 39).2.2.1 (am_mi 39).2.2.2.1 (am_mi 39).2.2.2.2.1 ∈ am_W := List.mem_filter.mpr ⟨am_u_am_wk31 _ (List.mem_of_getElem? (i := 30) (show am_wk31[30]? = some (Cond.code (am_mi 39).2.1 (am_mi 39).2.2.1 (am_mi 39).2.2.2.1 (am_mi 39).2.2.2.2.1) from rfl)), rfl⟩
theorem am_cw40 : Cond.code (am_mi 40).2.1 (am_mi 40).2.2.1 (am_mi 40).2.2.2.1 (am_mi 40).2.2.2.2.1 ∈ am_W := List.mem_filter.mpr ⟨am_u_am_wk11 _ (List.mem_of_getElem? (i := 9) (show am_wk11[9]? = some (Cond.code (am_mi 40).2.1 (am_mi 40).2.2.1 (am_mi 40).2.2.2.1 (am_mi 40).2.2.2.2.1) from rfl)), rfl⟩
theorem am_cw41 : Cond.code (am_mi 41).2.1 (am_mi 41).2.2.1 (am_mi 41).2.2.2.1 (am_mi 41).2.2.2.2.1 ∈ am_W := List.mem_filter.mpr ⟨am_u_am_wk19 _ (List.mem_of_getElem? (i := 20) (show am_wk19[20]? = some (Cond.code (am_mi 41).2.1 (am_mi 41).2.2.1 (am_mi 41).2.2.2.1 (am_mi 41).2.2.2.2.1) from rfl)), rfl⟩
theorem am_cw42 : Cond.code (am_mi 42).2.1 (am_mi 42).2.2.1 (am_mi 42).2.2.2.1 (am_mi 42).2.2.2.2.1 ∈ am_W := List.mem_filter.mpr ⟨am_u_am_wk37 _ (List.mem_of_getElem? (i := 29) (show am_wk37[29]? = some (Cond.code (am_mi 42).2.1 (am_mi 42).2.2.1 (am_mi 42).2.2.2.1 (am_mi 42).2.2.2.2.1) from rfl)), rfl⟩
theorem am_cw43 : Cond.code (am_mi 43).2.1 (am_mi 43).2.2.1 (am_mi 43).2.2.2.1 (am_mi 43).2.2.2.2.1 ∈ am_W := List.mem_filter.mpr ⟨am_u_am_wk38 _ (List.mem_of_getElem? (i := 8) (show am_wk38[8]? = some (Cond.code (am_mi 43).2.1 (am_mi 43).2.2.1 (am_mi 43).2.2.2.1 (am_mi 43).2.2.2.2.1) from rfl)), rfl⟩
theorem am_cw44 : Cond.code (am_mi 44).2.1 (am_mi 44).2.2.1 (am_mi 44).2.2.2.1 (am_mi 44).2.2.2.2.1 ∈ am_W := List.mem_filter.mpr ⟨am_u_am_wk38 _ (List.mem_of_getElem? (i := 19) (show am_wk38[19]? = some (Cond.code (am_mi 44).2.1 (am_mi 44).2.2.1 (am_mi 44).2.2.2.1 (am_mi 44).2.2.2.2.1) from rfl)), rfl⟩
theorem am_cw45 : Cond.code (am_mi 45).2.1 (am_mi 45).2.2.1 (am_mi 45).2.2.2.1 (am_mi 45).2.2.2.2.1 ∈ am_W := List.mem_filter.mpr ⟨am_u_am_wk38 _ (List.mem_of_getElem? (i := 25) (show am_wk38[25]? = some (Cond.code (am_mi 45).2.1 (am_mi 45).2.2.1 (am_mi 45).2.2.2.1 (am_mi 45).2.2.2.2.1) from rfl)), rfl⟩
theorem am_cw46 : Cond.code (am_mi 46).2.1 (am_mi 46).2.2.1 (am_mi 46).2.2.2.1 (am_mi 46).2.2.2.2.1 ∈ am_W := List.mem_filter.mpr ⟨am_u_am_wk39 _ (List.mem_of_getElem? (i := 3) (show am_wk39[3]? = some (Cond.code (am_mi 46).2.1 (am_mi 46).2.2.1 (am_mi 46).2.2.2.1 (am_mi 46).2.2.2.2.1) from rfl)), rfl⟩
theorem am_cw47 : Cond.code (am_mi 47).2.1 (am_mi 47).2.2.1 (am_mi 47).2.2.2.1 (am_mi 47).2.2.2.2.1 ∈ am_W := List.mem_filter.mpr ⟨am_u_am_wk9 _ (List.mem_of_getElem? (i := 14) (show am_wk9[14]? = some (Cond.code (am_mi 47).2.1 (am_mi 47).2.2.1 (am_mi 47).2.2.2.1 (am_mi 47).2.2.2.2.1) from rfl)), rfl⟩
theorem am_cw48 : Cond.code (am_mi 48).2.1 (am_mi 48).2.2.1 (am_mi 48).2.2.2.1 (am_mi 48).2.2.2.2.1 ∈ am_W := List.mem_filter.mpr ⟨am_u_am_wk33 _ (List.mem_of_getElem? (i := 26) (show am_wk33[26]? = some (Cond.code (am_mi 48).2.1 (am_mi 48).2.2.1 (am_mi 48).2.2.2.1 (am_mi 48).2.2.2.2.1) from rfl)), rfl⟩
theorem am_cw49 : Cond.code (am_mi 49).2.1 (am_mi 49).2.2.1 (am_mi 49).2.2.2.1 (am_mi 49).2.2.2.2.1 ∈ am_W := List.mem_filter.mpr ⟨am_u_am_wk34 _ (List.mem_of_getElem? (i := 12) (show am_wk34[12]? = some (Cond.code (am_mi 49).2.1 (am_mi 49).2.2.1 (am_mi 49).2.2.2.1 (am_mi 49).2.2.2.2.1) from rfl)), rfl⟩
theorem am_cw50 : Cond.code (am_mi 50).2.1 (am_mi 50).2.2.1 (am_mi 50).2.2.2.1 (am_mi 50).2.2.2.2.1 ∈ am_W := List.mem_filter.mpr ⟨am_u_am_wk36 _ (List.mem_of_getElem? (i := 30) (show am_wk36[30]? = some (Cond.code (am_mi 50).2.1 (am_mi 50).2.2.1 (am_mi 50).2.2.2.1 (am_mi 50).2.2.2.2.1) from rfl)), rfl⟩
theorem am_cw51 : Cond.code (am_mi 51).2.1 (am_mi 51).2.2.1 (am_mi 51).2.2.2.1 (am_mi 51).2.2.2.2.1 ∈ am_W := List.mem_filter.mpr ⟨am_u_am_wk37 _ (List.mem_of_getElem? (i := 12) (show am_wk37[12]? = some (Cond.code (am_mi 51).2.1 (am_mi 51).2.2.1 (am_mi 51).2.2.2.1 (am_mi 51).2.2.2.2.1) from rfl)), rfl⟩
theorem am_cw52 : Cond.code (am_mi 52).2.1 (am_mi 52).2.2.1 (am_mi 52).2.2.2.1 (am_mi 52).2.2.2.2.1 ∈ am_W := List.mem_filter.mpr ⟨am_u_am_wk37 _ (List.mem_of_getElem? (i := 20) (show am_wk37[20]? = some (Cond.code (am_mi 52).2.1 (am_mi 52).2.2.1 (am_mi 52).2.2.2.1 (am_mi 52).2.2.2.2.1) from rfl)), rfl⟩
theorem am_cw53 : Cond.code (am_mi 53).2.1 (am_mi 53).2.2.1 (am_mi 53).2.2.2.1 (am_mi 53).2.2.2.2.1 ∈ am_W := List.mem_filter.mpr ⟨am_u_am_wk35 _ (List.mem_of_getElem? (i := 1) (show am_wk35[1]? = some (Cond.code (am_mi 53).2.1 (am_mi 53).2.2.1 (am_mi 53).2.2.2.1 (am_mi 53).2.2.2.2.1) from rfl)), rfl⟩
theorem am_cw54 : Cond.code (am_mi 54).2.1 (am_mi 54).2.2.1 (am_mi 54).2.2.2.1 (am_mi 54).2.2.2.2.1 ∈ am_W := List.mem_filter.mpr ⟨am_u_am_wk35 _ (List.mem_of_getElem? (i := 18) (show am_wk35[18]? = some (Cond.code (am_mi 54).2.1 (am_mi 54).2.2.1 (am_mi 54).2.2.2.1 (am_mi 54).2.2.2.2.1) from rfl)), rfl⟩
theorem am_cw55 : Cond.code (am_mi 55).2.1 (am_mi 55).2.2.1 (am_mi 55).2.2.2.1 (am_mi 55).2.2.2.2.1 ∈ am_W := List.mem_filter.mpr ⟨am_u_am_wk35 _ (List.mem_of_getElem? (i := 25) (show am_wk35[25]? = some (Cond.code (am_mi 55).2.1 (am_mi 55).2.2.1 (am_mi 55).2.2.2.1 (am_mi 55).2.2.2.2.1) from rfl)), rfl⟩
theorem am_cw56 : Cond.code (am_mi 56).2.1 (am_mi 56).2.2.1 (am_mi 56).2.2.2.1 (am_mi 56).2.2.2.2.1 ∈ am_W := List.mem_filter.mpr ⟨am_u_am_wk36 _ (List.mem_of_getElem? (i := 21) (show am_wk36[21]? = some (Cond.code (am_mi 56).2.1 (am_mi 56).2.2.1 (am_mi 56).2.2.2.1 (am_mi 56).2.2.2.2.1) from rfl)), rfl⟩
theorem am_cw57 : Cond.code (am_mi 57).2.1 (am_mi 57).2.2.1 (am_mi 57).2.2.2.1 (am_mi 57).2.2.2.2.1 ∈ am_W := List.mem_filter.mpr ⟨am_u_am_wk35 _ (List.mem_of_getElem? (i := 29) (show am_wk35[29]? = some (Cond.code (am_mi 57).2.1 (am_mi 57).2.2.1 (am_mi 57).2.2.2.1 (am_mi 57).2.2.2.2.1) from rfl)), rfl⟩
theorem am_cw58 : Cond.code (am_mi 58).2.1 (am_mi 58).2.2.1 (am_mi 58).2.2.2.1 (am_mi 58).2.2.2.2.1 ∈ am_W := List.mem_filter.mpr ⟨am_u_am_wk36 _ (List.mem_of_getElem? (i := 0) (show am_wk36[0]? = some (Cond.code (am_mi 58).2.1 (am_mi 58).2.2.1 (am_mi 58).2.2.2.1 (am_mi 58).2.2.2.2.1) from rfl)), rfl⟩
theorem am_cw59 : Cond.code (am_mi 59).2.1 (am_mi 59).2.2.1 (am_mi 59).2.2.2.1 (am_mi 59).2.2.2.2.1 ∈ am_W := List.mem_filter.mpr ⟨am_u_am_wk36 _ (List.mem_of_getElem? (i := 5) (show am_wk36[5]? = some (Cond.code (am_mi 59).2.1 (am_mi 59).2.2.1 (am_mi 59).2.2.2.1 (am_mi 59).2.2.2.2.1) from rfl)), rfl⟩
theorem am_cw60 : Cond.code (am_mi 60).2.1 (am_mi 60).2.2.1 (am_mi 60).2.2.2.1 (am_mi 60).2.2.2.2.1 ∈ am_W := List.mem_filter.mpr ⟨am_u_am_wk36 _ (List.mem_of_getElem? (i := 10) (show am_wk36[10]? = some (Cond.code (am_mi 60).2.1 (am_mi 60).2.2.1 (am_mi 60).2.2.2.1 (am_mi 60).2.2.2.2.1) from rfl)), rfl⟩
theorem am_cw61 : Cond.code (am_mi 61).2.1 (am_mi 61).2.2.1 (am_mi 61).2.2.2.1 (am_mi 61).2.2.2.2.1 ∈ am_W := List.mem_filter.mpr ⟨am_u_am_wk7 _ (List.mem_of_getElem? (i := 22) (show am_wk7[22]? = some (Cond.code (am_mi 61).2.1 (am_mi 61).2.2.1 (am_mi 61).2.2.2.1 (am_mi 61).2.2.2.2.1) from rfl)), rfl⟩
theorem am_cw62 : Cond.code (am_mi 62).2.1 (am_mi 62).2.2.1 (am_mi 62).2.2.2.1 (am_mi 62).2.2.2.2.1 ∈ am_W := List.mem_filter.mpr ⟨am_u_am_wk16 _ (List.mem_of_getElem? (i := 9) (show am_wk16[9]? = some (Cond.code (am_mi 62).2.1 (am_mi 62).2.2.1 (am_mi 62).2.2.2.1 (am_mi 62).2.2.2.2.1) from rfl)), rfl⟩
theorem am_cw63 : Cond.code (am_mi 63).2.1 (am_mi 63).2.2.1 (am_mi 63).2.2.2.1 (am_mi 63).2.2.2.2.1 ∈ am_W := List.mem_filter.mpr ⟨am_u_am_wk16 _ (List.mem_of_getElem? (i := 1) (show am_wk16[1]? = some (Cond.code (am_mi 63).2.1 (am_mi 63).2.2.1 (am_mi 63).2.2.2.1 (am_mi 63).2.2.2.2.1) from rfl)), rfl⟩
theorem am_cw64 : Cond.code (am_mi 64).2.1 (am_mi 64).2.2.1 (am_mi 64).2.2.2.1 (am_mi 64).2.2.2.2.1 ∈ am_W := List.mem_filter.mpr ⟨am_u_am_wk16 _ (List.mem_of_getElem? (i := 5) (show am_wk16[5]? = some (Cond.code (am_mi 64).2.1 (am_mi 64).2.2.1 (am_mi 64).2.2.2.1 (am_mi 64).2.2.2.2.1) from rfl)), rfl⟩
theorem am_cw65 : Cond.code (am_mi 65).2.1 (am_mi 65).2.2.1 (am_mi 65).2.2.2.1 (am_mi 65).2.2.2.2.1 ∈ am_W := List.mem_filter.mpr ⟨am_u_am_wk16 _ (List.mem_of_getElem? (i := 17) (show am_wk16[17]? = some (Cond.code (am_mi 65).2.1 (am_mi 65).2.2.1 (am_mi 65).2.2.2.1 (am_mi 65).2.2.2.2.1) from rfl)), rfl⟩
theorem am_cw66 : Cond.code (am_mi 66).2.1 (am_mi 66).2.2.1 (am_mi 66).2.2.2.1 (am_mi 66).2.2.2.2.1 ∈ am_W := List.mem_filter.mpr ⟨am_u_am_wk23 _ (List.mem_of_getElem? (i := 7) (show am_wk23[7]? = some (Cond.code (am_mi 66).2.1 (am_mi 66).2.2.1 (am_mi 66).2.2.2.1 (am_mi 66).2.2.2.2.1) from rfl)), rfl⟩
theorem am_cw67 : Cond.code (am_mi 67).2.1 (am_mi 67).2.2.1 (am_mi 67).2.2.2.1 (am_mi 67).2.2.2.2.1 ∈ am_W := List.mem_filter.mpr ⟨am_u_am_wk29 _ (List.mem_of_getElem? (i := 26) (show am_wk29[26]? = some (Cond.code (am_mi 67).2.1 (am_mi 67).2.2.1 (am_mi 67).2.2.2.1 (am_mi 67).2.2.2.2.1) from rfl)), rfl⟩
theorem am_cw68 : Cond.code (am_mi 68).2.1 (am_mi 68).2.2.1 (am_mi 68).2.2.2.1 (am_mi 68).2.2.2.2.1 ∈ am_W := List.mem_filter.mpr ⟨am_u_am_wk29 _ (List.mem_of_getElem? (i := 30) (show am_wk29[30]? = some (Cond.code (am_mi 68).2.1 (am_mi 68).2.2.1 (am_mi 68).2.2.2.1 (am_mi 68).2.2.2.2.1) from rfl)), rfl⟩
theorem am_cw69 : Cond.code (am_mi 69).2.1 (am_mi 69).2.2.1 (am_mi 69).2.2.2.1 (am_mi 69).2.2.2.2.1 ∈ am_W := List.mem_filter.mpr ⟨am_u_am_wk23 _ (List.mem_of_getElem? (i := 11) (show am_wk23[11]? = some (Cond.code (am_mi 69).2.1 (am_mi 69).2.2.1 (am_mi 69).2.2.2.1 (am_mi 69).2.2.2.2.1) from rfl)), rfl⟩
theorem am_cw70 : Cond.code (am_mi 70).2.1 (am_mi 70).2.2.1 (am_mi 70).2.2.2.1 (am_mi 70).2.2.2.2.1 ∈ am_W := List.mem_filter.mpr ⟨am_u_am_wk27 _ (List.mem_of_getElem? (i := 21) (show am_wk27[21]? = some (Cond.code (am_mi 70).2.1 (am_mi 70).2.2.1 (am_mi 70).2.2.2.1 (am_mi 70).2.2.2.2.1) from rfl)), rfl⟩
theorem am_cw71 : Cond.code (am_mi 71).2.1 (am_mi 71).2.2.1 (am_mi 71).2.2.2.1 (am_mi 71).2.2.2.2.1 ∈ am_W := List.mem_filter.mpr ⟨am_u_am_wk28 _ (List.mem_of_getElem? (i := 22) (show am_wk28[22]? = some (Cond.code (am_mi 71).2.1 (am_mi 71).2.2.1 (am_mi 71).2.2.2.1 (am_mi 71).2.2.2.2.1) from rfl)), rfl⟩
theorem am_cw72 : Cond.code (am_mi 72).2.1 (am_mi 72).2.2.1 (am_mi 72).2.2.2.1 (am_mi 72).2.2.2.2.1 ∈ am_W := List.mem_filter.mpr ⟨am_u_am_wk28 _ (List.mem_of_getElem? (i := 26) (show am_wk28[26]? = some (Cond.code (am_mi 72).2.1 (am_mi 72).2.2.1 (am_mi 72).2.2.2.1 (am_mi 72).2.2.2.2.1) from rfl)), rfl⟩
theorem am_cw73 : Cond.code (am_mi 73).2.1 (am_mi 73).2.2.1 (am_mi 73).2.2.2.1 (am_mi 73).2.2.2.2.1 ∈ am_W := List.mem_filter.mpr ⟨am_u_am_wk28 _ (List.mem_of_getElem? (i := 30) (show am_wk28[30]? = some (Cond.code (am_mi 73).2.1 (am_mi 73).2.2.1 (am_mi 73).2.2.2.1 (am_mi 73).2.2.2.2.1) from rfl)), rfl⟩
theorem am_cw74 : Cond.code (am_mi 74).2.1 (am_mi 74).2.2.1 (am_mi 74).2.2.2.1 (am_mi 74).2.2.2.2.1 ∈ am_W := List.mem_filter.mpr ⟨am_u_am_wk29 _ (List.mem_of_getElem? (i := 2) (show am_wk29[2]? = some (Cond.code (am_mi 74).2.1 (am_mi 74).2.2.1 (am_mi 74).2.2.2.1 (am_mi 74).2.2.2.2.1) from rfl)), rfl⟩
theorem am_cw75 : Cond.code (am_mi 75).2.1 (am_mi 75).2.2.1 (am_mi 75).2.2.2.1 (am_mi 75).2.2.2.2.1 ∈ am_W := List.mem_filter.mpr ⟨am_u_am_wk28 _ (List.mem_of_getElem? (i := 5) (show am_wk28[5]? = some (Cond.code (am_mi 75).2.1 (am_mi 75).2.2.1 (am_mi 75).2.2.2.1 (am_mi 75).2.2.2.2.1) from rfl)), rfl⟩
theorem am_cw76 : Cond.code (am_mi 76).2.1 (am_mi 76).2.2.1 (am_mi 76).2.2.2.1 (am_mi 76).2.2.2.2.1 ∈ am_W := List.mem_filter.mpr ⟨am_u_am_wk28 _ (List.mem_of_getElem? (i := 9) (show am_wk28[9]? = some (Cond.code (am_mi 76).2.1 (am_mi 76).2.2.1 (am_mi 76).2.2.2.1 (am_mi 76).2.2.2.2.1) from rfl)), rfl⟩
theorem am_cw77 : Cond.code (am_mi 77).2.1 (am_mi 77).2.2.1 (am_mi 77).2.2.2.1 (am_mi 77).2.2.2.2.1 ∈ am_W := List.mem_filter.mpr ⟨am_u_am_wk28 _ (List.mem_of_getElem? (i := 13) (show am_wk28[13]? = some (Cond.code (am_mi 77).2.1 (am_mi 77).2.2.1 (am_mi 77).2.2.2.1 (am_mi 77).2.2.2.2.1) from rfl)), rfl⟩
theorem am_cw78 : Cond.code (am_mi 78).2.1 (am_mi 78).2.2.1 (am_mi 78).2.2.2.1 (am_mi 78).2.2.2.2.1 ∈ am_W := List.mem_filter.mpr ⟨am_u_am_wk28 _ (List.mem_of_getElem? (i := 18) (show am_wk28[18]? = some (Cond.code (am_mi 78).2.1 (am_mi 78).2.2.1 (am_mi 78).2.2.2.1 (am_mi 78).2.2.2.2.1) from rfl)), rfl⟩
theorem am_cw79 : Cond.code (am_mi 79).2.1 (am_mi 79).2.2.1 (am_mi 79).2.2.2.1 (am_mi 79).2.2.2.2.1 ∈ am_W := List.mem_filter.mpr ⟨am_u_am_wk27 _ (List.mem_of_getElem? (i := 25) (show am_wk27[25]? = some (Cond.code (am_mi 79).2.1 (am_mi 79).2.2.1 (am_mi 79).2.2.2.1 (am_mi 79).2.2.2.2.1) from rfl)), rfl⟩
theorem am_cw80 : Cond.code (am_mi 80).2.1 (am_mi 80).2.2.1 (am_mi 80).2.2.2.1 (am_mi 80).2.2.2.2.1 ∈ am_W := List.mem_filter.mpr ⟨am_u_am_wk27 _ (List.mem_of_getElem? (i := 29) (show am_wk27[29]? = some (Cond.code (am_mi 80).2.1 (am_mi 80).2.2.1 (am_mi 80).2.2.2.1 (am_mi 80).2.2.2.2.1) from rfl)), rfl⟩
theorem am_cw81 : Cond.code (am_mi 81).2.1 (am_mi 81).2.2.1 (am_mi 81).2.2.2.1 (am_mi 81).2.2.2.2.1 ∈ am_W := List.mem_filter.mpr ⟨am_u_am_wk28 _ (List.mem_of_getElem? (i := 1) (show am_wk28[1]? = some (Cond.code (am_mi 81).2.1 (am_mi 81).2.2.1 (am_mi 81).2.2.2.1 (am_mi 81).2.2.2.2.1) from rfl)), rfl⟩
theorem am_cw82 : Cond.code (am_mi 82).2.1 (am_mi 82).2.2.1 (am_mi 82).2.2.2.1 (am_mi 82).2.2.2.2.1 ∈ am_W := List.mem_filter.mpr ⟨am_u_am_wk27 _ (List.mem_of_getElem? (i := 8) (show am_wk27[8]? = some (Cond.code (am_mi 82).2.1 (am_mi 82).2.2.1 (am_mi 82).2.2.2.1 (am_mi 82).2.2.2.2.1) from rfl)), rfl⟩
theorem am_cw83 : Cond.code (am_mi 83).2.1 (am_mi 83).2.2.1 (am_mi 83).2.2.2.1 (am_mi 83).2.2.2.2.1 ∈ am_W := List.mem_filter.mpr ⟨am_u_am_wk27 _ (List.mem_of_getElem? (i := 17) (show am_wk27[17]? = some (Cond.code (am_mi 83).2.1 (am_mi 83).2.2.1 (am_mi 83).2.2.2.1 (am_mi 83).2.2.2.2.1) from rfl)), rfl⟩
theorem am_cw84 : Cond.code (am_mi 84).2.1 (am_mi 84).2.2.1 (am_mi 84).2.2.2.1 (am_mi 84).2.2.2.2.1 ∈ am_W := List.mem_filter.mpr ⟨am_u_am_wk23 _ (List.mem_of_getElem? (i := 27) (show am_wk23[27]? = some (Cond.code (am_mi 84).2.1 (am_mi 84).2.2.1 (am_mi 84).2.2.2.1 (am_mi 84).2.2.2.2.1) from rfl)), rfl⟩
theorem am_cw85 : Cond.code (am_mi 85).2.1 (am_mi 85).2.2.1 (am_mi 85).2.2.2.1 (am_mi 85).2.2.2.2.1 ∈ am_W := List.mem_filter.mpr ⟨am_u_am_wk27 _ (List.mem_of_getElem? (i := 3) (show am_wk27[3]? = some (Cond.code (am_mi 85).2.1 (am_mi 85).2.2.1 (am_mi 85).2.2.2.1 (am_mi 85).2.2.2.2.1) from rfl)), rfl⟩
theorem am_cw86 : Cond.code (am_mi 86).2.1 (am_mi 86).2.2.1 (am_mi 86).2.2.2.1 (am_mi 86).2.2.2.2.1 ∈ am_W := List.mem_filter.mpr ⟨am_u_am_wk24 _ (List.mem_of_getElem? (i := 31) (show am_wk24[31]? = some (Cond.code (am_mi 86).2.1 (am_mi 86).2.2.1 (am_mi 86).2.2.2.1 (am_mi 86).2.2.2.2.1) from rfl)), rfl⟩
theorem am_cw87 : Cond.code (am_mi 87).2.1 (am_mi 87).2.2.1 (am_mi 87).2.2.2.1 (am_mi 87).2.2.2.2.1 ∈ am_W := List.mem_filter.mpr ⟨am_u_am_wk23 _ (List.mem_of_getElem? (i := 19) (show am_wk23[19]? = some (Cond.code (am_mi 87).2.1 (am_mi 87).2.2.1 (am_mi 87).2.2.2.1 (am_mi 87).2.2.2.2.1) from rfl)), rfl⟩
theorem am_cw88 : Cond.code (am_mi 88).2.1 (am_mi 88).2.2.1 (am_mi 88).2.2.2.1 (am_mi 88).2.2.2.2.1 ∈ am_W := List.mem_filter.mpr ⟨am_u_am_wk23 _ (List.mem_of_getElem? (i := 23) (show am_wk23[23]? = some (Cond.code (am_mi 88).2.1 (am_mi 88).2.2.1 (am_mi 88).2.2.2.1 (am_mi 88).2.2.2.2.1) from rfl)), rfl⟩
theorem am_cw89 : Cond.code (am_mi 89).2.1 (am_mi 89).2.2.1 (am_mi 89).2.2.2.1 (am_mi 89).2.2.2.2.1 ∈ am_W := List.mem_filter.mpr ⟨am_u_am_wk27 _ (List.mem_of_getElem? (i := 12) (show am_wk27[12]? = some (Cond.code (am_mi 89).2.1 (am_mi 89).2.2.1 (am_mi 89).2.2.2.1 (am_mi 89).2.2.2.2.1) from rfl)), rfl⟩
theorem am_cw90 : Cond.code (am_mi 90).2.1 (am_mi 90).2.2.1 (am_mi 90).2.2.2.1 (am_mi 90).2.2.2.2.1 ∈ am_W := List.mem_filter.mpr ⟨am_u_am_wk24 _ (List.mem_of_getElem? (i := 6) (show am_wk24[6]? = some (Cond.code (am_mi 90).2.1 (am_mi 90).2.2.1 (am_mi 90).2.2.2.1 (am_mi 90).2.2.2.2.1) from rfl)), rfl⟩
theorem am_cw91 : Cond.code (am_mi 91).2.1 (am_mi 91).2.2.1 (am_mi 91).2.2.2.1 (am_mi 91).2.2.2.2.1 ∈ am_W := List.mem_filter.mpr ⟨am_u_am_wk12 _ (List.mem_of_getElem? (i := 27) (show am_wk12[27]? = some (Cond.code (am_mi 91).2.1 (am_mi 91).2.2.1 (am_mi 91).2.2.2.1 (am_mi 91).2.2.2.2.1) from rfl)), rfl⟩
theorem am_cw92 : Cond.code (am_mi 92).2.1 (am_mi 92).2.2.1 (am_mi 92).2.2.2.1 (am_mi 92).2.2.2.2.1 ∈ am_W := List.mem_filter.mpr ⟨am_u_am_wk39 _ (List.mem_of_getElem? (i := 11) (show am_wk39[11]? = some (Cond.code (am_mi 92).2.1 (am_mi 92).2.2.1 (am_mi 92).2.2.2.1 (am_mi 92).2.2.2.2.1) from rfl)), rfl⟩
theorem am_cw93 : Cond.code (am_mi 93).2.1 (am_mi 93).2.2.1 (am_mi 93).2.2.2.1 (am_mi 93).2.2.2.2.1 ∈ am_W := List.mem_filter.mpr ⟨am_u_am_wk40 _ (List.mem_of_getElem? (i := 27) (show am_wk40[27]? = some (Cond.code (am_mi 93).2.1 (am_mi 93).2.2.1 (am_mi 93).2.2.2.1 (am_mi 93).2.2.2.2.1) from rfl)), rfl⟩
theorem am_cw94 : Cond.code (am_mi 94).2.1 (am_mi 94).2.2.1 (am_mi 94).2.2.2.1 (am_mi 94).2.2.2.2.1 ∈ am_W := List.mem_filter.mpr ⟨am_u_am_wk39 _ (List.mem_of_getElem? (i := 20) (show am_wk39[20]? = some (Cond.code (am_mi 94).2.1 (am_mi 94).2.2.1 (am_mi 94).2.2.2.1 (am_mi 94).2.2.2.2.1) from rfl)), rfl⟩
theorem am_cw95 : Cond.code (am_mi 95).2.1 (am_mi 95).2.2.1 (am_mi 95).2.2.2.1 (am_mi 95).2.2.2.2.1 ∈ am_W := List.mem_filter.mpr ⟨am_u_am_wk40 _ (List.mem_of_getElem? (i := 3) (show am_wk40[3]? = some (Cond.code (am_mi 95).2.1 (am_mi 95).2.2.1 (am_mi 95).2.2.2.1 (am_mi 95).2.2.2.2.1) from rfl)), rfl⟩
theorem am_cw96 : Cond.code (am_mi 96).2.1 (am_mi 96).2.2.1 (am_mi 96).2.2.2.1 (am_mi 96).2.2.2.2.1 ∈ am_W := List.mem_filter.mpr ⟨am_u_am_wk40 _ (List.mem_of_getElem? (i := 13) (show am_wk40[13]? = some (Cond.code (am_mi 96).2.1 (am_mi 96).2.2.1 (am_mi 96).2.2.2.1 (am_mi 96).2.2.2.2.1) from rfl)), rfl⟩
theorem am_cw97 : Cond.code (am_mi 97).2.1 (am_mi 97).2.2.1 (am_mi 97).2.2.2.1 (am_mi 97).2.2.2.2.1 ∈ am_W := List.mem_filter.mpr ⟨am_u_am_wk40 _ (List.mem_of_getElem? (i := 8) (show am_wk40[8]? = some (Cond.code (am_mi 97).2.1 (am_mi 97).2.2.1 (am_mi 97).2.2.2.1 (am_mi 97).2.2.2.2.1) from rfl)), rfl⟩
theorem am_cw98 : Cond.code (am_mi 98).2.1 (am_mi 98).2.2.1 (am_mi 98).2.2.2.1 (am_mi 98).2.2.2.2.1 ∈ am_W := List.mem_filter.mpr ⟨am_u_am_wk4 _ (List.mem_of_getElem? (i := 18) (show am_wk4[18]? = some (Cond.code (am_mi 98).2.1 (am_mi 98).2.2.1 (am_mi 98).2.2.2.1 (am_mi 98).2.2.2.2.1) from rfl)), rfl⟩
theorem am_cw99 : Cond.code (am_mi 99).2.1 (am_mi 99).2.2.1 (am_mi 99).2.2.2.1 (am_mi 99).2.2.2.2.1 ∈ am_W := List.mem_filter.mpr ⟨am_u_am_wk17 _ (List.mem_of_getElem? (i := 26) (show am_wk17[26]? = some (Cond.code (am_mi 99).2.1 (am_mi 99).2.2.1 (am_mi 99).2.2.2.1 (am_mi 99).2.2.2.2.1) from rfl)), rfl⟩
theorem am_cw100 : Cond.code (am_mi 100).2.1 (am_mi 100).2.2.1 (am_mi 100).2.2.2.1 (am_mi 100).2.2.2.2.1 ∈ am_W := List.mem_filter.mpr ⟨am_u_am_wk18 _ (List.mem_of_getElem? (i := 5) (show am_wk18[5]? = some (Cond.code (am_mi 100).2.1 (am_mi 100).2.2.1 (am_mi 100).2.2.2.1 (am_mi 100).2.2.2.2.1) from rfl)), rfl⟩
theorem am_cw101 : Cond.code (am_mi 101).2.1 (am_mi 101).2.2.1 (am_mi 101).2.2.2.1 (am_mi 101).2.2.2.2.1 ∈ am_W := List.mem_filter.mpr ⟨am_u_am_wk31 _ (List.mem_of_getElem? (i := 6) (show am_wk31[6]? = some (Cond.code (am_mi 101).2.1 (am_mi 101).2.2.1 (am_mi 101).2.2.2.1 (am_mi 101).2.2.2.2.1) from rfl)), rfl⟩
theorem am_cw102 : Cond.code (am_mi 102).2.1 (am_mi 102).2.2.1 (am_mi 102).2.2.2.1 (am_mi 102).2.2.2.2.1 ∈ am_W := List.mem_filter.mpr ⟨am_u_am_wk31 _ (List.mem_of_getElem? (i := 18) (show am_wk31[18]? = some (Cond.code (am_mi 102).2.1 (am_mi 102).2.2.1 (am_mi 102).2.2.2.1 (am_mi 102).2.2.2.2.1) from rfl)), rfl⟩
theorem am_cw103 : Cond.code (am_mi 103).2.1 (am_mi 103).2.2.1 (am_mi 103).2.2.2.1 (am_mi 103).2.2.2.2.1 ∈ am_W := List.mem_filter.mpr ⟨am_u_am_wk41 _ (List.mem_of_getElem? (i := 3) (show am_wk41[3]? = some (Cond.code (am_mi 103).2.1 (am_mi 103).2.2.1 (am_mi 103).2.2.2.1 (am_mi 103).2.2.2.2.1) from rfl)), rfl⟩
theorem am_cw104 : Cond.code (am_mi 104).2.1 (am_mi 104).2.2.1 (am_mi 104).2.2.2.1 (am_mi 104).2.2.2.2.1 ∈ am_W := List.mem_filter.mpr ⟨am_u_am_wk31 _ (List.mem_of_getElem? (i := 22) (show am_wk31[22]? = some (Cond.code (am_mi 104).2.1 (am_mi 104).2.2.1 (am_mi 104).2.2.2.1 (am_mi 104).2.2.2.2.1) from rfl)), rfl⟩
theorem am_cw105 : Cond.code (am_mi 105).2.1 (am_mi 105).2.2.1 (am_mi 105).2.2.2.1 (am_mi 105).2.2.2.2.1 ∈ am_W := List.mem_filter.mpr ⟨am_u_am_wk4 _ (List.mem_of_getElem? (i := 0) (show am_wk4[0]? = some (Cond.code (am_mi 105).2.1 (am_mi 105).2.2.1 (am_mi 105).2.2.2.1 (am_mi 105).2.2.2.2.1) from rfl)), rfl⟩
theorem am_cw106 : Cond.code (am_mi 106).2.1 (am_mi 106).2.2.1 (am_mi 106).2.2.2.1 (am_mi 106).2.2.2.2.1 ∈ am_W := List.mem_filter.mpr ⟨am_u_am_wk19 _ (List.mem_of_getElem? (i := 0) (show am_wk19[0]? = some (Cond.code (am_mi 106).2.1 (am_mi 106).2.2.1 (am_mi 106).2.2.2.1 (am_mi 106).2.2.2.2.1) from rfl)), rfl⟩
theorem am_cw107 : Cond.code (am_mi 107).2.1 (am_mi 107).2.2.1 (am_mi 107).2.2.2.1 (am_mi 107).2.2.2.2.1 ∈ am_W := List.mem_filter.mpr ⟨am_u_am_wk32 _ (List.mem_of_getElem? (i := 15) (show am_wk32[15]? = some (Cond.code (am_mi 107).2.1 (am_mi 107).2.2.1 (am_mi 107).2.2.2.1 (am_mi 107).2.2.2.2.1) from rfl)), rfl⟩
theorem am_cw108 : Cond.code (am_mi 108).2.1 (am_mi 108).2.2.1 (am_mi 108).2.2.2.1 (am_mi 108).2.2.2.2.1 ∈ am_W := List.mem_filter.mpr ⟨am_u_am_wk3 _ (List.mem_of_getElem? (i := 24) (show am_wk3[24]? = some (Cond.code (am_mi 108).2.1 (am_mi 108).2.2.1 (am_mi 108).2.2.2.1 (am_mi 108).2.2.2.2.1) from rfl)), rfl⟩
theorem am_cw109 : Cond.code (am_mi 109).2.1 (am_mi 109).2.2.1 (am_mi 109).2.2.2.1 (am_mi 109).2.2.2.2.1 ∈ am_W := List.mem_filter.mpr ⟨am_u_am_wk15 _ (List.mem_of_getElem? (i := 29) (show am_wk15[29]? = some (Cond.code (am_mi 109).2.1 (am_mi 109).2.2.1 (am_mi 109).2.2.2.1 (am_mi 109).2.2.2.2.1) from rfl)), rfl⟩
theorem am_cw110 : Cond.code (am_mi 110).2.1 (am_mi 110).2.2.1 (am_mi 110).2.2.2.1 (am_mi 110).2.2.2.2.1 ∈ am_W := List.mem_filter.mpr ⟨am_u_am_wk16 _ (List.mem_of_getElem? (i := 13) (show am_wk16[13]? = some (Cond.code (am_mi 110).2.1 (am_mi 110).2.2.1 (am_mi 110).2.2.2.1 (am_mi 110).2.2.2.2.1) from rfl)), rfl⟩
theorem am_cw111 : Cond.code (am_mi 111).2.1 (am_mi 111).2.2.1 (am_mi 111).2.2.2.1 (am_mi 111).2.2.2.2.1 ∈ am_W := List.mem_filter.mpr ⟨am_u_am_wk16 _ (List.mem_of_getElem? (i := 21) (show am_wk16[21]? = some (Cond.code (am_mi 111).2.1 (am_mi 111).2.2.1 (am_mi 111).2.2.2.1 (am_mi 111).2.2.2.2.1) from rfl)), rfl⟩
theorem am_cw112 : Cond.code (am_mi 112).2.1 (am_mi 112).2.2.1 (am_mi 112).2.2.2.1 (am_mi 112).2.2.2.2.1 ∈ am_W := List.mem_filter.mpr ⟨am_u_am_wk17 _ (List.mem_of_getElem? (i := 15) (show am_wk17[15]? = some (Cond.code (am_mi 112).2.1 (am_mi 112).2.2.1 (am_mi 112).2.2.2.1 (am_mi 112).2.2.2.2.1) from rfl)), rfl⟩
theorem am_cw113 : Cond.code (am_mi 113).2.1 (am_mi 113).2.2.1 (am_mi 113).2.2.2.1 (am_mi 113).2.2.2.2.1 ∈ am_W := List.mem_filter.mpr ⟨am_u_am_wk18 _ (List.mem_of_getElem? (i := 0) (show am_wk18[0]? = some (Cond.code (am_mi 113).2.1 (am_mi 113).2.2.1 (am_mi 113).2.2.2.1 (am_mi 113).2.2.2.2.1) from rfl)), rfl⟩
theorem am_cw114 : Cond.code (am_mi 114).2.1 (am_mi 114).2.2.1 (am_mi 114).2.2.2.1 (am_mi 114).2.2.2.2.1 ∈ am_W := List.mem_filter.mpr ⟨am_u_am_wk18 _ (List.mem_of_getElem? (i := 9) (show am_wk18[9]? = some (Cond.code (am_mi 114).2.1 (am_mi 114).2.2.1 (am_mi 114).2.2.2.1 (am_mi 114).2.2.2.2.1) from rfl)), rfl⟩
theorem am_cw115 : Cond.code (am_mi 115).2.1 (am_mi 115).2.2.1 (am_mi 115).2.2.2.1 (am_mi 115).2.2.2.2.1 ∈ am_W := List.mem_filter.mpr ⟨am_u_am_wk19 _ (List.mem_of_getElem? (i := 5) (show am_wk19[5]? = some (Cond.code (am_mi 115).2.1 (am_mi 115).2.2.1 (am_mi 115).2.2.2.1 (am_mi 115).2.2.2.2.1) from rfl)), rfl⟩
theorem am_cw116 : Cond.code (am_mi 116).2.1 (am_mi 116).2.2.1 (am_mi 116).2.2.2.1 (am_mi 116).2.2.2.2.1 ∈ am_W := List.mem_filter.mpr ⟨am_u_am_wk19 _ (List.mem_of_getElem? (i := 11) (show am_wk19[11]? = some (Cond.code (am_mi 116).2.1 (am_mi 116).2.2.1 (am_mi 116).2.2.2.1 (am_mi 116).2.2.2.2.1) from rfl)), rfl⟩
theorem am_cw117 : Cond.code (am_mi 117).2.1 (am_mi 117).2.2.1 (am_mi 117).2.2.2.1 (am_mi 117).2.2.2.2.1 ∈ am_W := List.mem_filter.mpr ⟨am_u_am_wk19 _ (List.mem_of_getElem? (i := 25) (show am_wk19[25]? = some (Cond.code (am_mi 117).2.1 (am_mi 117).2.2.1 (am_mi 117).2.2.2.1 (am_mi 117).2.2.2.2.1) from rfl)), rfl⟩
theorem am_cw118 : Cond.code (am_mi 118).2.1 (am_mi 118).2.2.1 (am_mi 118).2.2.2.1 (am_mi 118).2.2.2.2.1 ∈ am_W := List.mem_filter.mpr ⟨am_u_am_wk22 _ (List.mem_of_getElem? (i := 20) (show am_wk22[20]? = some (Cond.code (am_mi 118).2.1 (am_mi 118).2.2.1 (am_mi 118).2.2.2.1 (am_mi 118).2.2.2.2.1) from rfl)), rfl⟩
theorem am_cw119 : Cond.code (am_mi 119).2.1 (am_mi 119).2.2.1 (am_mi 119).2.2.2.1 (am_mi 119).2.2.2.2.1 ∈ am_W := List.mem_filter.mpr ⟨am_u_am_wk22 _ (List.mem_of_getElem? (i := 24) (show am_wk22[24]? = some (Cond.code (am_mi 119).2.1 (am_mi 119).2.2.1 (am_mi 119).2.2.2.1 (am_mi 119).2.2.2.2.1) from rfl)), rfl⟩
theorem am_cw120 : Cond.code (am_mi 120).2.1 (am_mi 120).2.2.1 (am_mi 120).2.2.2.1 (am_mi 120).2.2.2.2.1 ∈ am_W := List.mem_filter.mpr ⟨am_u_am_wk22 _ (List.mem_of_getElem? (i := 28) (show am_wk22[28]? = some (Cond.code (am_mi 120).2.1 (am_mi 120).2.2.1 (am_mi 120).2.2.2.1 (am_mi 120).2.2.2.2.1) from rfl)), rfl⟩
theorem am_cw121 : Cond.code (am_mi 121).2.1 (am_mi 121).2.2.1 (am_mi 121).2.2.2.1 (am_mi 121).2.2.2.2.1 ∈ am_W := List.mem_filter.mpr ⟨am_u_am_wk23 _ (List.mem_of_getElem? (i := 2) (show am_wk23[2]? = some (Cond.code (am_mi 121).2.1 (am_mi 121).2.2.1 (am_mi 121).2.2.2.1 (am_mi 121).2.2.2.2.1) from rfl)), rfl⟩
theorem am_cw122 : Cond.code (am_mi 122).2.1 (am_mi 122).2.2.1 (am_mi 122).2.2.2.1 (am_mi 122).2.2.2.2.1 ∈ am_W := List.mem_filter.mpr ⟨am_u_am_wk29 _ (List.mem_of_getElem? (i := 22) (show am_wk29[22]? = some (Cond.code (am_mi 122).2.1 (am_mi 122).2.2.1 (am_mi 122).2.2.2.1 (am_mi 122).2.2.2.2.1) from rfl)), rfl⟩
theorem am_cw123 : Cond.code (am_mi 123).2.1 (am_mi 123).2.2.1 (am_mi 123).2.2.2.1 (am_mi 123).2.2.2.2.1 ∈ am_W := List.mem_filter.mpr ⟨am_u_am_wk30 _ (List.mem_of_getElem? (i := 2) (show am_wk30[2]? = some (Cond.code (am_mi 123).2.1 (am_mi 123).2.2.1 (am_mi 123).2.2.2.1 (am_mi 123).2.2.2.2.1) from rfl)), rfl⟩
theorem am_cw124 : Cond.code (am_mi 124).2.1 (am_mi 124).2.2.1 (am_mi 124).2.2.2.1 (am_mi 124).2.2.2.2.1 ∈ am_W := List.mem_filter.mpr ⟨am_u_am_wk30 _ (List.mem_of_getElem? (i := 12) (show am_wk30[12]? = some (Cond.code (am_mi 124).2.1 (am_mi 124).2.2.1 (am_mi 124).2.2.2.1 (am_mi 124).2.2.2.2.1) from rfl)), rfl⟩
theorem am_cw125 : Cond.code (am_mi 125).2.1 (am_mi 125).2.2.1 (am_mi 125).2.2.2.1 (am_mi 125).2.2.2.2.1 ∈ am_W := List.mem_filter.mpr ⟨am_u_am_wk30 _ (List.mem_of_getElem? (i := 20) (show am_wk30[20]? = some (Cond.code (am_mi 125).2.1 (am_mi 125).2.2.1 (am_mi 125).2.2.2.1 (am_mi 125).2.2.2.2.1) from rfl)), rfl⟩
theorem am_cw126 : Cond.code (am_mi 126).2.1 (am_mi 126).2.2.1 (am_mi 126).2.2.2.1 (am_mi 126).2.2.2.2.1 ∈ am_W := List.mem_filter.mpr ⟨am_u_am_wk33 _ (List.mem_of_getElem? (i := 2) (show am_wk33[2]? = some (Cond.code (am_mi 126).2.1 (am_mi 126).2.2.1 (am_mi 126).2.2.2.1 (am_mi 126).2.2.2.2.1) from rfl)), rfl⟩
theorem am_cw127 : Cond.code (am_mi 127).2.1 (am_mi 127).2.2.1 (am_mi 127).2.2.2.1 (am_mi 127).2.2.2.2.1 ∈ am_W := List.mem_filter.mpr ⟨am_u_am_wk33 _ (List.mem_of_getElem? (i := 11) (show am_wk33[11]? = some (Cond.code (am_mi 127).2.1 (am_mi 127).2.2.1 (am_mi 127).2.2.2.1 (am_mi 127).2.2.2.2.1) from rfl)), rfl⟩
theorem am_cw128 : Cond.code (am_mi 128).2.1 (am_mi 128).2.2.1 (am_mi 128).2.2.2.1 (am_mi 128).2.2.2.2.1 ∈ am_W := List.mem_filter.mpr ⟨am_u_am_wk33 _ (List.mem_of_getElem? (i := 18) (show am_wk33[18]? = some (Cond.code (am_mi 128).2.1 (am_mi 128).2.2.1 (am_mi 128).2.2.2.1 (am_mi 128).2.2.2.2.1) from rfl)), rfl⟩
theorem am_cw129 : Cond.code (am_mi 129).2.1 (am_mi 129).2.2.1 (am_mi 129).2.2.2.1 (am_mi 129).2.2.2.2.1 ∈ am_W := List.mem_filter.mpr ⟨am_u_am_wk33 _ (List.mem_of_getElem? (i := 22) (show am_wk33[22]? = some (Cond.code (am_mi 129).2.1 (am_mi 129).2.2.1 (am_mi 129).2.2.2.1 (am_mi 129).2.2.2.2.1) from rfl)), rfl⟩
theorem am_cw130 : Cond.code (am_mi 130).2.1 (am_mi 130).2.2.1 (am_mi 130).2.2.2.1 (am_mi 130).2.2.2.2.1 ∈ am_W := List.mem_filter.mpr ⟨am_u_am_wk34 _ (List.mem_of_getElem? (i := 7) (show am_wk34[7]? = some (Cond.code (am_mi 130).2.1 (am_mi 130).2.2.1 (am_mi 130).2.2.2.1 (am_mi 130).2.2.2.2.1) from rfl)), rfl⟩
theorem am_cw131 : Cond.code (am_mi 131).2.1 (am_mi 131).2.2.1 (am_mi 131).2.2.2.1 (am_mi 131).2.2.2.2.1 ∈ am_W := List.mem_filter.mpr ⟨am_u_am_wk36 _ (List.mem_of_getElem? (i := 26) (show am_wk36[26]? = some (Cond.code (am_mi 131).2.1 (am_mi 131).2.2.1 (am_mi 131).2.2.2.1 (am_mi 131).2.2.2.2.1) from rfl)), rfl⟩
theorem am_cw132 : Cond.code (am_mi 132).2.1 (am_mi 132).2.2.1 (am_mi 132).2.2.2.1 (am_mi 132).2.2.2.2.1 ∈ am_W := List.mem_filter.mpr ⟨am_u_am_wk37 _ (List.mem_of_getElem? (i := 16) (show am_wk37[16]? = some (Cond.code (am_mi 132).2.1 (am_mi 132).2.2.1 (am_mi 132).2.2.2.1 (am_mi 132).2.2.2.2.1) from rfl)), rfl⟩
theorem am_cw133 : Cond.code (am_mi 133).2.1 (am_mi 133).2.2.1 (am_mi 133).2.2.2.1 (am_mi 133).2.2.2.2.1 ∈ am_W := List.mem_filter.mpr ⟨am_u_am_wk37 _ (List.mem_of_getElem? (i := 24) (show am_wk37[24]? = some (Cond.code (am_mi 133).2.1 (am_mi 133).2.2.1 (am_mi 133).2.2.2.1 (am_mi 133).2.2.2.2.1) from rfl)), rfl⟩
theorem am_cw134 : Cond.code (am_mi 134).2.1 (am_mi 134).2.2.1 (am_mi 134).2.2.2.1 (am_mi 134).2.2.2.2.1 ∈ am_W := List.mem_filter.mpr ⟨am_u_am_wk38 _ (List.mem_of_getElem? (i := 3) (show am_wk38[3]? = some (Cond.code (am_mi 134).2.1 (am_mi 134).2.2.1 (am_mi 134).2.2.2.1 (am_mi 134).2.2.2.2.1) from rfl)), rfl⟩
theorem am_cw135 : Cond.code (am_mi 135).2.1 (am_mi 135).2.2.1 (am_mi 135).2.2.2.1 (am_mi 135).2.2.2.2.1 ∈ am_W := List.mem_filter.mpr ⟨am_u_am_wk38 _ (List.mem_of_getElem? (i := 31) (show am_wk38[31]? = some (Cond.code (am_mi 135).2.1 (am_mi 135).2.2.1 (am_mi 135).2.2.2.1 (am_mi 135).2.2.2.2.1) from rfl)), rfl⟩
theorem am_cw136 : Cond.code (am_mi 136).2.1 (am_mi 136).2.2.1 (am_mi 136).2.2.2.1 (am_mi 136).2.2.2.2.1 ∈ am_W := List.mem_filter.mpr ⟨am_u_am_wk39 _ (List.mem_of_getElem? (i := 7) (show am_wk39[7]? = some (Cond.code (am_mi 136).2.1 (am_mi 136).2.2.1 (am_mi 136).2.2.2.1 (am_mi 136).2.2.2.2.1) from rfl)), rfl⟩
theorem am_cw137 : Cond.code (am_mi 137).2.1 (am_mi 137).2.2.1 (am_mi 137).2.2.2.1 (am_mi 137).2.2.2.2.1 ∈ am_W := List.mem_filter.mpr ⟨am_u_am_wk39 _ (List.mem_of_getElem? (i := 15) (show am_wk39[15]? = some (Cond.code (am_mi 137).2.1 (am_mi 137).2.2.1 (am_mi 137).2.2.2.1 (am_mi 137).2.2.2.2.1) from rfl)), rfl⟩
theorem am_cw138 : Cond.code (am_mi 138).2.1 (am_mi 138).2.2.1 (am_mi 138).2.2.2.1 (am_mi 138).2.2.2.2.1 ∈ am_W := List.mem_filter.mpr ⟨am_u_am_wk40 _ (List.mem_of_getElem? (i := 23) (show am_wk40[23]? = some (Cond.code (am_mi 138).2.1 (am_mi 138).2.2.1 (am_mi 138).2.2.2.1 (am_mi 138).2.2.2.2.1) from rfl)), rfl⟩
theorem am_cw139 : Cond.code (am_mi 139).2.1 (am_mi 139).2.2.1 (am_mi 139).2.2.2.1 (am_mi 139).2.2.2.2.1 ∈ am_W := List.mem_filter.mpr ⟨am_u_am_wk40 _ (List.mem_of_getElem? (i := 31) (show am_wk40[31]? = some (Cond.code (am_mi 139).2.1 (am_mi 139).2.2.1 (am_mi 139).2.2.2.1 (am_mi 139).2.2.2.2.1) from rfl)), rfl⟩
theorem am_cw140 : Cond.code (am_mi 140).2.1 (am_mi 140).2.2.1 (am_mi 140).2.2.2.1 (am_mi 140).2.2.2.2.1 ∈ am_W := List.mem_filter.mpr ⟨am_u_am_wk41 _ (List.mem_of_getElem? (i := 9) (show am_wk41[9]? = some (Cond.code (am_mi 140).2.1 (am_mi 140).2.2.1 (am_mi 140).2.2.2.1 (am_mi 140).2.2.2.2.1) from rfl)), rfl⟩
theorem am_cw141 : Cond.code (am_mi 141).2.1 (am_mi 141).2.2.1 (am_mi 141).2.2.2.1 (am_mi 141).2.2.2.2.1 ∈ am_W := List.mem_filter.mpr ⟨am_u_am_wk41 _ (List.mem_of_getElem? (i := 14) (show am_wk41[14]? = some (Cond.code (am_mi 141).2.1 (am_mi 141).2.2.1 (am_mi 141).2.2.2.1 (am_mi 141).2.2.2.2.1) from rfl)), rfl⟩
theorem am_cw142 : Cond.code (am_mi 142).2.1 (am_mi 142).2.2.1 (am_mi 142).2.2.2.1 (am_mi 142).2.2.2.2.1 ∈ am_W := List.mem_filter.mpr ⟨am_u_am_wk41 _ (List.mem_of_getElem? (i := 23) (show am_wk41[23]? = some (Cond.code (am_mi 142).2.1 (am_mi 142).2.2.1 (am_mi 142).2.2.2.1 (am_mi 142).2.2.2.2.1) from rfl)), rfl⟩
theorem am_cw143 : Cond.code (am_mi 143).2.1 (am_mi 143).2.2.1 (am_mi 143).2.2.2.1 (am_mi 143).2.2.2.2.1 ∈ am_W := List.mem_filter.mpr ⟨am_u_am_wk41 _ (List.mem_of_getElem? (i := 31) (show am_wk41[31]? = some (Cond.code (am_mi 143).2.1 (am_mi 143).2.2.1 (am_mi 143).2.2.2.1 (am_mi 143).2.2.2.2.1) from rfl)), rfl⟩
theorem am_cw144 : Cond.code (am_mi 144).2.1 (am_mi 144).2.2.1 (am_mi 144).2.2.2.1 (am_mi 144).2.2.2.2.1 ∈ am_W := List.mem_filter.mpr ⟨am_u_am_wk42 _ (List.mem_of_getElem? (i := 11) (show am_wk42[11]? = some (Cond.code (am_mi 144).2.1 (am_mi 144).2.2.1 (am_mi 144).2.2.2.1 (am_mi 144).2.2.2.2.1) from rfl)), rfl⟩
theorem am_cw145 : Cond.code (am_mi 145).2.1 (am_mi 145).2.2.1 (am_mi 145).2.2.2.1 (am_mi 145).2.2.2.2.1 ∈ am_W := List.mem_filter.mpr ⟨am_u_am_wk43 _ (List.mem_of_getElem? (i := 3) (show am_wk43[3]? = some (Cond.code (am_mi 145).2.1 (am_mi 145).2.2.1 (am_mi 145).2.2.2.1 (am_mi 145).2.2.2.2.1) from rfl)), rfl⟩
theorem am_cw146 : Cond.code (am_mi 146).2.1 (am_mi 146).2.2.1 (am_mi 146).2.2.2.1 (am_mi 146).2.2.2.2.1 ∈ am_W := List.mem_filter.mpr ⟨am_u_am_wk16 _ (List.mem_of_getElem? (i := 28) (show am_wk16[28]? = some (Cond.code (am_mi 146).2.1 (am_mi 146).2.2.1 (am_mi 146).2.2.2.1 (am_mi 146).2.2.2.2.1) from rfl)), rfl⟩
theorem am_cw147 : Cond.code (am_mi 147).2.1 (am_mi 147).2.2.1 (am_mi 147).2.2.2.1 (am_mi 147).2.2.2.2.1 ∈ am_W := List.mem_filter.mpr ⟨am_u_am_wk18 _ (List.mem_of_getElem? (i := 12) (show am_wk18[12]? = some (Cond.code (am_mi 147).2.1 (am_mi 147).2.2.1 (am_mi 147).2.2.2.1 (am_mi 147).2.2.2.2.1) from rfl)), rfl⟩
theorem am_cw148 : Cond.code (am_mi 148).2.1 (am_mi 148).2.2.1 (am_mi 148).2.2.2.1 (am_mi 148).2.2.2.2.1 ∈ am_W := List.mem_filter.mpr ⟨am_u_am_wk19 _ (List.mem_of_getElem? (i := 30) (show am_wk19[30]? = some (Cond.code (am_mi 148).2.1 (am_mi 148).2.2.1 (am_mi 148).2.2.2.1 (am_mi 148).2.2.2.2.1) from rfl)), rfl⟩
theorem am_cw149 : Cond.code (am_mi 149).2.1 (am_mi 149).2.2.1 (am_mi 149).2.2.2.1 (am_mi 149).2.2.2.2.1 ∈ am_W := List.mem_filter.mpr ⟨am_u_am_wk16 _ (List.mem_of_getElem? (i := 24) (show am_wk16[24]? = some (Cond.code (am_mi 149).2.1 (am_mi 149).2.2.1 (am_mi 149).2.2.2.1 (am_mi 149).2.2.2.2.1) from rfl)), rfl⟩
theorem am_cw150 : Cond.code (am_mi 150).2.1 (am_mi 150).2.2.1 (am_mi 150).2.2.2.1 (am_mi 150).2.2.2.2.1 ∈ am_W := List.mem_filter.mpr ⟨am_u_am_wk17 _ (List.mem_of_getElem? (i := 18) (show am_wk17[18]? = some (Cond.code (am_mi 150).2.1 (am_mi 150).2.2.1 (am_mi 150).2.2.2.1 (am_mi 150).2.2.2.2.1) from rfl)), rfl⟩
theorem am_cw151 : Cond.code (am_mi 151).2.1 (am_mi 151).2.2.1 (am_mi 151).2.2.2.1 (am_mi 151).2.2.2.2.1 ∈ am_W := List.mem_filter.mpr ⟨am_u_am_wk19 _ (List.mem_of_getElem? (i := 14) (show am_wk19[14]? = some (Cond.code (am_mi 151).2.1 (am_mi 151).2.2.1 (am_mi 151).2.2.2.1 (am_mi 151).2.2.2.2.1) from rfl)), rfl⟩
theorem am_cw152 : Cond.code (am_mi 152).2.1 (am_mi 152).2.2.1 (am_mi 152).2.2.2.1 (am_mi 152).2.2.2.2.1 ∈ am_W := List.mem_filter.mpr ⟨am_u_am_wk32 _ (List.mem_of_getElem? (i := 6) (show am_wk32[6]? = some (Cond.code (am_mi 152).2.1 (am_mi 152).2.2.1 (am_mi 152).2.2.2.1 (am_mi 152).2.2.2.2.1) from rfl)), rfl⟩
theorem am_cw153 : Cond.code (am_mi 153).2.1 (am_mi 153).2.2.1 (am_mi 153).2.2.2.1 (am_mi 153).2.2.2.2.1 ∈ am_W := List.mem_filter.mpr ⟨am_u_am_wk32 _ (List.mem_of_getElem? (i := 18) (show am_wk32[18]? = some (Cond.code (am_mi 153).2.1 (am_mi 153).2.2.1 (am_mi 153).2.2.2.1 (am_mi 153).2.2.2.2.1) from rfl)), rfl⟩
theorem am_cw154 : Cond.code (am_mi 154).2.1 (am_mi 154).2.2.1 (am_mi 154).2.2.2.1 (am_mi 154).2.2.2.2.1 ∈ am_W := List.mem_filter.mpr ⟨am_u_am_wk43 _ (List.mem_of_getElem? (i := 18) (show am_wk43[18]? = some (Cond.code (am_mi 154).2.1 (am_mi 154).2.2.1 (am_mi 154).2.2.2.1 (am_mi 154).2.2.2.2.1) from rfl)), rfl⟩
theorem am_cw155 : Cond.code (am_mi 155).2.1 (am_mi 155).2.2.1 (am_mi 155).2.2.2.1 (am_mi 155).2.2.2.2.1 ∈ am_W := List.mem_filter.mpr ⟨am_u_am_wk52 _ (List.mem_of_getElem? (i := 0) (show am_wk52[0]? = some (Cond.code (am_mi 155).2.1 (am_mi 155).2.2.1 (am_mi 155).2.2.2.1 (am_mi 155).2.2.2.2.1) from rfl)), rfl⟩
theorem am_cw156 : Cond.code (am_mi 156).2.1 (am_mi 156).2.2.1 (am_mi 156).2.2.2.1 (am_mi 156).2.2.2.2.1 ∈ am_W := List.mem_filter.mpr ⟨am_u_am_wk51 _ (List.mem_of_getElem? (i := 18) (show am_wk51[18]? = some (Cond.code (am_mi 156).2.1 (am_mi 156).2.2.1 (am_mi 156).2.2.2.1 (am_mi 156).2.2.2.2.1) from rfl)), rfl⟩
theorem am_cw157 : Cond.code (am_mi 157).2.1 (am_mi 157).2.2.1 (am_mi 157).2.2.2.1 (am_mi 157).2.2.2.2.1 ∈ am_W := List.mem_filter.mpr ⟨am_u_am_wk51 _ (List.mem_of_getElem? (i := 14) (show am_wk51[14]? = some (Cond.code (am_mi 157).2.1 (am_mi 157).2.2.1 (am_mi 157).2.2.2.1 (am_mi 157).2.2.2.2.1) from rfl)), rfl⟩
theorem am_cw158 : Cond.code (am_mi 158).2.1 (am_mi 158).2.2.1 (am_mi 158).2.2.2.1 (am_mi 158).2.2.2.2.1 ∈ am_W := List.mem_filter.mpr ⟨am_u_am_wk51 _ (List.mem_of_getElem? (i := 22) (show am_wk51[22]? = some (Cond.code (am_mi 158).2.1 (am_mi 158).2.2.1 (am_mi 158).2.2.2.1 (am_mi 158).2.2.2.2.1) from rfl)), rfl⟩
theorem am_cw159 : Cond.code (am_mi 159).2.1 (am_mi 159).2.2.1 (am_mi 159).2.2.2.1 (am_mi 159).2.2.2.2.1 ∈ am_W := List.mem_filter.mpr ⟨am_u_am_wk52 _ (List.mem_of_getElem? (i := 14) (show am_wk52[14]? = some (Cond.code (am_mi 159).2.1 (am_mi 159).2.2.1 (am_mi 159).2.2.2.1 (am_mi 159).2.2.2.2.1) from rfl)), rfl⟩
theorem am_cw160 : Cond.code (am_mi 160).2.1 (am_mi 160).2.2.1 (am_mi 160).2.2.2.1 (am_mi 160).2.2.2.2.1 ∈ am_W := List.mem_filter.mpr ⟨am_u_am_wk52 _ (List.mem_of_getElem? (i := 7) (show am_wk52[7]? = some (Cond.code (am_mi 160).2.1 (am_mi 160).2.2.1 (am_mi 160).2.2.2.1 (am_mi 160).2.2.2.2.1) from rfl)), rfl⟩
theorem am_cw161 : Cond.code (am_mi 161).2.1 (am_mi 161).2.2.1 (am_mi 161).2.2.2.1 (am_mi 161).2.2.2.2.1 ∈ am_W := List.mem_filter.mpr ⟨am_u_am_wk52 _ (List.mem_of_getElem? (i := 10) (show am_wk52[10]? = some (Cond.code (am_mi 161).2.1 (am_mi 161).2.2.1 (am_mi 161).2.2.2.1 (am_mi 161).2.2.2.2.1) from rfl)), rfl⟩
theorem am_cw162 : Cond.code (am_mi 162).2.1 (am_mi 162).2.2.1 (am_mi 162).2.2.2.1 (am_mi 162).2.2.2.2.1 ∈ am_W := List.mem_filter.mpr ⟨am_u_am_wk52 _ (List.mem_of_getElem? (i := 4) (show am_wk52[4]? = some (Cond.code (am_mi 162).2.1 (am_mi 162).2.2.1 (am_mi 162).2.2.2.1 (am_mi 162).2.2.2.2.1) from rfl)), rfl⟩
theorem am_cw163 : Cond.code (am_mi 163).2.1 (am_mi 163).2.2.1 (am_mi 163).2.2.2.1 (am_mi 163).2.2.2.2.1 ∈ am_W := List.mem_filter.mpr ⟨am_u_am_wk53 _ (List.mem_of_getElem? (i := 25) (show am_wk53[25]? = some (Cond.code (am_mi 163).2.1 (am_mi 163).2.2.1 (am_mi 163).2.2.2.1 (am_mi 163).2.2.2.2.1) from rfl)), rfl⟩
theorem am_cw164 : Cond.code (am_mi 164).2.1 (am_mi 164).2.2.1 (am_mi 164).2.2.2.1 (am_mi 164).2.2.2.2.1 ∈ am_W := List.mem_filter.mpr ⟨am_u_am_wk52 _ (List.mem_of_getElem? (i := 23) (show am_wk52[23]? = some (Cond.code (am_mi 164).2.1 (am_mi 164).2.2.1 (am_mi 164).2.2.2.1 (am_mi 164).2.2.2.2.1) from rfl)), rfl⟩
theorem am_cw165 : Cond.code (am_mi 165).2.1 (am_mi 165).2.2.1 (am_mi 165).2.2.2.1 (am_mi 165).2.2.2.2.1 ∈ am_W := List.mem_filter.mpr ⟨am_u_am_wk55 _ (List.mem_of_getElem? (i := 1) (show am_wk55[1]? = some (Cond.code (am_mi 165).2.1 (am_mi 165).2.2.1 (am_mi 165).2.2.2.1 (am_mi 165).2.2.2.2.1) from rfl)), rfl⟩
theorem am_cw166 : Cond.code (am_mi 166).2.1 (am_mi 166).2.2.1 (am_mi 166).2.2.2.1 (am_mi 166).2.2.2.2.1 ∈ am_W := List.mem_filter.mpr ⟨am_u_am_wk54 _ (List.mem_of_getElem? (i := 2) (show am_wk54[2]? = some (Cond.code (am_mi 166).2.1 (am_mi 166).2.2.1 (am_mi 166).2.2.2.1 (am_mi 166).2.2.2.2.1) from rfl)), rfl⟩
theorem am_cw167 : Cond.code (am_mi 167).2.1 (am_mi 167).2.2.1 (am_mi 167).2.2.2.1 (am_mi 167).2.2.2.2.1 ∈ am_W := List.mem_filter.mpr ⟨am_u_am_wk54 _ (List.mem_of_getElem? (i := 9) (show am_wk54[9]? = some (Cond.code (am_mi 167).2.1 (am_mi 167).2.2.1 (am_mi 167).2.2.2.1 (am_mi 167).2.2.2.2.1) from rfl)), rfl⟩
theorem am_cw168 : Cond.code (am_mi 168).2.1 (am_mi 168).2.2.1 (am_mi 168).2.2.2.1 (am_mi 168).2.2.2.2.1 ∈ am_W := List.mem_filter.mpr ⟨am_u_am_wk54 _ (List.mem_of_getElem? (i := 27) (show am_wk54[27]? = some (Cond.code (am_mi 168).2.1 (am_mi 168).2.2.1 (am_mi 168).2.2.2.1 (am_mi 168).2.2.2.2.1) from rfl)), rfl⟩
theorem am_cw169 : Cond.code (am_mi 169).2.1 (am_mi 169).2.2.1 (am_mi 169).2.2.2.1 (am_mi 169).2.2.2.2.1 ∈ am_W := List.mem_filter.mpr ⟨am_u_am_wk54 _ (List.mem_of_getElem? (i := 24) (show am_wk54[24]? = some (Cond.code (am_mi 169).2.1 (am_mi 169).2.2.1 (am_mi 169).2.2.2.1 (am_mi 169).2.2.2.2.1) from rfl)), rfl⟩
theorem am_cw170 : Cond.code (am_mi 170).2.1 (am_mi 170).2.2.1 (am_mi 170).2.2.2.1 (am_mi 170).2.2.2.2.1 ∈ am_W := List.mem_filter.mpr ⟨am_u_am_wk53 _ (List.mem_of_getElem? (i := 21) (show am_wk53[21]? = some (Cond.code (am_mi 170).2.1 (am_mi 170).2.2.1 (am_mi 170).2.2.2.1 (am_mi 170).2.2.2.2.1) from rfl)), rfl⟩
theorem am_cw171 : Cond.code (am_mi 171).2.1 (am_mi 171).2.2.1 (am_mi 171).2.2.2.1 (am_mi 171).2.2.2.2.1 ∈ am_W := List.mem_filter.mpr ⟨am_u_am_wk53 _ (List.mem_of_getElem? (i := 9) (show am_wk53[9]? = some (Cond.code (am_mi 171).2.1 (am_mi 171).2.2.1 (am_mi 171).2.2.2.1 (am_mi 171).2.2.2.2.1) from rfl)), rfl⟩
theorem am_cw172 : Cond.code (am_mi 172).2.1 (am_mi 172).2.2.1 (am_mi 172).2.2.2.1 (am_mi 172).2.2.2.2.1 ∈ am_W := List.mem_filter.mpr ⟨am_u_am_wk53 _ (List.mem_of_getElem? (i := 29) (show am_wk53[29]? = some (Cond.code (am_mi 172).2.1 (am_mi 172).2.2.1 (am_mi 172).2.2.2.1 (am_mi 172).2.2.2.2.1) from rfl)), rfl⟩
theorem am_cw173 : Cond.code (am_mi 173).2.1 (am_mi 173).2.2.1 (am_mi 173).2.2.2.1 (am_mi 173).2.2.2.2.1 ∈ am_W := List.mem_filter.mpr ⟨am_u_am_wk53 _ (List.mem_of_getElem? (i := 16) (show am_wk53[16]? = some (Cond.code (am_mi 173).2.1 (am_mi 173).2.2.1 (am_mi 173).2.2.2.1 (am_mi 173).2.2.2.2.1) from rfl)), rfl⟩
theorem am_cw174 : Cond.code (am_mi 174).2.1 (am_mi 174).2.2.1 (am_mi 174).2.2.2.1 (am_mi 174).2.2.2.2.1 ∈ am_W := List.mem_filter.mpr ⟨am_u_am_wk53 _ (List.mem_of_getElem? (i := 13) (show am_wk53[13]? = some (Cond.code (am_mi 174).2.1 (am_mi 174).2.2.1 (am_mi 174).2.2.2.1 (am_mi 174).2.2.2.2.1) from rfl)), rfl⟩
theorem am_cw175 : Cond.code (am_mi 175).2.1 (am_mi 175).2.2.1 (am_mi 175).2.2.2.1 (am_mi 175).2.2.2.2.1 ∈ am_W := List.mem_filter.mpr ⟨am_u_am_wk54 _ (List.mem_of_getElem? (i := 20) (show am_wk54[20]? = some (Cond.code (am_mi 175).2.1 (am_mi 175).2.2.1 (am_mi 175).2.2.2.1 (am_mi 175).2.2.2.2.1) from rfl)), rfl⟩
theorem am_cw176 : Cond.code (am_mi 176).2.1 (am_mi 176).2.2.1 (am_mi 176).2.2.2.1 (am_mi 176).2.2.2.2.1 ∈ am_W := List.mem_filter.mpr ⟨am_u_am_wk53 _ (List.mem_of_getElem? (i := 5) (show am_wk53[5]? = some (Cond.code (am_mi 176).2.1 (am_mi 176).2.2.1 (am_mi 176).2.2.2.1 (am_mi 176).2.2.2.2.1) from rfl)), rfl⟩
theorem am_cw177 : Cond.code (am_mi 177).2.1 (am_mi 177).2.2.1 (am_mi 177).2.2.2.1 (am_mi 177).2.2.2.2.1 ∈ am_W := List.mem_filter.mpr ⟨am_u_am_wk52 _ (List.mem_of_getElem? (i := 29) (show am_wk52[29]? = some (Cond.code (am_mi 177).2.1 (am_mi 177).2.2.1 (am_mi 177).2.2.2.1 (am_mi 177).2.2.2.2.1) from rfl)), rfl⟩
theorem am_cw178 : Cond.code (am_mi 178).2.1 (am_mi 178).2.2.1 (am_mi 178).2.2.2.1 (am_mi 178).2.2.2.2.1 ∈ am_W := List.mem_filter.mpr ⟨am_u_am_wk52 _ (List.mem_of_getElem? (i := 18) (show am_wk52[18]? = some (Cond.code (am_mi 178).2.1 (am_mi 178).2.2.1 (am_mi 178).2.2.2.1 (am_mi 178).2.2.2.2.1) from rfl)), rfl⟩
theorem am_cw179 : Cond.code (am_mi 179).2.1 (am_mi 179).2.2.1 (am_mi 179).2.2.2.1 (am_mi 179).2.2.2.2.1 ∈ am_W := List.mem_filter.mpr ⟨am_u_am_wk51 _ (List.mem_of_getElem? (i := 26) (show am_wk51[26]? = some (Cond.code (am_mi 179).2.1 (am_mi 179).2.2.1 (am_mi 179).2.2.2.1 (am_mi 179).2.2.2.2.1) from rfl)), rfl⟩
theorem am_cw180 : Cond.code (am_mi 180).2.1 (am_mi 180).2.2.1 (am_mi 180).2.2.2.1 (am_mi 180).2.2.2.2.1 ∈ am_W := List.mem_filter.mpr ⟨am_u_am_wk55 _ (List.mem_of_getElem? (i := 9) (show am_wk55[9]? = some (Cond.code (am_mi 180).2.1 (am_mi 180).2.2.1 (am_mi 180).2.2.2.1 (am_mi 180).2.2.2.2.1) from rfl)), rfl⟩
theorem am_cw181 : Cond.code (am_mi 181).2.1 (am_mi 181).2.2.1 (am_mi 181).2.2.2.1 (am_mi 181).2.2.2.2.1 ∈ am_W := List.mem_filter.mpr ⟨am_u_am_wk51 _ (List.mem_of_getElem? (i := 29) (show am_wk51[29]? = some (Cond.code (am_mi 181).2.1 (am_mi 181).2.2.1 (am_mi 181).2.2.2.1 (am_mi 181).2.2.2.2.1) from rfl)), rfl⟩
theorem am_cw182 : Cond.code (am_mi 182).2.1 (am_mi 182).2.2.1 (am_mi 182).2.2.2.1 (am_mi 182).2.2.2.2.1 ∈ am_W := List.mem_filter.mpr ⟨am_u_am_wk55 _ (List.mem_of_getElem? (i := 16) (show am_wk55[16]? = some (Cond.code (am_mi 182).2.1 (am_mi 182).2.2.1 (am_mi 182).2.2.2.1 (am_mi 182).2.2.2.2.1) from rfl)), rfl⟩
theorem am_cw183 : Cond.code (am_mi 183).2.1 (am_mi 183).2.2.1 (am_mi 183).2.2.2.1 (am_mi 183).2.2.2.2.1 ∈ am_W := List.mem_filter.mpr ⟨am_u_am_wk55 _ (List.mem_of_getElem? (i := 13) (show am_wk55[13]? = some (Cond.code (am_mi 183).2.1 (am_mi 183).2.2.1 (am_mi 183).2.2.2.1 (am_mi 183).2.2.2.2.1) from rfl)), rfl⟩
theorem am_cw184 : Cond.code (am_mi 184).2.1 (am_mi 184).2.2.1 (am_mi 184).2.2.2.1 (am_mi 184).2.2.2.2.1 ∈ am_W := List.mem_filter.mpr ⟨am_u_am_wk55 _ (List.mem_of_getElem? (i := 20) (show am_wk55[20]? = some (Cond.code (am_mi 184).2.1 (am_mi 184).2.2.1 (am_mi 184).2.2.2.1 (am_mi 184).2.2.2.2.1) from rfl)), rfl⟩
theorem am_cw185 : Cond.code (am_mi 185).2.1 (am_mi 185).2.2.1 (am_mi 185).2.2.2.1 (am_mi 185).2.2.2.2.1 ∈ am_W := List.mem_filter.mpr ⟨am_u_am_wk55 _ (List.mem_of_getElem? (i := 24) (show am_wk55[24]? = some (Cond.code (am_mi 185).2.1 (am_mi 185).2.2.1 (am_mi 185).2.2.2.1 (am_mi 185).2.2.2.2.1) from rfl)), rfl⟩
theorem am_cw186 : Cond.code (am_mi 186).2.1 (am_mi 186).2.2.1 (am_mi 186).2.2.2.1 (am_mi 186).2.2.2.2.1 ∈ am_W := List.mem_filter.mpr ⟨am_u_am_wk55 _ (List.mem_of_getElem? (i := 28) (show am_wk55[28]? = some (Cond.code (am_mi 186).2.1 (am_mi 186).2.2.1 (am_mi 186).2.2.2.1 (am_mi 186).2.2.2.2.1) from rfl)), rfl⟩
theorem am_cw187 : Cond.code (am_mi 187).2.1 (am_mi 187).2.2.1 (am_mi 187).2.2.2.1 (am_mi 187).2.2.2.2.1 ∈ am_W := List.mem_filter.mpr ⟨am_u_am_wk56 _ (List.mem_of_getElem? (i := 0) (show am_wk56[0]? = some (Cond.code (am_mi 187).2.1 (am_mi 187).2.2.1 (am_mi 187).2.2.2.1 (am_mi 187).2.2.2.2.1) from rfl)), rfl⟩
theorem am_cw188 : Cond.code (am_mi 188).2.1 (am_mi 188).2.2.1 (am_mi 188).2.2.2.1 (am_mi 188).2.2.2.2.1 ∈ am_W := List.mem_filter.mpr ⟨am_u_am_wk56 _ (List.mem_of_getElem? (i := 4) (show am_wk56[4]? = some (Cond.code (am_mi 188).2.1 (am_mi 188).2.2.1 (am_mi 188).2.2.2.1 (am_mi 188).2.2.2.2.1) from rfl)), rfl⟩
theorem am_cw189 : Cond.code (am_mi 189).2.1 (am_mi 189).2.2.1 (am_mi 189).2.2.2.1 (am_mi 189).2.2.2.2.1 ∈ am_W := List.mem_filter.mpr ⟨am_u_am_wk58 _ (List.mem_of_getElem? (i := 11) (show am_wk58[11]? = some (Cond.code (am_mi 189).2.1 (am_mi 189).2.2.1 (am_mi 189).2.2.2.1 (am_mi 189).2.2.2.2.1) from rfl)), rfl⟩
theorem am_cw190 : Cond.code (am_mi 190).2.1 (am_mi 190).2.2.1 (am_mi 190).2.2.2.1 (am_mi 190).2.2.2.2.1 ∈ am_W := List.mem_filter.mpr ⟨am_u_am_wk61 _ (List.mem_of_getElem? (i := 25) (show am_wk61[25]? = some (Cond.code (am_mi 190).2.1 (am_mi 190).2.2.1 (am_mi 190).2.2.2.1 (am_mi 190).2.2.2.2.1) from rfl)), rfl⟩
theorem am_cw191 : Cond.code (am_mi 191).2.1 (am_mi 191).2.2.1 (am_mi 191).2.2.2.1 (am_mi 191).2.2.2.2.1 ∈ am_W := List.mem_filter.mpr ⟨am_u_am_wk55 _ (List.mem_of_getElem? (i := 5) (show am_wk55[5]? = some (Cond.code (am_mi 191).2.1 (am_mi 191).2.2.1 (am_mi 191).2.2.2.1 (am_mi 191).2.2.2.2.1) from rfl)), rfl⟩
theorem am_cw192 : Cond.code (am_mi 192).2.1 (am_mi 192).2.2.1 (am_mi 192).2.2.2.1 (am_mi 192).2.2.2.2.1 ∈ am_W := List.mem_filter.mpr ⟨am_u_am_wk56 _ (List.mem_of_getElem? (i := 8) (show am_wk56[8]? = some (Cond.code (am_mi 192).2.1 (am_mi 192).2.2.1 (am_mi 192).2.2.2.1 (am_mi 192).2.2.2.2.1) from rfl)), rfl⟩
theorem am_cw193 : Cond.code (am_mi 193).2.1 (am_mi 193).2.2.1 (am_mi 193).2.2.2.1 (am_mi 193).2.2.2.2.1 ∈ am_W := List.mem_filter.mpr ⟨am_u_am_wk56 _ (List.mem_of_getElem? (i := 12) (show am_wk56[12]? = some (Cond.code (am_mi 193).2.1 (am_mi 193).2.2.1 (am_mi 193).2.2.2.1 (am_mi 193).2.2.2.2.1) from rfl)), rfl⟩
theorem am_cw194 : Cond.code (am_mi 194).2.1 (am_mi 194).2.2.1 (am_mi 194).2.2.2.1 (am_mi 194).2.2.2.2.1 ∈ am_W := List.mem_filter.mpr ⟨am_u_am_wk56 _ (List.mem_of_getElem? (i := 16) (show am_wk56[16]? = some (Cond.code (am_mi 194).2.1 (am_mi 194).2.2.1 (am_mi 194).2.2.2.1 (am_mi 194).2.2.2.2.1) from rfl)), rfl⟩
theorem am_cw195 : Cond.code (am_mi 195).2.1 (am_mi 195).2.2.1 (am_mi 195).2.2.2.1 (am_mi 195).2.2.2.2.1 ∈ am_W := List.mem_filter.mpr ⟨am_u_am_wk56 _ (List.mem_of_getElem? (i := 20) (show am_wk56[20]? = some (Cond.code (am_mi 195).2.1 (am_mi 195).2.2.1 (am_mi 195).2.2.2.1 (am_mi 195).2.2.2.2.1) from rfl)), rfl⟩
theorem am_cw196 : Cond.code (am_mi 196).2.1 (am_mi 196).2.2.1 (am_mi 196).2.2.2.1 (am_mi 196).2.2.2.2.1 ∈ am_W := List.mem_filter.mpr ⟨am_u_am_wk56 _ (List.mem_of_getElem? (i := 26) (show am_wk56[26]? = some (Cond.code (am_mi 196).2.1 (am_mi 196).2.2.1 (am_mi 196).2.2.2.1 (am_mi 196).2.2.2.2.1) from rfl)), rfl⟩
theorem am_cw197 : Cond.code (am_mi 197).2.1 (am_mi 197).2.2.1 (am_mi 197).2.2.2.1 (am_mi 197).2.2.2.2.1 ∈ am_W := List.mem_filter.mpr ⟨am_u_am_wk56 _ (List.mem_of_getElem? (i := 30) (show am_wk56[30]? = some (Cond.code (am_mi 197).2.1 (am_mi 197).2.2.1 (am_mi 197).2.2.2.1 (am_mi 197).2.2.2.2.1) from rfl)), rfl⟩
theorem am_cw198 : Cond.code (am_mi 198).2.1 (am_mi 198).2.2.1 (am_mi 198).2.2.2.1 (am_mi 198).2.2.2.2.1 ∈ am_W := List.mem_filter.mpr ⟨am_u_am_wk57 _ (List.mem_of_getElem? (i := 15) (show am_wk57[15]? = some (Cond.code (am_mi 198).2.1 (am_mi 198).2.2.1 (am_mi 198).2.2.2.1 (am_mi 198).2.2.2.2.1) from rfl)), rfl⟩
theorem am_cw199 : Cond.code (am_mi 199).2.1 (am_mi 199).2.2.1 (am_mi 199).2.2.2.1 (am_mi 199).2.2.2.2.1 ∈ am_W := List.mem_filter.mpr ⟨am_u_am_wk57 _ (List.mem_of_getElem? (i := 19) (show am_wk57[19]? = some (Cond.code (am_mi 199).2.1 (am_mi 199).2.2.1 (am_mi 199).2.2.2.1 (am_mi 199).2.2.2.2.1) from rfl)), rfl⟩
theorem am_cw200 : Cond.code (am_mi 200).2.1 (am_mi 200).2.2.1 (am_mi 200).2.2.2.1 (am_mi 200).2.2.2.2.1 ∈ am_W := List.mem_filter.mpr ⟨am_u_am_wk58 _ (List.mem_of_getElem? (i := 7) (show am_wk58[7]? = some (Cond.code (am_mi 200).2.1 (am_mi 200).2.2.1 (am_mi 200).2.2.2.1 (am_mi 200).2.2.2.2.1) from rfl)), rfl⟩
theorem am_cw201 : Cond.code (am_mi 201).2.1 (am_mi 201).2.2.1 (am_mi 201).2.2.2.1 (am_mi 201).2.2.2.2.1 ∈ am_W := List.mem_filter.mpr ⟨am_u_am_wk59 _ (List.mem_of_getElem? (i := 12) (show am_wk59[12]? = some (Cond.code (am_mi 201).2.1 (am_mi 201).2.2.1 (am_mi 201).2.2.2.1 (am_mi 201).2.2.2.2.1) from rfl)), rfl⟩
theorem am_cw202 : Cond.code (am_mi 202).2.1 (am_mi 202).2.2.1 (am_mi 202).2.2.2.1 (am_mi 202).2.2.2.2.1 ∈ am_W := List.mem_filter.mpr ⟨am_u_am_wk58 _ (List.mem_of_getElem? (i := 3) (show am_wk58[3]? = some (Cond.code (am_mi 202).2.1 (am_mi 202).2.2.1 (am_mi 202).2.2.2.1 (am_mi 202).2.2.2.2.1) from rfl)), rfl⟩
theorem am_cw203 : Cond.code (am_mi 203).2.1 (am_mi 203).2.2.1 (am_mi 203).2.2.2.1 (am_mi 203).2.2.2.2.1 ∈ am_W := List.mem_filter.mpr ⟨am_u_am_wk57 _ (List.mem_of_getElem? (i := 23) (show am_wk57[23]? = some (Cond.code (am_mi 203).2.1 (am_mi 203).2.2.1 (am_mi 203).2.2.2.1 (am_mi 203).2.2.2.2.1) from rfl)), rfl⟩
theorem am_cw204 : Cond.code (am_mi 204).2.1 (am_mi 204).2.2.1 (am_mi 204).2.2.2.1 (am_mi 204).2.2.2.2.1 ∈ am_W := List.mem_filter.mpr ⟨am_u_am_wk57 _ (List.mem_of_getElem? (i := 31) (show am_wk57[31]? = some (Cond.code (am_mi 204).2.1 (am_mi 204).2.2.1 (am_mi 204).2.2.2.1 (am_mi 204).2.2.2.2.1) from rfl)), rfl⟩
theorem am_cw205 : Cond.code (am_mi 205).2.1 (am_mi 205).2.2.1 (am_mi 205).2.2.2.1 (am_mi 205).2.2.2.2.1 ∈ am_W := List.mem_filter.mpr ⟨am_u_am_wk58 _ (List.mem_of_getElem? (i := 15) (show am_wk58[15]? = some (Cond.code (am_mi 205).2.1 (am_mi 205).2.2.1 (am_mi 205).2.2.2.1 (am_mi 205).2.2.2.2.1) from rfl)), rfl⟩
theorem am_cw206 : Cond.code (am_mi 206).2.1 (am_mi 206).2.2.1 (am_mi 206).2.2.2.1 (am_mi 206).2.2.2.2.1 ∈ am_W := List.mem_filter.mpr ⟨am_u_am_wk57 _ (List.mem_of_getElem? (i := 11) (show am_wk57[11]? = some (Cond.code (am_mi 206).2.1 (am_mi 206).2.2.1 (am_mi 206).2.2.2.1 (am_mi 206).2.2.2.2.1) from rfl)), rfl⟩
theorem am_cw207 : Cond.code (am_mi 207).2.1 (am_mi 207).2.2.1 (am_mi 207).2.2.2.1 (am_mi 207).2.2.2.2.1 ∈ am_W := List.mem_filter.mpr ⟨am_u_am_wk57 _ (List.mem_of_getElem? (i := 27) (show am_wk57[27]? = some (Cond.code (am_mi 207).2.1 (am_mi 207).2.2.1 (am_mi 207).2.2.2.1 (am_mi 207).2.2.2.2.1) from rfl)), rfl⟩
theorem am_cw208 : Cond.code (am_mi 208).2.1 (am_mi 208).2.2.1 (am_mi 208).2.2.2.1 (am_mi 208).2.2.2.2.1 ∈ am_W := List.mem_filter.mpr ⟨am_u_am_wk57 _ (List.mem_of_getElem? (i := 7) (show am_wk57[7]? = some (Cond.code (am_mi 208).2.1 (am_mi 208).2.2.1 (am_mi 208).2.2.2.1 (am_mi 208).2.2.2.2.1) from rfl)), rfl⟩
theorem am_cw209 : Cond.code (am_mi 209).2.1 (am_mi 209).2.2.1 (am_mi 209).2.2.2.1 (am_mi 209).2.2.2.2.1 ∈ am_W := List.mem_filter.mpr ⟨am_u_am_wk57 _ (List.mem_of_getElem? (i := 2) (show am_wk57[2]? = some (Cond.code (am_mi 209).2.1 (am_mi 209).2.2.1 (am_mi 209).2.2.2.1 (am_mi 209).2.2.2.2.1) from rfl)), rfl⟩
theorem am_cw210 : Cond.code (am_mi 210).2.1 (am_mi 210).2.2.1 (am_mi 210).2.2.2.1 (am_mi 210).2.2.2.2.1 ∈ am_W := List.mem_filter.mpr ⟨am_u_am_wk59 _ (List.mem_of_getElem? (i := 20) (show am_wk59[20]? = some (Cond.code (am_mi 210).2.1 (am_mi 210).2.2.1 (am_mi 210).2.2.2.1 (am_mi 210).2.2.2.2.1) from rfl)), rfl⟩
theorem am_cw211 : Cond.code (am_mi 211).2.1 (am_mi 211).2.2.1 (am_mi 211).2.2.2.1 (am_mi 211).2.2.2.2.1 ∈ am_W := List.mem_filter.mpr ⟨am_u_am_wk59 _ (List.mem_of_getElem? (i := 25) (show am_wk59[25]? = some (Cond.code (am_mi 211).2.1 (am_mi 211).2.2.1 (am_mi 211).2.2.2.1 (am_mi 211).2.2.2.2.1) from rfl)), rfl⟩
theorem am_cw212 : Cond.code (am_mi 212).2.1 (am_mi 212).2.2.1 (am_mi 212).2.2.2.1 (am_mi 212).2.2.2.2.1 ∈ am_W := List.mem_filter.mpr ⟨am_u_am_wk59 _ (List.mem_of_getElem? (i := 29) (show am_wk59[29]? = some (Cond.code (am_mi 212).2.1 (am_mi 212).2.2.1 (am_mi 212).2.2.2.1 (am_mi 212).2.2.2.2.1) from rfl)), rfl⟩
theorem am_cw213 : Cond.code (am_mi 213).2.1 (am_mi 213).2.2.1 (am_mi 213).2.2.2.1 (am_mi 213).2.2.2.2.1 ∈ am_W := List.mem_filter.mpr ⟨am_u_am_wk60 _ (List.mem_of_getElem? (i := 5) (show am_wk60[5]? = some (Cond.code (am_mi 213).2.1 (am_mi 213).2.2.1 (am_mi 213).2.2.2.1 (am_mi 213).2.2.2.2.1) from rfl)), rfl⟩
theorem am_cw214 : Cond.code (am_mi 214).2.1 (am_mi 214).2.2.1 (am_mi 214).2.2.2.1 (am_mi 214).2.2.2.2.1 ∈ am_W := List.mem_filter.mpr ⟨am_u_am_wk60 _ (List.mem_of_getElem? (i := 1) (show am_wk60[1]? = some (Cond.code (am_mi 214).2.1 (am_mi 214).2.2.1 (am_mi 214).2.2.2.1 (am_mi 214).2.2.2.2.1) from rfl)), rfl⟩
theorem am_cw215 : Cond.code (am_mi 215).2.1 (am_mi 215).2.2.1 (am_mi 215).2.2.2.1 (am_mi 215).2.2.2.2.1 ∈ am_W := List.mem_filter.mpr ⟨am_u_am_wk60 _ (List.mem_of_getElem? (i := 17) (show am_wk60[17]? = some (Cond.code (am_mi 215).2.1 (am_mi 215).2.2.1 (am_mi 215).2.2.2.1 (am_mi 215).2.2.2.2.1) from rfl)), rfl⟩
theorem am_cw216 : Cond.code (am_mi 216).2.1 (am_mi 216).2.2.1 (am_mi 216).2.2.2.1 (am_mi 216).2.2.2.2.1 ∈ am_W := List.mem_filter.mpr ⟨am_u_am_wk60 _ (List.mem_of_getElem? (i := 28) (show am_wk60[28]? = some (Cond.code (am_mi 216).2.1 (am_mi 216).2.2.1 (am_mi 216).2.2.2.1 (am_mi 216).2.2.2.2.1) from rfl)), rfl⟩
theorem am_cw217 : Cond.code (am_mi 217).2.1 (am_mi 217).2.2.1 (am_mi 217).2.2.2.1 (am_mi 217).2.2.2.2.1 ∈ am_W := List.mem_filter.mpr ⟨am_u_am_wk61 _ (List.mem_of_getElem? (i := 1) (show am_wk61[1]? = some (Cond.code (am_mi 217).2.1 (am_mi 217).2.2.1 (am_mi 217).2.2.2.1 (am_mi 217).2.2.2.2.1) from rfl)), rfl⟩
theorem am_cw218 : Cond.code (am_mi 218).2.1 (am_mi 218).2.2.1 (am_mi 218).2.2.2.1 (am_mi 218).2.2.2.2.1 ∈ am_W := List.mem_filter.mpr ⟨am_u_am_wk60 _ (List.mem_of_getElem? (i := 25) (show am_wk60[25]? = some (Cond.code (am_mi 218).2.1 (am_mi 218).2.2.1 (am_mi 218).2.2.2.1 (am_mi 218).2.2.2.2.1) from rfl)), rfl⟩
theorem am_cw219 : Cond.code (am_mi 219).2.1 (am_mi 219).2.2.1 (am_mi 219).2.2.2.1 (am_mi 219).2.2.2.2.1 ∈ am_W := List.mem_filter.mpr ⟨am_u_am_wk60 _ (List.mem_of_getElem? (i := 21) (show am_wk60[21]? = some (Cond.code (am_mi 219).2.1 (am_mi 219).2.2.1 (am_mi 219).2.2.2.1 (am_mi 219).2.2.2.2.1) from rfl)), rfl⟩
theorem am_cw220 : Cond.code (am_mi 220).2.1 (am_mi 220).2.2.1 (am_mi 220).2.2.2.1 (am_mi 220).2.2.2.2.1 ∈ am_W := List.mem_filter.mpr ⟨am_u_am_wk60 _ (List.mem_of_getElem? (i := 13) (show am_wk60[13]? = some (Cond.code (am_mi 220).2.1 (am_mi 220).2.2.1 (am_mi 220).2.2.2.1 (am_mi 220).2.2.2.2.1) from rfl)), rfl⟩
theorem am_cw221 : Cond.code (am_mi 221).2.1 (am_mi 221).2.2.1 (am_mi 221).2.2.2.1 (am_mi 221).2.2.2.2.1 ∈ am_W := List.mem_filter.mpr ⟨am_u_am_wk60 _ (List.mem_of_getElem? (i := 9) (show am_wk60[9]? = some (Cond.code (am_mi 221).2.1 (am_mi 221).2.2.1 (am_mi 221).2.2.2.1 (am_mi 221).2.2.2.2.1) from rfl)), rfl⟩
theorem am_cw222 : Cond.code (am_mi 222).2.1 (am_mi 222).2.2.1 (am_mi 222).2.2.2.1 (am_mi 222).2.2.2.2.1 ∈ am_W := List.mem_filter.mpr ⟨am_u_am_wk61 _ (List.mem_of_getElem? (i := 9) (show am_wk61[9]? = some (Cond.code (am_mi 222).2.1 (am_mi 222).2.2.1 (am_mi 222).2.2.2.1 (am_mi 222).2.2.2.2.1) from rfl)), rfl⟩
theorem am_cw223 : Cond.code (am_mi 223).2.1 (am_mi 223).2.2.1 (am_mi 223).2.2.2.1 (am_mi 223).2.2.2.2.1 ∈ am_W := List.mem_filter.mpr ⟨am_u_am_wk61 _ (List.mem_of_getElem? (i := 5) (show am_wk61[5]? = some (Cond.code (am_mi 223).2.1 (am_mi 223).2.2.1 (am_mi 223).2.2.2.1 (am_mi 223).2.2.2.2.1) from rfl)), rfl⟩
theorem am_cw224 : Cond.code (am_mi 224).2.1 (am_mi 224).2.2.1 (am_mi 224).2.2.2.1 (am_mi 224).2.2.2.2.1 ∈ am_W := List.mem_filter.mpr ⟨am_u_am_wk61 _ (List.mem_of_getElem? (i := 13) (show am_wk61[13]? = some (Cond.code (am_mi 224).2.1 (am_mi 224).2.2.1 (am_mi 224).2.2.2.1 (am_mi 224).2.2.2.2.1) from rfl)), rfl⟩
theorem am_cw225 : Cond.code (am_mi 225).2.1 (am_mi 225).2.2.1 (am_mi 225).2.2.2.1 (am_mi 225).2.2.2.2.1 ∈ am_W := List.mem_filter.mpr ⟨am_u_am_wk61 _ (List.mem_of_getElem? (i := 21) (show am_wk61[21]? = some (Cond.code (am_mi 225).2.1 (am_mi 225).2.2.1 (am_mi 225).2.2.2.1 (am_mi 225).2.2.2.2.1) from rfl)), rfl⟩
theorem am_cw226 : Cond.code (am_mi 226).2.1 (am_mi 226).2.2.1 (am_mi 226).2.2.2.1 (am_mi 226).2.2.2.2.1 ∈ am_W := List.mem_filter.mpr ⟨am_u_am_wk61 _ (List.mem_of_getElem? (i := 17) (show am_wk61[17]? = some (Cond.code (am_mi 226).2.1 (am_mi 226).2.2.1 (am_mi 226).2.2.2.1 (am_mi 226).2.2.2.2.1) from rfl)), rfl⟩
theorem am_cw227 : Cond.code (am_mi 227).2.1 (am_mi 227).2.2.1 (am_mi 227).2.2.2.1 (am_mi 227).2.2.2.2.1 ∈ am_W := List.mem_filter.mpr ⟨am_u_am_wk62 _ (List.mem_of_getElem? (i := 5) (show am_wk62[5]? = some (Cond.code (am_mi 227).2.1 (am_mi 227).2.2.1 (am_mi 227).2.2.2.1 (am_mi 227).2.2.2.2.1) from rfl)), rfl⟩
theorem am_cw228 : Cond.code (am_mi 228).2.1 (am_mi 228).2.2.1 (am_mi 228).2.2.2.1 (am_mi 228).2.2.2.2.1 ∈ am_W := List.mem_filter.mpr ⟨am_u_am_wk62 _ (List.mem_of_getElem? (i := 0) (show am_wk62[0]? = some (Cond.code (am_mi 228).2.1 (am_mi 228).2.2.1 (am_mi 228).2.2.2.1 (am_mi 228).2.2.2.2.1) from rfl)), rfl⟩
theorem am_cw229 : Cond.code (am_mi 229).2.1 (am_mi 229).2.2.1 (am_mi 229).2.2.2.1 (am_mi 229).2.2.2.2.1 ∈ am_W := List.mem_filter.mpr ⟨am_u_am_wk61 _ (List.mem_of_getElem? (i := 29) (show am_wk61[29]? = some (Cond.code (am_mi 229).2.1 (am_mi 229).2.2.1 (am_mi 229).2.2.2.1 (am_mi 229).2.2.2.2.1) from rfl)), rfl⟩
theorem am_cw230 : Cond.code (am_mi 230).2.1 (am_mi 230).2.2.1 (am_mi 230).2.2.2.1 (am_mi 230).2.2.2.2.1 ∈ am_W := List.mem_filter.mpr ⟨am_u_am_wk62 _ (List.mem_of_getElem? (i := 11) (show am_wk62[11]? = some (Cond.code (am_mi 230).2.1 (am_mi 230).2.2.1 (am_mi 230).2.2.2.1 (am_mi 230).2.2.2.2.1) from rfl)), rfl⟩
theorem am_cw231 : Cond.code (am_mi 231).2.1 (am_mi 231).2.2.1 (am_mi 231).2.2.2.1 (am_mi 231).2.2.2.2.1 ∈ am_W := List.mem_filter.mpr ⟨am_u_am_wk62 _ (List.mem_of_getElem? (i := 15) (show am_wk62[15]? = some (Cond.code (am_mi 231).2.1 (am_mi 231).2.2.1 (am_mi 231).2.2.2.1 (am_mi 231).2.2.2.2.1) from rfl)), rfl⟩
theorem am_cw232 : Cond.code (am_mi 232).2.1 (am_mi 232).2.2.1 (am_mi 232).2.2.2.1 (am_mi 232).2.2.2.2.1 ∈ am_W := List.mem_filter.mpr ⟨am_u_am_wk62 _ (List.mem_of_getElem? (i := 23) (show am_wk62[23]? = some (Cond.code (am_mi 232).2.1 (am_mi 232).2.2.1 (am_mi 232).2.2.2.1 (am_mi 232).2.2.2.2.1) from rfl)), rfl⟩
theorem am_cw233 : Cond.code (am_mi 233).2.1 (am_mi 233).2.2.1 (am_mi 233).2.2.2.1 (am_mi 233).2.2.2.2.1 ∈ am_W := List.mem_filter.mpr ⟨am_u_am_wk62 _ (List.mem_of_getElem? (i := 19) (show am_wk62[19]? = some (Cond.code (am_mi 233).2.1 (am_mi 233).2.2.1 (am_mi 233).2.2.2.1 (am_mi 233).2.2.2.2.1) from rfl)), rfl⟩
theorem am_cw234 : Cond.code (am_mi 234).2.1 (am_mi 234).2.2.1 (am_mi 234).2.2.2.1 (am_mi 234).2.2.2.2.1 ∈ am_W := List.mem_filter.mpr ⟨am_u_am_wk62 _ (List.mem_of_getElem? (i := 27) (show am_wk62[27]? = some (Cond.code (am_mi 234).2.1 (am_mi 234).2.2.1 (am_mi 234).2.2.2.1 (am_mi 234).2.2.2.2.1) from rfl)), rfl⟩
theorem am_cw235 : Cond.code (am_mi 235).2.1 (am_mi 235).2.2.1 (am_mi 235).2.2.2.1 (am_mi 235).2.2.2.2.1 ∈ am_W := List.mem_filter.mpr ⟨am_u_am_wk63 _ (List.mem_of_getElem? (i := 3) (show am_wk63[3]? = some (Cond.code (am_mi 235).2.1 (am_mi 235).2.2.1 (am_mi 235).2.2.2.1 (am_mi 235).2.2.2.2.1) from rfl)), rfl⟩
theorem am_cw236 : Cond.code (am_mi 236).2.1 (am_mi 236).2.2.1 (am_mi 236).2.2.2.1 (am_mi 236).2.2.2.2.1 ∈ am_W := List.mem_filter.mpr ⟨am_u_am_wk62 _ (List.mem_of_getElem? (i := 31) (show am_wk62[31]? = some (Cond.code (am_mi 236).2.1 (am_mi 236).2.2.1 (am_mi 236).2.2.2.1 (am_mi 236).2.2.2.2.1) from rfl)), rfl⟩
theorem am_cw237 : Cond.code (am_mi 237).2.1 (am_mi 237).2.2.1 (am_mi 237).2.2.2.1 (am_mi 237).2.2.2.2.1 ∈ am_W := List.mem_filter.mpr ⟨am_u_am_wk63 _ (List.mem_of_getElem? (i := 7) (show am_wk63[7]? = some (Cond.code (am_mi 237).2.1 (am_mi 237).2.2.1 (am_mi 237).2.2.2.1 (am_mi 237).2.2.2.2.1) from rfl)), rfl⟩
theorem am_cw238 : Cond.code (am_mi 238).2.1 (am_mi 238).2.2.1 (am_mi 238).2.2.2.1 (am_mi 238).2.2.2.2.1 ∈ am_W := List.mem_filter.mpr ⟨am_u_am_wk63 _ (List.mem_of_getElem? (i := 12) (show am_wk63[12]? = some (Cond.code (am_mi 238).2.1 (am_mi 238).2.2.1 (am_mi 238).2.2.2.1 (am_mi 238).2.2.2.2.1) from rfl)), rfl⟩
theorem am_cw239 : Cond.code (am_mi 239).2.1 (am_mi 239).2.2.1 (am_mi 239).2.2.2.1 (am_mi 239).2.2.2.2.1 ∈ am_W := List.mem_filter.mpr ⟨am_u_am_wk63 _ (List.mem_of_getElem? (i := 17) (show am_wk63[17]? = some (Cond.code (am_mi 239).2.1 (am_mi 239).2.2.1 (am_mi 239).2.2.2.1 (am_mi 239).2.2.2.2.1) from rfl)), rfl⟩
theorem am_cw240 : Cond.code (am_mi 240).2.1 (am_mi 240).2.2.1 (am_mi 240).2.2.2.1 (am_mi 240).2.2.2.2.1 ∈ am_W := List.mem_filter.mpr ⟨am_u_am_wk63 _ (List.mem_of_getElem? (i := 28) (show am_wk63[28]? = some (Cond.code (am_mi 240).2.1 (am_mi 240).2.2.1 (am_mi 240).2.2.2.1 (am_mi 240).2.2.2.2.1) from rfl)), rfl⟩
theorem am_cw241 : Cond.code (am_mi 241).2.1 (am_mi 241).2.2.1 (am_mi 241).2.2.2.1 (am_mi 241).2.2.2.2.1 ∈ am_W := List.mem_filter.mpr ⟨am_u_am_wk63 _ (List.mem_of_getElem? (i := 24) (show am_wk63[24]? = some (Cond.code (am_mi 241).2.1 (am_mi 241).2.2.1 (am_mi 241).2.2.2.1 (am_mi 241).2.2.2.2.1) from rfl)), rfl⟩
theorem am_cw242 : Cond.code (am_mi 242).2.1 (am_mi 242).2.2.1 (am_mi 242).2.2.2.1 (am_mi 242).2.2.2.2.1 ∈ am_W := List.mem_filter.mpr ⟨am_u_am_wk63 _ (List.mem_of_getElem? (i := 21) (show am_wk63[21]? = some (Cond.code (am_mi 242).2.1 (am_mi 242).2.2.1 (am_mi 242).2.2.2.1 (am_mi 242).2.2.2.2.1) from rfl)), rfl⟩
theorem am_cw243 : Cond.code (am_mi 243).2.1 (am_mi 243).2.2.1 (am_mi 243).2.2.2.1 (am_mi 243).2.2.2.2.1 ∈ am_W := List.mem_filter.mpr ⟨am_u_am_wk64 _ (List.mem_of_getElem? (i := 0) (show am_wk64[0]? = some (Cond.code (am_mi 243).2.1 (am_mi 243).2.2.1 (am_mi 243).2.2.2.1 (am_mi 243).2.2.2.2.1) from rfl)), rfl⟩
theorem am_cw244 : Cond.code (am_mi 244).2.1 (am_mi 244).2.2.1 (am_mi 244).2.2.2.1 (am_mi 244).2.2.2.2.1 ∈ am_W := List.mem_filter.mpr ⟨am_u_am_wk64 _ (List.mem_of_getElem? (i := 4) (show am_wk64[4]? = some (Cond.code (am_mi 244).2.1 (am_mi 244).2.2.1 (am_mi 244).2.2.2.1 (am_mi 244).2.2.2.2.1) from rfl)), rfl⟩
theorem am_cw245 : Cond.code (am_mi 245).2.1 (am_mi 245).2.2.1 (am_mi 245).2.2.2.1 (am_mi 245).2.2.2.2.1 ∈ am_W := List.mem_filter.mpr ⟨am_u_am_wk36 _ (List.mem_of_getElem? (i := 17) (show am_wk36[17]? = some (Cond.code (am_mi 245).2.1 (am_mi 245).2.2.1 (am_mi 245).2.2.2.1 (am_mi 245).2.2.2.2.1) from rfl)), rfl⟩
theorem am_cw246 : Cond.code (am_mi 246).2.1 (am_mi 246).2.2.1 (am_mi 246).2.2.2.1 (am_mi 246).2.2.2.2.1 ∈ am_W := List.mem_filter.mpr ⟨am_u_am_wk31 _ (List.mem_of_getElem? (i := 26) (show am_wk31[26]? = some (Cond.code (am_mi 246).2.1 (am_mi 246).2.2.1 (am_mi 246).2.2.2.1 (am_mi 246).2.2.2.2.1) from rfl)), rfl⟩
theorem am_cw247 : Cond.code (am_mi 247).2.1 (am_mi 247).2.2.1 (am_mi 247).2.2.2.1 (am_mi 247).2.2.2.2.1 ∈ am_W := List.mem_filter.mpr ⟨am_u_am_wk35 _ (List.mem_of_getElem? (i := 22) (show am_wk35[22]? = some (Cond.code (am_mi 247).2.1 (am_mi 247).2.2.1 (am_mi 247).2.2.2.1 (am_mi 247).2.2.2.2.1) from rfl)), rfl⟩
theorem am_cw248 : Cond.code (am_mi 248).2.1 (am_mi 248).2.2.1 (am_mi 248).2.2.2.1 (am_mi 248).2.2.2.2.1 ∈ am_W := List.mem_filter.mpr ⟨am_u_am_wk36 _ (List.mem_of_getElem? (i := 13) (show am_wk36[13]? = some (Cond.code (am_mi 248).2.1 (am_mi 248).2.2.1 (am_mi 248).2.2.2.1 (am_mi 248).2.2.2.2.1) from rfl)), rfl⟩
theorem am_cw249 : Cond.code (am_mi 249).2.1 (am_mi 249).2.2.1 (am_mi 249).2.2.2.1 (am_mi 249).2.2.2.2.1 ∈ am_W := List.mem_filter.mpr ⟨am_u_am_wk17 _ (List.mem_of_getElem? (i := 11) (show am_wk17[11]? = some (Cond.code (am_mi 249).2.1 (am_mi 249).2.2.1 (am_mi 249).2.2.2.1 (am_mi 249).2.2.2.2.1) from rfl)), rfl⟩
theorem am_cw250 : Cond.code (am_mi 250).2.1 (am_mi 250).2.2.1 (am_mi 250).2.2.2.1 (am_mi 250).2.2.2.2.1 ∈ am_W := List.mem_filter.mpr ⟨am_u_am_wk32 _ (List.mem_of_getElem? (i := 11) (show am_wk32[11]? = some (Cond.code (am_mi 250).2.1 (am_mi 250).2.2.1 (am_mi 250).2.2.2.1 (am_mi 250).2.2.2.2.1) from rfl)), rfl⟩
theorem am_cw251 : Cond.code (am_mi 251).2.1 (am_mi 251).2.2.1 (am_mi 251).2.2.2.1 (am_mi 251).2.2.2.2.1 ∈ am_W := List.mem_filter.mpr ⟨am_u_am_wk17 _ (List.mem_of_getElem? (i := 8) (show am_wk17[8]? = some (Cond.code (am_mi 251).2.1 (am_mi 251).2.2.1 (am_mi 251).2.2.2.1 (am_mi 251).2.2.2.2.1) from rfl)), rfl⟩
theorem am_cw252 : Cond.code (am_mi 252).2.1 (am_mi 252).2.2.1 (am_mi 252).2.2.2.1 (am_mi 252).2.2.2.2.1 ∈ am_W := List.mem_filter.mpr ⟨am_u_am_wk32 _ (List.mem_of_getElem? (i := 23) (show am_wk32[23]? = some (Cond.code (am_mi 252).2.1 (am_mi 252).2.2.1 (am_mi 252).2.2.2.1 (am_mi 252).2.2.2.2.1) from rfl)), rfl⟩
theorem am_cw253 : Cond.code (am_mi 253).2.1 (am_mi 253).2.2.1 (am_mi 253).2.2.2.1 (am_mi 253).2.2.2.2.1 ∈ am_W := List.mem_filter.mpr ⟨am_u_am_wk39 _ (List.mem_of_getElem? (i := 26) (show am_wk39[26]? = some (Cond.code (am_mi 253).2.1 (am_mi 253).2.2.1 (am_mi 253).2.2.2.1 (am_mi 253).2.2.2.2.1) from rfl)), rfl⟩
theorem am_cw254 : Cond.code (am_mi 254).2.1 (am_mi 254).2.2.1 (am_mi 254).2.2.2.1 (am_mi 254).2.2.2.2.1 ∈ am_W := List.mem_filter.mpr ⟨am_u_am_wk4 _ (List.mem_of_getElem? (i := 4) (show am_wk4[4]? = some (Cond.code (am_mi 254).2.1 (am_mi 254).2.2.1 (am_mi 254).2.2.2.1 (am_mi 254).2.2.2.2.1) from rfl)), rfl⟩
theorem am_cw255 : Cond.code (am_mi 255).2.1 (am_mi 255).2.2.1 (am_mi 255).2.2.2.1 (am_mi 255).2.2.2.2.1 ∈ am_W := List.mem_filter.mpr ⟨am_u_am_wk29 _ (List.mem_of_getElem? (i := 7) (show am_wk29[7]? = some (Cond.code (am_mi 255).2.1 (am_mi 255).2.2.1 (am_mi 255).2.2.2.1 (am_mi 255).2.2.2.2.1) from rfl)), rfl⟩
theorem am_cw256 : Cond.code (am_mi 256).2.1 (am_mi 256).2.2.1 (am_mi 256).2.2.2.1 (am_mi 256).2.2.2.2.1 ∈ am_W := List.mem_filter.mpr ⟨am_u_am_wk23 _ (List.mem_of_getElem? (i := 15) (show am_wk23[15]? = some (Cond.code (am_mi 256).2.1 (am_mi 256).2.2.1 (am_mi 256).2.2.2.1 (am_mi 256).2.2.2.2.1) from rfl)), rfl⟩
theorem am_cw257 : Cond.code (am_mi 257).2.1 (am_mi 257).2.2.1 (am_mi 257).2.2.2.1 (am_mi 257).2.2.2.2.1 ∈ am_W := List.mem_filter.mpr ⟨am_u_am_wk23 _ (List.mem_of_getElem? (i := 31) (show am_wk23[31]? = some (Cond.code (am_mi 257).2.1 (am_mi 257).2.2.1 (am_mi 257).2.2.2.1 (am_mi 257).2.2.2.2.1) from rfl)), rfl⟩
theorem am_cw258 : Cond.code (am_mi 258).2.1 (am_mi 258).2.2.1 (am_mi 258).2.2.2.1 (am_mi 258).2.2.2.2.1 ∈ am_W := List.mem_filter.mpr ⟨am_u_am_wk24 _ (List.mem_of_getElem? (i := 3) (show am_wk24[3]? = some (Cond.code (am_mi 258).2.1 (am_mi 258).2.2.1 (am_mi 258).2.2.2.1 (am_mi 258).2.2.2.2.1) from rfl)), rfl⟩
theorem am_cw : ∀ mi : Nat, 0 < mi → mi < am_N → Cond.code (am_mi mi).2.1 (am_mi mi).2.2.1 (am_mi mi).2.2.2.1 (am_mi mi).2.2.2.2.1 ∈ am_W
  | 0, h, _ => absurd h (by omega)
  | 1, _, _ => am_cw1
  | 2, _, _ => am_cw2
  | 3, _, _ => am_cw3
  | 4, _, _ => am_cw4
  | 5, _, _ => am_cw5
  | 6, _, _ => am_cw6
  | 7, _, _ => am_cw7
  | 8, _, _ => am_cw8
  | 9, _, _ => am_cw9
  | 10, _, _ => am_cw10
  | 11, _, _ => am_cw11
  | 12, _, _ => am_cw12
  | 13, _, _ => am_cw13
  | 14, _, _ => am_cw14
  | 15, _, _ => am_cw15
  | 16, _, _ => am_cw16
  | 17, _, _ => am_cw17
  | 18, _, _ => am_cw18
  | 19, _, _ => am_cw19
  | 20, _, _ => am_cw20
  | 21, _, _ => am_cw21
  | 22, _, _ => am_cw22
  | 23, _, _ => am_cw23
  | 24, _, _ => am_cw24
  | 25, _, _ => am_cw25
  | 26, _, _ => am_cw26
  | 27, _, _ => am_cw27
  | 28, _, _ => am_cw28
  | 29, _, _ => am_cw29
  | 30, _, _ => am_cw30
  | 31, _, _ => am_cw31
  | 32, _, _ => am_cw32
  | 33, _, _ => am_cw33
  | 34, _, _ => am_cw34
  | 35, _, _ => am_cw35
  | 36, _, _ => am_cw36
  | 37, _, _ => am_cw37
  | 38, _, _ => am_cw38
  | 39, _, _ => am_cw39
  | 40, _, _ => am_cw40
  | 41, _, _ => am_cw41
  | 42, _, _ => am_cw42
  | 43, _, _ => am_cw43
  | 44, _, _ => am_cw44
  | 45, _, _ => am_cw45
  | 46, _, _ => am_cw46
  | 47, _, _ => am_cw47
  | 48, _, _ => am_cw48
  | 49, _, _ => am_cw49
  | 50, _, _ => am_cw50
  | 51, _, _ => am_cw51
  | 52, _, _ => am_cw52
  | 53, _, _ => am_cw53
  | 54, _, _ => am_cw54
  | 55, _, _ => am_cw55
  | 56, _, _ => am_cw56
  | 57, _, _ => am_cw57
  | 58, _, _ => am_cw58
  | 59, _, _ => am_cw59
  | 60, _, _ => am_cw60
  | 61, _, _ => am_cw61
  | 62, _, _ => am_cw62
  | 63, _, _ => am_cw63
  | 64, _, _ => am_cw64
  | 65, _, _ => am_cw65
  | 66, _, _ => am_cw66
  | 67, _, _ => am_cw67
  | 68, _, _ => am_cw68
  | 69, _, _ => am_cw69
  | 70, _, _ => am_cw70
  | 71, _, _ => am_cw71
  | 72, _, _ => am_cw72
  | 73, _, _ => am_cw73
  | 74, _, _ => am_cw74
  | 75, _, _ => am_cw75
  | 76, _, _ => am_cw76
  | 77, _, _ => am_cw77
  | 78, _, _ => am_cw78
  | 79, _, _ => am_cw79
  | 80, _, _ => am_cw80
  | 81, _, _ => am_cw81
  | 82, _, _ => am_cw82
  | 83, _, _ => am_cw83
  | 84, _, _ => am_cw84
  | 85, _, _ => am_cw85
  | 86, _, _ => am_cw86
  | 87, _, _ => am_cw87
  | 88, _, _ => am_cw88
  | 89, _, _ => am_cw89
  | 90, _, _ => am_cw90
  | 91, _, _ => am_cw91
  | 92, _, _ => am_cw92
  | 93, _, _ => am_cw93
  | 94, _, _ => am_cw94
  | 95, _, _ => am_cw95
  | 96, _, _ => am_cw96
  | 97, _, _ => am_cw97
  | 98, _, _ => am_cw98
  | 99, _, _ => am_cw99
  | 100, _, _ => am_cw100
  | 101, _, _ => am_cw101
  | 102, _, _ => am_cw102
  | 103, _, _ => am_cw103
  | 104, _, _ => am_cw104
  | 105, _, _ => am_cw105
  | 106, _, _ => am_cw106
  | 107, _, _ => am_cw107
  | 108, _, _ => am_cw108
  | 109, _, _ => am_cw109
  | 110, _, _ => am_cw110
  | 111, _, _ => am_cw111
  | 112, _, _ => am_cw112
  | 113, _, _ => am_cw113
  | 114, _, _ => am_cw114
  | 115, _, _ => am_cw115
  | 116, _, _ => am_cw116
  | 117, _, _ => am_cw117
  | 118, _, _ => am_cw118
  | 119, _, _ => am_cw119
  | 120, _, _ => am_cw120
  | 121, _, _ => am_cw121
  | 122, _, _ => am_cw122
  | 123, _, _ => am_cw123
  | 124, _, _ => am_cw124
  | 125, _, _ => am_cw125
  | 126, _, _ => am_cw126
  | 127, _, _ => am_cw127
  | 128, _, _ => am_cw128
  | 129, _, _ => am_cw129
  | 130, _, _ => am_cw130
  | 131, _, _ => am_cw131
  | 132, _, _ => am_cw132
  | 133, _, _ => am_cw133
  | 134, _, _ => am_cw134
  | 135, _, _ => am_cw135
  | 136, _, _ => am_cw136
  | 137, _, _ => am_cw137
  | 138, _, _ => am_cw138
  | 139, _, _ => am_cw139
  | 140, _, _ => am_cw140
  | 141, _, _ => am_cw141
  | 142, _, _ => am_cw142
  | 143, _, _ => am_cw143
  | 144, _, _ => am_cw144
  | 145, _, _ => am_cw145
  | 146, _, _ => am_cw146
  | 147, _, _ => am_cw147
  | 148, _, _ => am_cw148
  | 149, _, _ => am_cw149
  | 150, _, _ => am_cw150
  | 151, _, _ => am_cw151
  | 152, _, _ => am_cw152
  | 153, _, _ => am_cw153
  | 154, _, _ => am_cw154
  | 155, _, _ => am_cw155
  | 156, _, _ => am_cw156
  | 157, _, _ => am_cw157
  | 158, _, _ => am_cw158
  | 159, _, _ => am_cw159
  | 160, _, _ => am_cw160
  | 161, _, _ => am_cw161
  | 162, _, _ => am_cw162
  | 163, _, _ => am_cw163
  | 164, _, _ => am_cw164
  | 165, _, _ => am_cw165
  | 166, _, _ => am_cw166
  | 167, _, _ => am_cw167
  | 168, _, _ => am_cw168
  | 169, _, _ => am_cw169
  | 170, _, _ => am_cw170
  | 171, _, _ => am_cw171
  | 172, _, _ => am_cw172
  | 173, _, _ => am_cw173
  | 174, _, _ => am_cw174
  | 175, _, _ => am_cw175
  | 176, _, _ => am_cw176
  | 177, _, _ => am_cw177
  | 178, _, _ => am_cw178
  | 179, _, _ => am_cw179
  | 180, _, _ => am_cw180
  | 181, _, _ => am_cw181
  | 182, _, _ => am_cw182
  | 183, _, _ => am_cw183
  | 184, _, _ => am_cw184
  | 185, _, _ => am_cw185
  | 186, _, _ => am_cw186
  | 187, _, _ => am_cw187
  | 188, _, _ => am_cw188
  | 189, _, _ => am_cw189
  | 190, _, _ => am_cw190
  | 191, _, _ => am_cw191
  | 192, _, _ => am_cw192
  | 193, _, _ => am_cw193
  | 194, _, _ => am_cw194
  | 195, _, _ => am_cw195
  | 196, _, _ => am_cw196
  | 197, _, _ => am_cw197
  | 198, _, _ => am_cw198
  | 199, _, _ => am_cw199
  | 200, _, _ => am_cw200
  | 201, _, _ => am_cw201
  | 202, _, _ => am_cw202
  | 203, _, _ => am_cw203
  | 204, _, _ => am_cw204
  | 205, _, _ => am_cw205
  | 206, _, _ => am_cw206
  | 207, _, _ => am_cw207
  | 208, _, _ => am_cw208
  | 209, _, _ => am_cw209
  | 210, _, _ => am_cw210
  | 211, _, _ => am_cw211
  | 212, _, _ => am_cw212
  | 213, _, _ => am_cw213
  | 214, _, _ => am_cw214
  | 215, _, _ => am_cw215
  | 216, _, _ => am_cw216
  | 217, _, _ => am_cw217
  | 218, _, _ => am_cw218
  | 219, _, _ => am_cw219
  | 220, _, _ => am_cw220
  | 221, _, _ => am_cw221
  | 222, _, _ => am_cw222
  | 223, _, _ => am_cw223
  | 224, _, _ => am_cw224
  | 225, _, _ => am_cw225
  | 226, _, _ => am_cw226
  | 227, _, _ => am_cw227
  | 228, _, _ => am_cw228
  | 229, _, _ => am_cw229
  | 230, _, _ => am_cw230
  | 231, _, _ => am_cw231
  | 232, _, _ => am_cw232
  | 233, _, _ => am_cw233
  | 234, _, _ => am_cw234
  | 235, _, _ => am_cw235
  | 236, _, _ => am_cw236
  | 237, _, _ => am_cw237
  | 238, _, _ => am_cw238
  | 239, _, _ => am_cw239
  | 240, _, _ => am_cw240
  | 241, _, _ => am_cw241
  | 242, _, _ => am_cw242
  | 243, _, _ => am_cw243
  | 244, _, _ => am_cw244
  | 245, _, _ => am_cw245
  | 246, _, _ => am_cw246
  | 247, _, _ => am_cw247
  | 248, _, _ => am_cw248
  | 249, _, _ => am_cw249
  | 250, _, _ => am_cw250
  | 251, _, _ => am_cw251
  | 252, _, _ => am_cw252
  | 253, _, _ => am_cw253
  | 254, _, _ => am_cw254
  | 255, _, _ => am_cw255
  | 256, _, _ => am_cw256
  | 257, _, _ => am_cw257
  | 258, _, _ => am_cw258
  | k + 259, _, h => absurd (show k + 259 < 259 from h) (by omega)
