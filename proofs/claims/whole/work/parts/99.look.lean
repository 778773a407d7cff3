theorem kh_look : kh_n (fun _ _ _ _ => 0) 13 = 3 := rfl
