theorem ck_0 : (List.range' 0 5).all (fun k => c_met k && c_code k) = true := by decide +kernel
