theorem zz_tb_good : lw_tbl.all (fun w => goodWord w || match w with | .codeWith .. => true | .codeSync .. => true | _ => false) = true := by decide +kernel
