theorem zz_probe2 : decode (byt 208) 0 = .ok (.new 7, 3) := D208_0
