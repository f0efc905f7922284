def R_law : String := "HexsteadLaw"
