theorem o_last : True := trivial
