theorem z_last_dummy : True := trivial
