theorem z46 : True := trivial

