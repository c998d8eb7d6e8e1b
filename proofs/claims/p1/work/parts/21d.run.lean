set_option maxRecDepth 100000 in
theorem zshort0 : zrun 0 2147483648 2147483711 = true := by decide +kernel
set_option maxRecDepth 100000 in
theorem zshort1 : zrun 1 2147483648 2147483711 = true := by decide +kernel
set_option maxRecDepth 100000 in
theorem zshort2 : zrun 2 2147483648 2147483711 = true := by decide +kernel
set_option maxRecDepth 100000 in
theorem zshort3 : zrun 3 2147483648 2147483711 = true := by decide +kernel
set_option maxRecDepth 100000 in
theorem zshort4 : zrun 4 2147483648 2147483711 = true := by decide +kernel
set_option maxRecDepth 100000 in
theorem zshort5 : zrun 5 2147483648 2147483711 = true := by decide +kernel
set_option maxRecDepth 100000 in
theorem zop48 : zrun 6 2147483696 2147483711 = true := by decide +kernel
set_option maxRecDepth 100000 in
theorem zop0 : zrun 6 2147483648 2147483648 = true := by decide +kernel
set_option maxRecDepth 100000 in
theorem zop1 : zrun 6 2147483649 2147483649 = true := by decide +kernel
set_option maxRecDepth 100000 in
theorem zop4 : zrun 6 2147483652 2147483652 = true := by decide +kernel
set_option maxRecDepth 100000 in
theorem zop5 : zrun 6 2147483653 2147483653 = true := by decide +kernel
set_option maxRecDepth 100000 in
theorem zop6 : zrun 6 2147483654 2147483654 = true := by decide +kernel
set_option maxRecDepth 100000 in
theorem zop7 : zrun 6 2147483655 2147483655 = true := by decide +kernel
set_option maxRecDepth 100000 in
theorem zop8 : zrun 6 2147483656 2147483656 = true := by decide +kernel
set_option maxRecDepth 100000 in
theorem zop9 : zrun 6 2147483657 2147483657 = true := by decide +kernel
set_option maxRecDepth 100000 in
theorem zop10 : zrun 6 2147483658 2147483658 = true := by decide +kernel
set_option maxRecDepth 100000 in
theorem zop12 : zrun 6 2147483660 2147483660 = true := by decide +kernel
set_option maxRecDepth 100000 in
theorem zop13 : zrun 6 2147483661 2147483661 = true := by decide +kernel
set_option maxRecDepth 100000 in
theorem zop14 : zrun 6 2147483662 2147483662 = true := by decide +kernel
set_option maxRecDepth 100000 in
theorem zop15 : zrun 6 2147483663 2147483663 = true := by decide +kernel
set_option maxRecDepth 100000 in
theorem zop16 : zrun 6 2147483664 2147483664 = true := by decide +kernel
set_option maxRecDepth 100000 in
theorem zop18 : zrun 6 2147483666 2147483666 = true := by decide +kernel
set_option maxRecDepth 100000 in
theorem zop22 : zrun 6 2147483670 2147483670 = true := by decide +kernel
set_option maxRecDepth 100000 in
theorem zop27 : zrun 6 2147483675 2147483675 = true := by decide +kernel
set_option maxRecDepth 100000 in
theorem zop28 : zrun 6 2147483676 2147483676 = true := by decide +kernel
set_option maxRecDepth 100000 in
theorem zop29 : zrun 6 2147483677 2147483677 = true := by decide +kernel
set_option maxRecDepth 100000 in
theorem zop32 : zrun 6 2147483680 2147483680 = true := by decide +kernel
set_option maxRecDepth 100000 in
theorem zop33 : zrun 6 2147483681 2147483681 = true := by decide +kernel
set_option maxRecDepth 100000 in
theorem zop34 : zrun 6 2147483682 2147483682 = true := by decide +kernel
set_option maxRecDepth 100000 in
theorem zop35 : zrun 6 2147483683 2147483683 = true := by decide +kernel
set_option maxRecDepth 100000 in
theorem zop36 : zrun 6 2147483684 2147483684 = true := by decide +kernel
set_option maxRecDepth 100000 in
theorem zop37 : zrun 6 2147483685 2147483685 = true := by decide +kernel
set_option maxRecDepth 100000 in
theorem zop38 : zrun 6 2147483686 2147483686 = true := by decide +kernel
set_option maxRecDepth 100000 in
theorem zop39 : zrun 6 2147483687 2147483687 = true := by decide +kernel
set_option maxRecDepth 100000 in
theorem zop40 : zrun 6 2147483688 2147483688 = true := by decide +kernel
set_option maxRecDepth 100000 in
theorem zop41 : zrun 6 2147483689 2147483689 = true := by decide +kernel
set_option maxRecDepth 100000 in
theorem zop42 : zrun 6 2147483690 2147483690 = true := by decide +kernel
set_option maxRecDepth 100000 in
theorem zop43 : zrun 6 2147483691 2147483691 = true := by decide +kernel
set_option maxRecDepth 100000 in
theorem zop44 : zrun 6 2147483692 2147483692 = true := by decide +kernel
set_option maxRecDepth 100000 in
theorem zop46 : zrun 6 2147483694 2147483694 = true := by decide +kernel
set_option maxRecDepth 100000 in
theorem zop47 : zrun 6 2147483695 2147483695 = true := by decide +kernel
