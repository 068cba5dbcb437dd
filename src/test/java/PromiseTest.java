/** Each promise by its number, with answers that were worked out by hand from the document. */
public final class PromiseTest extends Checks {
  private static final String FEAST = "table atoms 3 hours 12 holes 30 ;\n"
      + "claim worth 5 a ;\n"
      + "claim worth 3 if a b ;\n"
      + "claim worth 7 b ;\n"
      + "claim worth 9 and a b ;\n"
      + "claim worth 2 or c not c ;\n"
      + "claim worth 20 c ;\n"
      + "salt 0 ; salt 1 ;\n"
      + "step 2 from 0 1 ;\n"
      + "step 3 from 0 2 ;\n"
      + "step 4 from 5 ;\n"
      + "step 5 from 3 2 ;\n"
      + "step 5 from 2 ;\n"
      + "guest speed 2 knows 0 1 3 ;\n"
      + "guest speed 5 knows 4 0 2 0 ;\n"
      + "guest speed 3 knows 2 3 4 ;";

  private static ProvedTable feast() {
    ProvedTable x = new ProvedTable();
    due("table() of the feast", Texts.tell(x, FEAST), 17);
    return x;
  }

  /** A text has a FAULT of a kind at the place of a mark, which is taken out of the text. */
  private static void faulty(int kind, String marked) {
    int place = marked.indexOf('^');
    String text = marked.substring(0, place) + marked.substring(place + 1);
    ProvedTable x = feast();
    due("table() of " + text, Texts.tell(x, text), -4);
    due("fault(0) of " + text, x.fault(0), kind);
    due("fault(1) of " + text, x.fault(1), place);
    due("count(6), as it was", x.count(6), 17);
    due("count(7) behind a FAULT", x.count(7), 0);
  }

  private static void newTapeAndTable() {
    promise = 1;
    ProvedTable x = new ProvedTable();
    for (int what = 0; what <= 8; what++) {
      due("count", x.count(what), 0);
    }
    due("salted()", x.salted(), -2);
    due("claim(0, 0)", x.claim(0, 0), -2);
    due("fault(0)", x.fault(0), 0);
    due("fault(1)", x.fault(1), -1);

    promise = 2;
    for (int i = 1; i <= 80; i++) {
      due("feed", x.feed(0x20202020, 0x0a0a2020, 0x20202020, 0x20202020, 0x20202020), 20 * i);
    }
    due("feed beyond", x.feed(1, 2, 3, 4, 5), -1);
    due("count(7)", x.count(7), 1600);
    due("end(1581)", x.end(1581), 1581);
    due("feed beyond by one", x.feed(1, 2, 3, 4, 5), -1);
    due("end(1580)", x.end(1580), 1580);
    due("feed to the last", x.feed(1, 2, 3, 4, 5), 1600);

    promise = 3;
    due("end(1601)", x.end(1601), -1);
    due("end(-1)", x.end(-1), -1);
    due("count(7)", x.count(7), 1600);
    due("end(1600)", x.end(1600), 1600);
    due("end(7)", x.end(7), 7);
    due("end(8)", x.end(8), -1);
    due("end(0)", x.end(0), 0);
    // "table atoms 2 hours 9 holes 0;" has 30 bytes, the highest of each number first.
    due("feed", x.feed(0x7461626c, 0x65206174, 0x6f6d7320, 0x3220686f, 0x75727320), 20);
    due("feed", x.feed(0x3920686f, 0x6c657320, 0x303b6161, 0, 0), 40);
    due("end", x.end(30), 30);
    due("table()", x.table(), 1);
    due("count(1)", x.count(1), 9);

    promise = 4;
    due("table() of nothing", x.table(), 0);
    due("count(0) without", x.count(0), 0);
    due("proved() without", x.proved(), -2);
    x = feast();
    due("count(7)", x.count(7), 0);
    due("table() of another", Texts.tell(x, "table atoms 4 hours 99 holes 100 ; claim worth 0 d;"), 2);
    due("count(3)", x.count(3), 1);
    due("count(4)", x.count(4), 0);
    due("table() of blanks", Texts.tell(x, " \n  "), 0);
    due("count(3)", x.count(3), 0);
  }

  private static void faults() {
    promise = 5;
    String head = "table atoms 2 hours 9 holes 0 ; ";
    String two = head + "claim worth 1 a ; claim worth 2 b ; ";
    faulty(1, "^claim worth 1 a ;");
    faulty(1, "^;");
    faulty(1, "  ^4");
    faulty(1, head + "^table atoms 2 hours 9 holes 0 ;");
    faulty(1, head + "^;");
    faulty(1, head + "^stone 1;");
    faulty(1, head + "claim worth 1 a^");
    faulty(1, head + "claim worth 1 a \n ^");
    faulty(1, head + "claim worth 1 ^c ;");
    faulty(1, head + "claim worth 1 ^e ;");
    faulty(1, head + "claim worth 1 ^nota ;");
    faulty(1, head + "claim worth 1 ^az ;");
    faulty(1, head + "claim worth 1 a^` ;");
    faulty(1, head + "claim worth 1 a^/ ;");
    faulty(1, head + "claim worth 1^: a ;");
    faulty(2, head + "claim worth ^199 a ;");
    faulty(1, head + "claim worth 1 and a ^;");
    faulty(1, head + "claim worth 1 a ^b ;");
    faulty(1, head + "claim worth 1 ^7 ;");
    faulty(1, head + "claim worth ^a ;");
    faulty(1, head + "claim worth ^- 1 a ;");
    faulty(1, head + "claim worth 1 ^A ;");
    faulty(1, head + "claim worth 1 a ^\t;");
    faulty(1, two + "step 0 ^1 ;");
    faulty(1, two + "step 0 from ^;");
    faulty(1, two + "step 0 from 1 0 ^a;");
    faulty(1, two + "salt 1 ^0 ;");
    faulty(1, two + "step 0 from 1; guest speed 1 knows ^;");
    faulty(1, two + "step 0 from 1; guest speed 1 knows 0 ^knows;");
    faulty(2, "table atoms ^1 hours 9 holes 0 ;");
    faulty(2, "table atoms ^5 hours 9 holes 0 ;");
    faulty(2, "table atoms 2 hours ^0 holes 0 ;");
    faulty(2, "table atoms 2 hours ^100 holes 0 ;");
    faulty(2, "table atoms 2 hours 99 holes ^101 ;");
    faulty(2, "table atoms 2 hours 99 holes ^4294967296 ;");
    faulty(2, "table atoms 2 hours 99 holes ^18446744073709551616 ;");
    faulty(2, head + "claim worth ^100 a ;");
    faulty(2, head + "salt ^0 ;");
    faulty(2, two + "salt ^2 ;");
    faulty(2, two + "salt 1 ; salt ^1 ;");
    faulty(2, two + "step ^2 from 0 ;");
    faulty(2, two + "step 0 from 1 ^2 ;");
    faulty(2, two + "guest speed 1 knows ^0 ;");
    faulty(2, two + "step 0 from 1 ; guest speed ^0 knows 0 ;");
    faulty(2, two + "step 0 from 1 ; guest speed ^10 knows 0 ;");
    faulty(2, two + "step 0 from 1 ; guest speed 9 knows 0 ^1 ;");
    String four = two + "claim worth 3 no; claim worth 4 yes;";
    faulty(3, four + "step 0 from 0 1 2 ^3 ;");
    faulty(2, four + "step 0 from 0 1 2 ^4 ;");
    faulty(3, four + "step 0 from 0 1 1 2 0 ^3 4 ;");
    faulty(3, head + "claim worth 1 not not not not not not not not ^not a ;");
    faulty(3, head + "claim worth 1 not not not not not not not not ^a ;");
    faulty(3, head + "claim worth 1 and a and a or b if b and a and a and a and ^a yes ;");
    faulty(1, head + "claim worth 1 not not not not not not not not ^c ;");
    StringBuilder many = new StringBuilder(head);
    for (int i = 0; i < 12; i++) {
      many.append("claim worth 1 a;");
    }
    faulty(3, many + "^claim worth ;");
    for (int i = 0; i < 12; i++) {
      many.append("step 1 from 2;");
    }
    faulty(3, many + "^step");
    for (int i = 0; i < 5; i++) {
      many.append("guest speed 1 knows 0;");
    }
    faulty(3, many + "^guest");
    ProvedTable x = told(many + "salt 0;salt 1;salt 2;salt 11;");
    due("count(6)", x.count(6), 34);
    due("fault(1) without", x.fault(1), -1);
    due("fault(2)", x.fault(2), -1);
    due("fault(-1)", x.fault(-1), -1);
    x = told(head + "claim worth 007 not not not not not not not a;step 0 from 0 0 0 0 0;");
    due("claim(0, 0)", x.claim(0, 0), 7);
    due("holds(0)", x.holds(0), 5);
    due("step(0, 1)", x.step(0, 1), 1);
    due("table", Texts.tell(x, "tableatoms"), -4);
    due("fault(0)", x.fault(0), 1);
    due("fault(1)", x.fault(1), 0);
    due("table", Texts.tell(x, "table\natoms2hours9holes0;claim worth1yes;salt0;"), 3);
    due("fault(0)", x.fault(0), 0);
    due("fault(1)", x.fault(1), -1);
  }

  private static void tableAsTold() {
    ProvedTable x = feast();
    promise = 6;
    due("claim(5, 0)", x.claim(5, 0), 20);
    due("claim(0, 1)", x.claim(0, 1), 1);
    due("claim(2, 1)", x.claim(2, 1), 0);
    due("claim(1, 2)", x.claim(1, 2), 6);
    due("claim(4, 2)", x.claim(4, 2), 8);
    due("claim(6, 0)", x.claim(6, 0), -2);
    due("claim(-1, 0)", x.claim(-1, 0), -2);
    due("claim(0, 3)", x.claim(0, 3), -2);
    due("claim(0, -1)", x.claim(0, -1), -2);
    promise = 7;
    int[] holds = {170, 221, 204, 136, 255, 240};
    for (int claim = 0; claim < 6; claim++) {
      due("holds", x.holds(claim), holds[claim]);
    }
    due("holds(6)", x.holds(6), -2);
    due("holds(MIN)", x.holds(MIN), -2);
    ProvedTable four = told("table atoms 4 hours 1 holes 0; claim worth 0 yes; claim worth 0 d;"
        + "claim worth 0 no;");
    due("holds of yes", four.holds(0), 65535);
    due("holds of d", four.holds(1), 65280);
    due("holds of no", four.holds(2), 0);
    promise = 8;
    due("step(1, 0)", x.step(1, 0), 3);
    due("step(1, 1)", x.step(1, 1), 5);
    due("step(0, 2)", x.step(0, 2), 1);
    due("step(3, 2)", x.step(3, 2), 0);
    due("step(5, 0)", x.step(5, 0), -2);
    due("step(-1, 0)", x.step(-1, 0), -2);
    due("step(0, 3)", x.step(0, 3), -2);
    promise = 9;
    due("guest(1, 0)", x.guest(1, 0), 5);
    due("guest(1, 1)", x.guest(1, 1), 21);
    due("guest(1, 2)", x.guest(1, 2), 2);
    due("guest(0, 2)", x.guest(0, 2), 6);
    due("guest(3, 0)", x.guest(3, 0), -2);
    due("guest(0, 3)", x.guest(0, 3), -2);
    due("guest(-1, 1)", x.guest(-1, 1), -2);
  }

  private static void worlds() {
    ProvedTable x = feast();
    promise = 10;
    due("salted()", x.salted(), 136);
    due("salted() without salt", told("table atoms 2 hours 1 holes 0;").salted(), 15);
    promise = 11;
    int[] follows = {1, 1, 1, 1, 1, 0};
    for (int claim = 0; claim < 6; claim++) {
      due("follows", x.follows(claim), follows[claim]);
    }
    due("follows(6)", x.follows(6), -2);
    promise = 12;
    due("counter(5)", x.counter(5), 3);
    due("counter(3)", x.counter(3), -1);
    due("counter(-1)", x.counter(-1), -2);
    promise = 13;
    due("entails(0, 3)", x.entails(0, 3), 1);
    due("entails(3, 0)", x.entails(3, 0), 0);
    due("entails(2, 2)", x.entails(2, 2), 1);
    due("entails(0, 6)", x.entails(0, 6), -2);
    due("entails(-1, 0)", x.entails(-1, 0), -2);
    promise = 14;
    ProvedTable like = told("table atoms 2 hours 1 holes 0; claim worth 1 if a b;"
        + "claim worth 2 a; claim worth 3 or not a b; claim worth 4 if not b not a;");
    due("alike(0)", like.alike(0), 12);
    due("alike(1)", like.alike(1), 0);
    due("alike(3)", like.alike(3), 5);
    due("alike(4)", like.alike(4), -2);
    promise = 58;
    due("unlike()", like.unlike(), 2);
    due("unlike()", x.unlike(), 6);
    promise = 15;
    due("falsity(3)", x.falsity(3), 3);
    due("falsity(4)", x.falsity(4), 2);
    due("falsity(0)", x.falsity(0), -1);
    due("falsity(5)", x.falsity(5), -2);
    promise = 16;
    due("proved()", x.proved(), 63);
    promise = 17;
    due("wrong()", x.wrong(), 32);
    promise = 18;
    due("covered()", x.covered(), 0);
    x.drops();
    x.drops();
    due("proved() without two", x.proved(), 15);
    due("covered() without two", x.covered(), 16);
    due("wrong() without two", x.wrong(), 0);
  }

  private static void readings() {
    ProvedTable x = feast();
    promise = 19;
    due("reads(0) of nothing", x.reads(0), -6);
    due("reads(4)", x.reads(4), -2);
    due("reads(-1)", x.reads(-1), -2);
    putRow(x, 0, 0, 4, 1, 3, 2);
    due("reads(0)", x.reads(0), 3);
    promise = 20;
    due("why(0)", x.why(0), 2);
    promise = 21;
    due("reached(0)", x.reached(0), 47);
    promise = 22;
    due("eats(0, 1)", x.eats(0, 1), 27);
    due("eats(0, 0)", x.eats(0, 0), 7);
    due("eats(0, 2)", x.eats(0, 2), 0);
    due("eats(0, 3)", x.eats(0, 3), -100);
    due("eats(1, 0)", x.eats(1, 0), -600);
    due("eats(1, 3)", x.eats(1, 3), -100);
    due("eats(4, 0)", x.eats(4, 0), -100);
    putRow(x, 1, 0, 4, 2);
    due("eats(1, 1), out of hours", x.eats(1, 1), 27);
    putRow(x, 1, 0, 1, 3, 0);
    due("eats(1, 0)", x.eats(1, 0), 36);
    promise = 23;
    due("used(0, 5)", x.used(0, 5), 17);
    due("used(0, 3)", x.used(0, 3), 3);
    due("used(0, 0)", x.used(0, 0), 0);
    due("used(0, 4)", x.used(0, 4), 0);
    due("used(0, 6)", x.used(0, 6), -2);
    due("used(2, 6)", x.used(2, 6), -2);
    due("used(2, 5)", x.used(2, 5), -6);
    due("used(1, 5)", x.used(1, 5), 11);
    promise = 24;
    due("same(0, 1, 5)", x.same(0, 1, 5), 0);
    due("same(0, 1, 3)", x.same(0, 1, 3), 1);
    due("same(0, 1, 4)", x.same(0, 1, 4), 1);
    due("same(0, 0, 5)", x.same(0, 0, 5), 1);
    due("same(0, 2, 5)", x.same(0, 2, 5), -6);
    due("same(2, 0, 5)", x.same(2, 0, 5), -6);
    due("same(0, 4, 5)", x.same(0, 4, 5), -2);
    due("same(2, 4, 5)", x.same(2, 4, 5), -2);
    due("same(2, 0, 9)", x.same(2, 0, 9), -2);
    promise = 19;
    putRow(x, 3, 1, 5);
    due("reads(3), no STEP", x.reads(3), -2);
    due("same(3, 0, 5), no STEP", x.same(3, 0, 5), -2);
    due("same(0, 3, 5), no STEP", x.same(0, 3, 5), -2);
    due("same(3, 2, 5), asked last", x.same(3, 2, 5), -6);
    due("eats(3, 0), no STEP", x.eats(3, 0), -100);
    putRow(x, 3, -1);
    due("reads(3), below 0", x.reads(3), -2);
    putRow(x, 3, 1, 0);
    promise = 20;
    due("reads(3)", x.reads(3), 0);
    due("why(3)", x.why(3), 1);
    due("reached(3)", x.reached(3), 3);
    x.adds(0, 32);
    putRow(x, 3, 5);
    due("why(3), the least", x.why(3), 1);
    putRow(x, 3);
    due("reads(3), none", x.reads(3), 0);
    due("why(3), none", x.why(3), 0);
    putRow(x, 3, 0, 4, 2);
    due("why(3), all", x.why(3), 0);
    due("reads(3), all", x.reads(3), 3);
  }

  private static void proofs() {
    ProvedTable x = feast();
    promise = 25;
    int[] shortest = {0, 0, 1, 2, 3, 2};
    int[] proof = {0, 0, 1, 3, 21, 17};
    for (int claim = 0; claim < 6; claim++) {
      due("shortest", x.shortest(claim), shortest[claim]);
      promise = 26;
      due("proof", x.proof(claim), proof[claim]);
    }
    due("shortest(6)", x.shortest(6), -2);
    due("proof(-1)", x.proof(-1), -2);
    promise = 27;
    due("bite(4, 0)", x.bite(4, 0), 0);
    due("bite(4, 1)", x.bite(4, 1), 4);
    due("bite(4, 2)", x.bite(4, 2), 2);
    due("bite(4, 3)", x.bite(4, 3), -1);
    due("bite(4, -1)", x.bite(4, -1), -1);
    due("bite(0, 0)", x.bite(0, 0), -1);
    due("bite(6, -1)", x.bite(6, -1), -2);
    promise = 28;
    int[] proofs = {1, 1, 1, 1, 2, 2};
    int[] needs = {0, 0, 1, 3, 5, 1};
    for (int claim = 0; claim < 6; claim++) {
      promise = 28;
      due("proofs", x.proofs(claim), proofs[claim]);
      promise = 29;
      due("needs", x.needs(claim), needs[claim]);
    }
    due("needs(6)", x.needs(6), -2);
    due("proofs(6)", x.proofs(6), -2);
    promise = 30;
    int[] rests = {60, 8, 16, 0, 0};
    for (int step = 0; step < 5; step++) {
      due("rests", x.rests(step), rests[step]);
    }
    due("rests(5)", x.rests(5), -2);
    x.salt(0, 0);
    due("rests(0) in famine", x.rests(0), 0);
    promise = 25;
    due("shortest(5) in famine", x.shortest(5), -1);
    due("proof(5) in famine", x.proof(5), -1);
    due("bite(5, 0) in famine", x.bite(5, 0), -1);
    due("proofs(5) in famine", x.proofs(5), 0);
    due("needs(5) in famine", x.needs(5), -1);
    ProvedTable two = told("table atoms 2 hours 9 holes 0; claim worth 0 a; claim worth 0 b;"
        + "claim worth 0 a; claim worth 0 b; salt 0; step 3 from 1; step 3 from 2; step 2 from 0;"
        + "step 1 from 0;");
    promise = 26;
    due("proof(3), the least", two.proof(3), 6);
    due("bite(3, 0)", two.bite(3, 0), 2);
    due("bite(3, 1)", two.bite(3, 1), 1);
  }

  private static void menus() {
    ProvedTable x = feast();
    int[][] due = {{36, 11, 44}, {27, 17, 36}, {0, 0, 0}};
    for (int guest = 0; guest < 3; guest++) {
      promise = 31;
      due("menu", x.menu(guest), due[guest][0]);
      promise = 32;
      due("course", x.course(guest), due[guest][1]);
      promise = 33;
      due("dishes", x.dishes(guest), due[guest][2]);
    }
    due("menu(3)", x.menu(3), -2);
    due("course(3)", x.course(3), -2);
    due("dishes(-1)", x.dishes(-1), -2);
    ProvedTable equal = told("table atoms 2 hours 9 holes 0; claim worth 0 a; claim worth 5 b;"
        + "claim worth 0 a; claim worth 5 b; claim worth 0 b; salt 0; step 4 from 0; step 2 from 0;"
        + "step 3 from 0; step 1 from 0; guest speed 9 knows 0 1 2 3; guest speed 3 knows 0 1 3;");
    promise = 32;
    due("course, the least of as few", equal.course(0), 4);
    due("course, no STEP for nothing", equal.course(1), 8);
    promise = 34;
    due("takes(0, 8)", x.takes(0, 8), 4);
    due("takes(0, 12)", x.takes(0, 12), 4);
    due("takes(1, 16), beyond the hours", x.takes(1, 16), 15);
    due("takes(2, 4)", x.takes(2, 4), -1);
    due("takes(2, 3), salt", x.takes(2, 3), 0);
    due("takes(2, 0)", x.takes(2, 0), 0);
    due("takes(0, 64)", x.takes(0, 64), -2);
    due("takes(0, -1)", x.takes(0, -1), -2);
    due("takes(3, 0)", x.takes(3, 0), -2);
    promise = 35;
    int[] who = {7, 7, 3, 1, 0, 3};
    for (int claim = 0; claim < 6; claim++) {
      due("who", x.who(claim), who[claim]);
    }
    due("who(6)", x.who(6), -2);
    promise = 36;
    int[] host = {4, 3, -1, 2, -1, -1, -1, 0, -2};
    for (int set = 0; set < 9; set++) {
      due("host", x.host(set), host[set]);
    }
    due("host(-1)", x.host(-1), -2);
    promise = 37;
    due("lemma(0)", x.lemma(0), -1);
    due("lemma(1)", x.lemma(1), -1);
    due("lemma(2)", x.lemma(2), 2);
    due("lemma(3)", x.lemma(3), -2);
    promise = 38;
    due("brings(0)", x.brings(0), 0);
    due("brings(2)", x.brings(2), 22);
    due("brings(-1)", x.brings(-1), -2);
    ProvedTable lemmas = told("table atoms 2 hours 2 holes 0; claim worth 0 a; claim worth 9 a;"
        + "claim worth 9 a; claim worth 4 a; step 3 from 1; step 3 from 2; guest speed 1 knows 0 1;");
    promise = 37;
    due("lemma, the first of several", lemmas.lemma(0), 1);
    due("brings, that CLAIM aside", lemmas.brings(0), 4);
  }

  private static void teams() {
    ProvedTable x = feast();
    promise = 39;
    int[] strength = {0, 6, 2, 8, 4, 10, 6, 12, -2};
    for (int set = 0; set < 9; set++) {
      due("strength", x.strength(set), strength[set]);
    }
    due("strength(-1)", x.strength(-1), -2);
    promise = 40;
    due("together(4, 5)", x.together(4, 5), 0);
    due("together(2, 4)", x.together(2, 4), 0);
    due("together(6, 4)", x.together(6, 4), 1);
    due("together(0, 0)", x.together(0, 0), 1);
    due("together(0, 2)", x.together(0, 2), 0);
    due("together(8, 0)", x.together(8, 0), -2);
    due("together(1, 6)", x.together(1, 6), -2);
    promise = 41;
    due("fewest(4)", x.fewest(4), 2);
    due("fewest(5)", x.fewest(5), 1);
    due("fewest(0)", x.fewest(0), 0);
    due("fewest(6)", x.fewest(6), -2);
    promise = 42;
    due("team(4)", x.team(4), 3);
    due("team(5)", x.team(5), 1);
    due("team(0)", x.team(0), 0);
    due("team(-1)", x.team(-1), -2);
    x.salt(1, 0);
    due("fewest(2) in famine", x.fewest(2), -1);
    due("team(2) in famine", x.team(2), -1);
  }

  private static void teamsOfMany() {
    String claims = "";
    String steps = "";
    String guests = "";
    for (int i = 0; i < 5; i++) {
      claims += "claim worth 1 a;";
      steps += "step " + (i + 1) + " from " + i + ";";
      guests += "guest speed 1 knows " + i + ";";
    }
    ProvedTable x = told("table atoms 2 hours 1 holes 0;" + claims + "claim worth 1 b; salt 0;"
        + steps + guests);
    promise = 41;
    due("fewest(5), all", x.fewest(5), 5);
    due("fewest(4)", x.fewest(4), 4);
    promise = 42;
    due("team(5), all", x.team(5), 31);
    due("team(4)", x.team(4), 15);
    promise = 40;
    due("together(15, 5)", x.together(15, 5), 0);
    promise = 65;
    putRow(x, 0, 1, 2);
    due("lent(0, 0)", x.lent(0, 0), 2);
    due("lent(0, 1)", x.lent(0, 1), 1);
    due("lent(0, 2), nobody", x.lent(0, 2), 0);
  }

  private static void doubts() {
    ProvedTable x = feast();
    int[][] due = {{0, 0, 1, 1}, {0, 1, 0, 0}, {1, 0, 1, 0}, {1, 1, 1, 0}, {2, 0, 0, 0},
        {2, 1, 1, 2}, {3, 0, 0, 0}, {4, 1, 1, 0}, {5, 0, 1, 4}, {5, 1, 0, 0}};
    for (int[] one : due) {
      promise = 43;
      due("claims(" + one[0] + ", " + one[1] + ")", x.claims(one[0], one[1]), one[2]);
      promise = 44;
      due("outcome(" + one[0] + ", " + one[1] + ")", x.outcome(one[0], one[1]), one[3]);
    }
    due("claims(0, 2)", x.claims(0, 2), -2);
    due("claims(0, -1)", x.claims(0, -1), -2);
    due("claims(6, 0)", x.claims(6, 0), -2);
    due("outcome(0, 2)", x.outcome(0, 2), -2);
    due("outcome(-1, 0)", x.outcome(-1, 0), -2);
  }

  private static void kitchens() {
    ProvedTable x = feast();
    promise = 45;
    due("kitchen(0, 0)", x.kitchen(0, 0), -6);
    due("kitchen(0, 3)", x.kitchen(0, 3), -2);
    due("kitchen(4, 0)", x.kitchen(4, 0), -2);
    putRow(x, 0, 0, 0, 1, 4, 0, 1, 2, 2, 2, 3);
    due("kitchen(0, 0)", x.kitchen(0, 0), 4);
    due("kitchen(0, 1)", x.kitchen(0, 1), 10);
    due("kitchen(0, 2)", x.kitchen(0, 2), 38);
    due("kitchen(0, -1)", x.kitchen(0, -1), -2);
    promise = 46;
    int[] when = {0, 0, 2, 4, 10, 7};
    int[] shares = {0, 0, 1, 1, 4, 2};
    for (int claim = 0; claim < 6; claim++) {
      promise = 46;
      due("when", x.when(0, claim), when[claim]);
      promise = 47;
      due("shares", x.shares(0, claim), shares[claim]);
    }
    due("when(0, 6)", x.when(0, 6), -2);
    due("when(1, 6)", x.when(1, 6), -2);
    due("when(1, 0)", x.when(1, 0), -6);
    due("shares(0, -1)", x.shares(0, -1), -2);
    due("shares(1, 0)", x.shares(1, 0), -6);
    promise = 48;
    int[][] busy = {{4, 0}, {5, 2}, {3, 7}};
    for (int guest = 0; guest < 3; guest++) {
      due("busy", x.busy(0, guest, 0), busy[guest][0]);
      due("busy", x.busy(0, guest, 1), busy[guest][1]);
    }
    due("busy(0, 3, 0)", x.busy(0, 3, 0), -2);
    due("busy(0, 0, 2)", x.busy(0, 0, 2), -2);
    due("busy(1, 0, 2)", x.busy(1, 0, 2), -2);
    due("busy(1, 0, 0)", x.busy(1, 0, 0), -6);
    promise = 47;
    putRow(x, 1, 1, 0, 0, 0, 0, 1);
    due("shares(1, 2), given again", x.shares(1, 2), 3);
    due("when(1, 2), at the earlier hour", x.when(1, 2), 2);
    due("when(1, 3), by the earlier hour", x.when(1, 3), 4);
    due("when(1, 5)", x.when(1, 5), -1);
    due("kitchen(1, 1)", x.kitchen(1, 1), 5);
    due("kitchen(1, 2), once", x.kitchen(1, 2), 16);
    promise = 45;
    putRow(x, 2, 0, 4);
    due("kitchen(2, 0), does not know it", x.kitchen(2, 0), 0);
    due("kitchen(2, 1), without", x.kitchen(2, 1), 0);
    putRow(x, 2, 1, 0, 1, 4, 1, 2, 0, 0);
    due("kitchen(2, 0), not through in time ends it", x.kitchen(2, 0), 2);
    due("when(2, 2), not through in time ends it", x.when(2, 2), 5);
    putRow(x, 2, 0, 1, 0, 0);
    due("kitchen(2, 0), not PROVED ahead", x.kitchen(2, 0), 0);
    putRow(x, 2, 0, 0, 0);
    due("kitchen(2, 0), not two each", x.kitchen(2, 0), -2);
    due("busy(2, 0, 0), not two each", x.busy(2, 0, 0), -2);
    putRow(x, 2, 3, 0);
    due("kitchen(2, 0), no GUEST", x.kitchen(2, 0), -2);
    putRow(x, 2, 0, 1, 0, 5);
    due("kitchen(2, 0), no STEP", x.kitchen(2, 0), -2);
    due("when(2, 0), no STEP", x.when(2, 0), -2);
    putRow(x, 2);
    due("kitchen(2, 0), none", x.kitchen(2, 0), 0);
    due("kitchen(2, 2), none", x.kitchen(2, 2), 0);
    x.adds(0, 2);
    x.teach(1, 5, 1);
    putRow(x, 2, 1, 5, 0, 0);
    due("shares(2, 0), salt given again", x.shares(2, 0), 2);
    due("when(2, 0), salt given again", x.when(2, 0), 0);
    due("kitchen(2, 2), salt aside", x.kitchen(2, 2), 7);
    due("when(2, 2)", x.when(2, 2), 2);
  }

  private static void duels() {
    ProvedTable x = feast();
    promise = 49;
    due("duel()", x.duel(), 0);
    promise = 50;
    due("move()", x.move(), -1);
    promise = 51;
    due("lasts()", x.lasts(), 4);
    x.salt(2, 1);
    promise = 49;
    due("duel()", x.duel(), 1);
    promise = 50;
    due("move()", x.move(), 1);
    promise = 51;
    due("lasts()", x.lasts(), 3);
    ProvedTable none = told("table atoms 2 hours 1 holes 0;");
    due("duel() without STEPS", none.duel(), 0);
    due("move() without STEPS", none.move(), -1);
    due("lasts() without STEPS", none.lasts(), 0);
  }

  private static void saltSays() {
    ProvedTable x = feast();
    promise = 52;
    due("idle()", x.idle(), 0);
    x.salt(4, 1);
    due("idle() with what always holds", x.idle(), 16);
    x.salt(3, 1);
    due("idle(), each alone", x.idle(), 27);
    promise = 53;
    due("core()", x.core(), -1);
    due("cored()", x.cored(), -1);
    ProvedTable apart = told("table atoms 2 hours 1 holes 0; claim worth 0 a; claim worth 0 not b;"
        + "claim worth 0 b; claim worth 0 not a; claim worth 0 no; salt 0; salt 1; salt 2; salt 3;");
    due("core()", apart.core(), 2);
    promise = 54;
    due("cored()", apart.cored(), 6);
    apart.salt(4, 1);
    due("core()", apart.core(), 1);
    due("cored()", apart.cored(), 16);
    promise = 55;
    due("likely(0, 0), no WORLDS", apart.likely(0, 0), 0);
    due("likely(0, 1), no WORLDS", apart.likely(0, 1), 1);
    promise = 56;
    due("ask(), no WORLDS", apart.ask(), -1);
    promise = 57;
    due("leaves(), no WORLDS", apart.leaves(), 0);
    x = feast();
    promise = 55;
    due("likely(5, 0)", x.likely(5, 0), 1);
    due("likely(5, 1)", x.likely(5, 1), 2);
    due("likely(0, 0)", x.likely(0, 0), 1);
    due("likely(0, 1)", x.likely(0, 1), 1);
    due("likely(0, 2)", x.likely(0, 2), -2);
    due("likely(6, 0)", x.likely(6, 0), -2);
    x.salt(1, 0);
    x.salt(0, 0);
    due("likely(1, 0)", x.likely(1, 0), 3);
    due("likely(1, 1)", x.likely(1, 1), 4);
    promise = 56;
    due("ask(), the first of several", x.ask(), 0);
    promise = 57;
    due("leaves()", x.leaves(), 4);
    x = feast();
    promise = 56;
    due("ask()", x.ask(), 5);
    due("leaves()", x.leaves(), 1);
    x.salt(5, 1);
    due("ask() of one WORLD", x.ask(), -1);
    due("leaves() of one WORLD", x.leaves(), 1);
  }

  private static void famines() {
    ProvedTable x = feast();
    promise = 59;
    due("falls(0)", x.falls(0), 61);
    due("falls(1)", x.falls(1), 62);
    due("falls(2)", x.falls(2), -2);
    due("falls(6)", x.falls(6), -2);
    promise = 60;
    due("spare(12)", x.spare(12), 2);
    due("spare(2)", x.spare(2), 1);
    due("spare(0)", x.spare(0), 0);
    due("spare(64)", x.spare(64), -2);
    due("spare(-1)", x.spare(-1), -2);
    promise = 61;
    due("spared(12)", x.spared(12), 3);
    due("spared(2)", x.spared(2), 2);
    due("spared(0)", x.spared(0), 0);
    due("spared(64)", x.spared(64), -2);
    promise = 62;
    due("salt(2, 1)", x.salt(2, 1), 0);
    due("salt(2, 1)", x.salt(2, 1), 1);
    due("claim(2, 1)", x.claim(2, 1), 1);
    promise = 61;
    due("spare(32)", x.spare(32), 1);
    due("spared(32)", x.spared(32), 4);
    promise = 59;
    due("falls(0), 3 falls", x.falls(0), 9);
    due("falls(1), that one alone", x.falls(1), 2);
    due("falls(2), PROVED without", x.falls(2), 0);
    promise = 62;
    due("salt(2, 0)", x.salt(2, 0), 1);
    due("salt(0, 0)", x.salt(0, 0), 1);
    due("salt(0, 2)", x.salt(0, 2), -2);
    due("salt(0, -1)", x.salt(0, -1), -2);
    due("salt(6, 0)", x.salt(6, 0), -2);
    due("proved()", x.proved(), 2);
    promise = 60;
    due("spare(4), not by all", x.spare(4), -1);
    due("spared(4), not by all", x.spared(4), -1);
  }

  private static void eaten() {
    ProvedTable x = feast();
    promise = 63;
    due("ate(0)", x.ate(0), -6);
    due("ate(4)", x.ate(4), -2);
    putRow(x, 0, 2, 5);
    due("ate(0)", x.ate(0), 3);
    putRow(x, 0, 2, 3, 2);
    due("ate(0)", x.ate(0), 1);
    promise = 64;
    due("borrowed(0, 0)", x.borrowed(0, 0), -1);
    due("borrowed(0, 1)", x.borrowed(0, 1), 3);
    due("borrowed(0, 2)", x.borrowed(0, 2), 2);
    due("borrowed(0, 3)", x.borrowed(0, 3), -2);
    due("borrowed(1, 3)", x.borrowed(1, 3), -2);
    due("borrowed(1, 0)", x.borrowed(1, 0), -6);
    promise = 65;
    due("lent(0, 0), needs none", x.lent(0, 0), 0);
    due("lent(0, 1)", x.lent(0, 1), 1);
    due("lent(0, 2)", x.lent(0, 2), 1);
    due("lent(0, 3)", x.lent(0, 3), -2);
    due("lent(1, 0)", x.lent(1, 0), -6);
    putRow(x, 0, 5, 2);
    due("lent(0, 2), of two", x.lent(0, 2), 3);
    promise = 64;
    due("borrowed(0, 2), the first in the row", x.borrowed(0, 2), 5);
    promise = 63;
    putRow(x, 0, 4);
    due("ate(0), beyond the hours", x.ate(0), 0);
    due("borrowed(0, 1), whatever hours", x.borrowed(0, 1), -1);
    putRow(x, 0, 2, 0);
    due("ate(0), salt", x.ate(0), -2);
    due("borrowed(0, 0), salt", x.borrowed(0, 0), -2);
    due("lent(0, 0), salt", x.lent(0, 0), -2);
    putRow(x, 0, 6);
    due("ate(0), no CLAIM", x.ate(0), -2);
    putRow(x, 0);
    due("ate(0), nothing", x.ate(0), 7);
    due("borrowed(0, 0), nothing", x.borrowed(0, 0), -1);
  }

  private static void stepsToldAndTaken() {
    ProvedTable x = feast();
    promise = 66;
    due("adds(5, 0)", x.adds(5, 0), -2);
    due("adds(5, 15)", x.adds(5, 15), -2);
    due("adds(5, 64)", x.adds(5, 64), -2);
    due("adds(5, -1)", x.adds(5, -1), -2);
    due("adds(6, 1)", x.adds(6, 1), -2);
    due("adds(4, 7)", x.adds(4, 7), 5);
    due("step(5, 0)", x.step(5, 0), 4);
    due("step(5, 1)", x.step(5, 1), 7);
    due("count(4)", x.count(4), 6);
    due("count(6), as told", x.count(6), 17);
    due("shortest(4)", x.shortest(4), 2);
    due("guest(0, 1), nobody knows it", x.guest(0, 1), 11);
    promise = 68;
    due("teach(0, 5, 1)", x.teach(0, 5, 1), 0);
    due("teach(0, 5, 1)", x.teach(0, 5, 1), 1);
    due("guest(0, 1)", x.guest(0, 1), 43);
    due("who(4)", x.who(4), 1);
    due("teach(0, 0, 0)", x.teach(0, 0, 0), 1);
    due("guest(0, 1)", x.guest(0, 1), 42);
    due("teach(0, 6, 1)", x.teach(0, 6, 1), -2);
    due("teach(3, 0, 1)", x.teach(3, 0, 1), -2);
    due("teach(0, 0, 2)", x.teach(0, 0, 2), -2);
    promise = 67;
    due("drops()", x.drops(), 5);
    due("guest(0, 1)", x.guest(0, 1), 10);
    due("shortest(4)", x.shortest(4), 3);
    due("adds(4, 7) again", x.adds(4, 7), 5);
    due("guest(0, 1), nobody knows it again", x.guest(0, 1), 10);
    for (int step = 5; step >= 0; step--) {
      due("drops()", x.drops(), step);
    }
    due("drops(), none", x.drops(), -5);
    due("guest(0, 1)", x.guest(0, 1), 0);
    promise = 66;
    for (int step = 0; step < 12; step++) {
      due("adds", x.adds(2, 1), step);
    }
    due("adds, twelve", x.adds(2, 1), -3);
    due("count(4)", x.count(4), 12);
    promise = 67;
    due("drops() without a TABLE", new ProvedTable().drops(), -2);
  }

  private static void feasts() {
    ProvedTable x = feast();
    promise = 69;
    due("drawn(0)", x.drawn(0), drawnByHand(0, 5, 30));
    due("drawn(0)", x.drawn(0) & 1, 1);
    due("drawn(7)", x.drawn(7), drawnByHand(7, 5, 30));
    due("drawn(2000000000)", x.drawn(2000000000), drawnByHand(2000000000, 5, 30));
    due("drawn(2000000001)", x.drawn(2000000001), -2);
    due("drawn(-1)", x.drawn(-1), -2);
    promise = 70;
    due("feast(0, 0), its first STEP has a hole", x.feast(0, 0), 0);
    due("feast(0, 3)", x.feast(0, 3), -2);
    due("feast(-1, 0)", x.feast(-1, 0), -2);
    promise = 71;
    int sum = 0;
    for (int seed = 3; seed < 15; seed++) {
      sum += x.feast(seed, 0);
    }
    int above = x.mean(3, 12, 0, 0);
    int below = x.mean(3, 12, 0, 1);
    due("mean(3, 12, 0)", above * 12, sum * below);
    due("mean(3, 12, 0), lowest terms", java.math.BigInteger.valueOf(above)
        .gcd(java.math.BigInteger.valueOf(below)).intValue(), 1);
    due("mean(0, 1, 0, 0)", x.mean(0, 1, 0, 0), 0);
    due("mean(0, 1, 0, 1)", x.mean(0, 1, 0, 1), 1);
    due("mean(0, 0, 0, 0)", x.mean(0, 0, 0, 0), -2);
    due("mean(0, 21, 0, 0)", x.mean(0, 21, 0, 0), -2);
    due("mean(0, 1, 3, 0)", x.mean(0, 1, 3, 0), -2);
    due("mean(0, 1, 0, 2)", x.mean(0, 1, 0, 2), -2);
    due("mean(-1, 1, 0, 0)", x.mean(-1, 1, 0, 0), -2);
    due("mean(2000000001, 1, 0, 0)", x.mean(2000000001, 1, 0, 0), -2);
    ProvedTable whole = told(FEAST.replace("holes 30", "holes 0"));
    due("drawn(5) without holes", whole.drawn(5), 0);
    due("feast(5, 0) without holes", whole.feast(5, 0), 36);
    due("mean(5, 20, 0, 0) without holes", whole.mean(5, 20, 0, 0), 36);
    due("mean(5, 20, 0, 1) without holes", whole.mean(5, 20, 0, 1), 1);
    ProvedTable full = told(FEAST.replace("holes 30", "holes 100"));
    due("drawn(5) of holes", full.drawn(5), 31);
    due("feast(5, 0) of holes", full.feast(5, 0), 0);
  }

  private static int drawnByHand(int seed, int steps, int holes) {
    java.math.BigInteger x = java.math.BigInteger.valueOf(seed);
    int set = 0;
    for (int step = 0; step < steps; step++) {
      x = x.multiply(java.math.BigInteger.valueOf(1103515245))
          .add(java.math.BigInteger.valueOf(12345)).mod(java.math.BigInteger.ONE.shiftLeft(31));
      int draw = x.shiftRight(16).mod(java.math.BigInteger.valueOf(100)).intValue();
      set |= draw < holes ? 1 << step : 0;
    }
    return set;
  }

  private static void countsAndImages() {
    ProvedTable x = feast();
    promise = 72;
    int[] counts = {3, 12, 30, 6, 5, 3, 17, 0, 0};
    for (int what = 0; what < counts.length; what++) {
      due("count", x.count(what), counts[what]);
    }
    due("count(9)", x.count(9), -1);
    due("count(-1)", x.count(-1), -1);
    x.row(0, 0, 0);
    x.row(3, 3, 60);
    due("count(8)", x.count(8), 2);
    x.feed(0, 0, 0, 0, 0);
    due("count(7)", x.count(7), 20);
    x.end(0);
    promise = 73;
    due("image(3)", x.image(3), -2);
    due("image(-1)", x.image(-1), -2);
    due("image(2)", x.image(2), 0);
    promise = 74;
    due("back(3)", x.back(3), -2);
    due("back(-1)", x.back(-1), -2);
    due("back(0)", x.back(0), -6);
    x.salt(0, 0);
    x.drops();
    x.adds(0, 32);
    x.teach(0, 4, 1);
    due("proved() ahead of back", x.proved(), 2);
    due("back(2)", x.back(2), 0);
    due("proved()", x.proved(), 63);
    due("step(4, 0)", x.step(4, 0), 5);
    due("guest(0, 1)", x.guest(0, 1), 11);
    x.salt(0, 0);
    due("back(2), again", x.back(2), 0);
    due("claim(0, 1)", x.claim(0, 1), 1);
    due("table() of nothing", x.table(), 0);
    due("image(1) of no TABLE", x.image(1), 0);
    due("back(2)", x.back(2), 0);
    due("count(6)", x.count(6), 17);
    due("count(8), SLOTS stay", x.count(8), 2);
    due("back(1)", x.back(1), 0);
    due("count(6)", x.count(6), 0);
    due("salted()", x.salted(), -2);
  }

  private static void slots() {
    ProvedTable x = feast();
    promise = 75;
    due("row(4, 0, 1)", x.row(4, 0, 1), -2);
    due("row(-1, 0, 1)", x.row(-1, 0, 1), -2);
    due("row(0, 4, 1)", x.row(0, 4, 1), -2);
    due("row(0, -1, 1)", x.row(0, -1, 1), -2);
    due("row(0, 0, 61)", x.row(0, 0, 61), -2);
    due("row(4, 0, -1)", x.row(4, 0, -1), -2);
    due("row(0, 0, -1)", x.row(0, 0, -1), -3);
    due("count(8)", x.count(8), 0);
    due("row(0, 3, 60)", x.row(0, 3, 60), 0);
    due("row(0, 0, MIN), the SLOT stays", x.row(0, 0, MIN), -3);
    due("write(0, 59, 1)", x.write(0, 59, 1L), 0);
    due("row(0, 1, 2), another", x.row(0, 1, 2), 0);
    due("write(0, 2, 1)", x.write(0, 2, 1L), -7);
    due("reads(0), all 0", x.reads(0), 1);
    promise = 76;
    due("write(4, 0, 1)", x.write(4, 0, 1L), -2);
    due("write(1, 0, 1)", x.write(1, 0, 1L), -6);
    due("write(0, -1, 1)", x.write(0, -1, 1L), -7);
    for (int width = 0; width < 4; width++) {
      cutNumbers(width);
    }
    promise = 77;
    putRow(x, 0, 0, 1, 3, 2, 4);
    putRow(x, 1, 0, 0, 0);
    due("paste", x.paste(0, 1, 1, 1, 2), 0);
    due("reads(1)", x.reads(1), 3);
    due("paste(4, ..)", x.paste(4, 0, 1, 0, 1), -2);
    due("paste(.., -1, ..)", x.paste(0, 0, -1, 0, 1), -2);
    due("paste from nothing", x.paste(2, 0, 1, 0, 1), -6);
    due("paste to nothing", x.paste(1, 0, 2, 0, 1), -6);
    x.row(3, 1, 5);
    due("paste, other WIDTH", x.paste(0, 9, 3, 0, 1), -8);
    due("paste beyond", x.paste(0, 4, 1, 0, 2), -7);
    due("paste beyond the other", x.paste(0, 0, 1, 2, 2), -7);
    due("paste below", x.paste(0, -1, 1, 0, 1), -7);
    due("paste to below", x.paste(0, 0, 1, -1, 1), -7);
    due("paste below 0", x.paste(0, 0, 1, 0, -1), -7);
    due("paste none, at the end", x.paste(0, 5, 1, 3, 0), 0);
    due("paste none, beyond", x.paste(0, 6, 1, 0, 0), -7);
    due("paste none, beyond the other", x.paste(0, 0, 1, 4, 0), -7);
    due("paste, far beyond", x.paste(0, MAX, 1, 0, MAX), -7);
    due("reads(1), as it was", x.reads(1), 3);
    due("paste onto itself, up", x.paste(0, 0, 0, 1, 4), 0);
    due("reads(0), 0 0 1 3 2", x.reads(0), 1);
    due("paste onto itself, down", x.paste(0, 1, 0, 0, 4), 0);
    due("reads(0), 0 1 3 2 2", x.reads(0), 4);
  }

  private static void cutNumbers(int width) {
    ProvedTable x = feast();
    x.row(1, width, 1);
    for (int bits = 7; bits < 64; bits++) {
      x.write(1, 0, 4L + (1L << bits));
      boolean isCut = bits >= 8 << width;
      due("reads, cut to " + width + " at " + bits, x.reads(1), isCut ? 0 : -2);
      due("why", x.why(1), isCut ? 1 : -2);
    }
    x.write(1, 0, -256L * (1L << 8 * ((1 << width) - 1)));
    due("write of a number whose low bytes are 0", x.reads(1), 1);
  }

  private static void withoutTable() {
    promise = 1;
    ProvedTable x = new ProvedTable();
    x.row(0, 0, 2);
    int[] answers = {x.proved(), x.wrong(), x.covered(), x.reads(0), x.why(0), x.reached(0),
        x.used(0, 0), x.same(0, 0, 0), x.host(0), x.strength(0), x.together(0, 0), x.kitchen(0, 0),
        x.when(0, 0), x.shares(0, 0), x.busy(0, 0, 0), x.duel(), x.move(), x.lasts(), x.idle(),
        x.core(), x.cored(), x.ask(), x.leaves(), x.unlike(), x.spare(0), x.spared(0), x.ate(0),
        x.borrowed(0, 0), x.lent(0, 0), x.adds(0, 1), x.drops(), x.teach(0, 0, 0), x.drawn(0),
        x.feast(0, 0), x.mean(0, 1, 0, 0), x.kitchen(1, 0), x.reads(1)};
    for (int i = 0; i < answers.length; i++) {
      due("answer " + i + " without a TABLE", answers[i], -2);
    }
    due("eats(0, 0)", x.eats(0, 0), -100);
    due("eats(1, 0)", x.eats(1, 0), -100);
  }

  public static void main(String[] args) {
    newTapeAndTable();
    faults();
    tableAsTold();
    worlds();
    readings();
    proofs();
    menus();
    teams();
    teamsOfMany();
    doubts();
    kitchens();
    duels();
    saltSays();
    famines();
    eaten();
    stepsToldAndTaken();
    feasts();
    countsAndImages();
    slots();
    withoutTable();
    finish();
  }
}
