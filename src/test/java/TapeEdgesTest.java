/** The bounds of promises 1 to 5 and of term I, each by the sentence that names it. */
public final class TapeEdgesTest extends Checks {
  private static final String HEAD = "table atoms 2 hours 9 holes 0;";
  private static final String FOUR_CLAIMS =
      HEAD + "claim worth 1 a;claim worth 2 b;claim worth 3 yes;claim worth 4 no;";
  private static final String TWO_STEPS = FOUR_CLAIMS + "step 1 from 0;step 2 from 1;";

  private static String times(int n, String text) {
    StringBuilder all = new StringBuilder();
    for (int i = 0; i < n; i++) {
      all.append(text);
    }
    return all.toString();
  }

  /** A text has a FAULT of a kind at the place of a mark, which is taken out of the text. */
  private static void faulty(int kind, String marked) {
    int place = marked.indexOf('^');
    faultyAt(kind, place, marked.substring(0, place) + marked.substring(place + 1));
  }

  private static void faultyAt(int kind, int place, String text) {
    ProvedTable x = new ProvedTable();
    due("table() of " + text, Texts.tell(x, text), -4);
    due("fault(0) of " + text, x.fault(0), kind);
    due("fault(1) of " + text, x.fault(1), place);
  }

  private static ProvedTable fine(int lines, String text) {
    ProvedTable x = new ProvedTable();
    due("table() of " + text, Texts.tell(x, text), lines);
    due("fault(0) of " + text, x.fault(0), 0);
    due("fault(1) of " + text, x.fault(1), -1);
    return x;
  }

  private static void newObject() {
    edge(1, "No TABLE");
    ProvedTable x = new ProvedTable();
    for (int what = 0; what <= 8; what++) {
      due("count(" + what + ")", x.count(what), 0);
    }
    due("salted()", x.salted(), -2);
    due("proved()", x.proved(), -2);
    due("unlike()", x.unlike(), -2);
    due("spare(0)", x.spare(0), -2);
    due("host(0)", x.host(0), -2);
    due("claim(0, 0)", x.claim(0, 0), -2);
    due("guest(0, 0)", x.guest(0, 0), -2);
    due("step(0, 0)", x.step(0, 0), -2);
    for (int slot = 0; slot < 4; slot++) {
      due("write to SLOT " + slot, x.write(slot, 0, 1L), -6);
    }
    for (int k = 0; k < 3; k++) {
      due("back(" + k + ")", x.back(k), -6);
    }
    due("end(1)", x.end(1), -1);
    due("end(0)", x.end(0), 0);
    due("table()", x.table(), 0);
  }

  private static void bytesComing() {
    edge(2, "Twenty bytes come behind the TAPE: how many it has");
    ProvedTable x = new ProvedTable();
    for (int i = 1; i <= 80; i++) {
      due("feed", x.feed(0, -1, MIN, MAX, 1), 20 * i);
      due("count(7)", x.count(7), 20 * i);
    }

    edge(2, "four of each number, the highest first");
    x = new ProvedTable();
    // "table atoms 2 hours " and "9 holes 10 ; claim w": all bytes unlike their neighbours.
    x.feed(0x7461626c, 0x65206174, 0x6f6d7320, 0x3220686f, 0x75727320);
    x.feed(0x3920686f, 0x6c657320, 0x3130203b, 0x20636c61, 0x696d2077);
    due("end(32)", x.end(32), 32);
    due("table()", x.table(), 1);
    due("count(1)", x.count(1), 9);
    due("count(2)", x.count(2), 10);
    for (int place = 0; place < 20; place++) {
      x = new ProvedTable();
      faultyAt(1, place, times(place, " ") + "@" + times(19 - place, " "));
    }
    x = new ProvedTable();
    x.feed(0x20202020, 0x20202080, 0x20202020, 0x20202020, 0x20202020);
    due("table() of a byte of 128", x.table(), -4);
    due("fault(1) of a byte of 128", x.fault(1), 7);
    x.feed(-1, -1, -1, -1, -1);
    due("table() of bytes of 255", x.table(), -4);
    due("fault(0) of bytes of 255", x.fault(0), 1);
    due("fault(1) of bytes of 255", x.fault(1), 0);

    edge(2, "NONE, and none come, if it would have more than 1,600");
    x = new ProvedTable();
    String full = "table atoms 2 hours 9 holes" + times(1571, " ") + "0;";
    Texts.feed(x, full);
    due("count(7)", x.count(7), 1600);
    due("feed beyond", x.feed(0x40404040, 1, 2, 3, 4), -1);
    due("count(7), as it was", x.count(7), 1600);
    due("table() of 1,600 bytes", x.table(), 1);
    for (int n = 1579; n <= 1582; n++) {
      x = new ProvedTable();
      Texts.feed(x, full);
      due("end", x.end(n), n);
      due("feed behind " + n, x.feed(0x20202020, 0x20202020, 0x20202020, 0x20202020, 0x20203b20),
          n <= 1580 ? n + 20 : -1);
      due("count(7)", x.count(7), n <= 1580 ? n + 20 : n);
    }
    x = new ProvedTable();
    Texts.feed(x, full.replace("0;", " "));
    due("end(1580)", x.end(1580), 1580);
    x.feed(0x20202020, 0x20202020, 0x20202020, 0x20202020, 0x20302040);
    due("table(), a FAULT at the last byte", x.table(), -4);
    due("fault(1), at the last byte", x.fault(1), 1599);
  }

  private static void endOfTape() {
    edge(3, "The TAPE has its first n bytes alone: n");
    ProvedTable x = new ProvedTable();
    Texts.feed(x, HEAD + "@");
    due("end(30)", x.end(30), 30);
    due("count(7)", x.count(7), 30);
    due("end(30), all of them", x.end(30), 30);
    due("table()", x.table(), 1);
    due("feed behind a cut", x.feed(0, 0, 0, 0, 0), 20);
    due("end(0)", x.end(0), 0);
    due("count(7)", x.count(7), 0);
    due("feed behind none", x.feed(0, 0, 0, 0, 0), 20);

    edge(3, "NONE, and nothing happens, if it has not so many, or n is below 0");
    int[] beyond = {21, 22, 1600, 1601, MAX, -1, -2, -20, MIN};
    for (int n : beyond) {
      due("end(" + n + ")", x.end(n), -1);
      due("count(7)", x.count(7), 20);
    }
    due("end(20)", x.end(20), 20);
    due("end(19)", x.end(19), 19);
    due("end(20), cut away", x.end(20), -1);
    x.table();
    due("end(1) of an empty TAPE", x.end(1), -1);
    due("end(0) of an empty TAPE", x.end(0), 0);
  }

  private static void readingTheTape() {
    edge(4, "The TAPE (empty then) is the TABLE: how many LINES");
    ProvedTable x = new ProvedTable();
    due("table()", Texts.tell(x, TWO_STEPS + "guest speed 1 knows 1;salt 0;"), 9);
    due("count(7)", x.count(7), 0);
    due("count(6)", x.count(6), 9);

    edge(4, "in place of another");
    due("table() of another", Texts.tell(x, HEAD), 1);
    due("count(3)", x.count(3), 0);
    due("count(4)", x.count(4), 0);
    due("count(5)", x.count(5), 0);
    due("claim(0, 0)", x.claim(0, 0), -2);
    due("proved()", x.proved(), 0);

    ProvedTable y = told(TWO_STEPS + "guest speed 1 knows 1;salt 0;");
    due("proved() of one", y.proved(), 7);
    due("table() of another", Texts.tell(y, TWO_STEPS + "salt 2;"), 8);
    due("proved() of another", y.proved(), 4);
    due("shortest(1) of another", y.shortest(1), -1);
    due("count(5) of another", y.count(5), 0);

    edge(4, "0: there is none then");
    due("table() of no bytes", x.table(), 0);
    due("fault(0) of no bytes", x.fault(0), 0);
    due("salted()", x.salted(), -2);
    due("count(0)", x.count(0), 0);
    x = fine(9, TWO_STEPS + "guest speed 1 knows 1;salt 0;");
    due("table() of blanks", Texts.tell(x, " \n \n"), 0);
    due("proved() of blanks", x.proved(), -2);
    due("count(0) of blanks", x.count(0), 0);

    edge(4, "-4: a FAULT (the TAPE is empty, all else stays)");
    x = fine(9, TWO_STEPS + "guest speed 1 knows 1;salt 0;");
    x.image(1);
    x.salt(1, 1);
    putRow(x, 2, 1);
    due("table() of a FAULT behind a whole TABLE", Texts.tell(x, HEAD + "claim worth 1 a;salt 0;@"), -4);
    due("count(7)", x.count(7), 0);
    int[] counts = {2, 9, 0, 4, 2, 1, 9, 0, 1};
    for (int what = 0; what < counts.length; what++) {
      due("count(" + what + ")", x.count(what), counts[what]);
    }
    due("proved()", x.proved(), 7);
    due("reads(2)", x.reads(2), 1);
    due("back(1)", x.back(1), 0);
    due("back(0)", x.back(0), -6);
    due("claim(1, 1)", x.claim(1, 1), 0);
    due("table() of no bytes behind a FAULT", x.table(), 0);
  }

  private static void latestFault() {
    edge(5, "NONE for another what, and ahead of any (what 1)");
    ProvedTable x = new ProvedTable();
    due("fault(0) ahead of any", x.fault(0), 0);
    due("fault(1) ahead of any", x.fault(1), -1);
    int[] others = {-1, 2, 3, MIN, MAX};
    for (int what : others) {
      due("fault(" + what + ") ahead of any", x.fault(what), -1);
    }
    due("table()", Texts.tell(x, HEAD + "salt 0;"), -4);
    for (int what : others) {
      due("fault(" + what + ")", x.fault(what), -1);
    }

    edge(5, "Of the latest table(), its FAULT, its place");
    due("fault(0)", x.fault(0), 2);
    due("fault(1)", x.fault(1), 35);
    Texts.feed(x, HEAD);
    x.image(0);
    x.back(0);
    due("fault(0), nothing read since", x.fault(0), 2);
    due("fault(1), nothing read since", x.fault(1), 35);
    due("table()", Texts.tell(x, "@"), -4);
    due("fault(0) of the latest", x.fault(0), 1);
    due("fault(1) of the latest", x.fault(1), 0);

    edge(5, "0 without, NONE without");
    due("table()", Texts.tell(x, HEAD), 1);
    due("fault(0)", x.fault(0), 0);
    due("fault(1)", x.fault(1), -1);
    Texts.tell(x, "@");
    due("table() of no bytes", x.table(), 0);
    due("fault(0)", x.fault(0), 0);
    due("fault(1)", x.fault(1), -1);
  }

  private static void firstLine() {
    edge(5, "I: table is the first LINE and no other");
    fine(1, HEAD);
    faulty(1, HEAD + "^" + HEAD);
    faulty(1, FOUR_CLAIMS + "^table");
    String[] others = {"claim worth 1 yes;", "salt 0;", "step 0 from 0;", "guest speed 1 knows 0;",
        "atoms 2;", "tables", "tabl", "and", ";", "1"};
    for (String other : others) {
      faulty(1, "^" + other + HEAD);
      faulty(1, " \n^" + other);
    }
    edge(5, "I: {LINE ;}");
    faulty(1, HEAD + "^;");
    faulty(1, "table atoms 2 hours 9 holes 0^");
    faulty(1, "table atoms 2 hours 9 holes 0 ^claim worth 1 a;");
    faulty(1, HEAD + "claim worth 1 a^");
    faulty(1, HEAD + "claim worth 1 a ^salt 0;");
    faulty(1, FOUR_CLAIMS + "salt 0^");
    faulty(1, FOUR_CLAIMS + "salt 0 ^1;");
    faulty(1, FOUR_CLAIMS + "step 1 from 0^");
    faulty(1, TWO_STEPS + "guest speed 1 knows 0^");
    faulty(1, TWO_STEPS + "guest speed 1 knows 0 ^guest");
    String[] strangers = {"atoms", "worth", "from", "knows", "a", "yes", "and", "claims", "x", "0"};
    for (String stranger : strangers) {
      faulty(1, HEAD + "^" + stranger + " 1;");
    }
  }

  /** A number within its bounds is fine, beyond them a FAULT at its place. */
  private static void bounds(int lines, String ahead, String behind, int least, int most) {
    fine(lines, ahead + least + behind);
    fine(lines, ahead + most + behind);
    fine(lines, ahead + "000" + least + behind);
    fine(lines, ahead + times(30, "0") + most + behind);
    if (least > 0) {
      faulty(2, ahead + "^" + (least - 1) + behind);
    }
    faulty(2, ahead + "^" + (most + 1) + behind);
    faulty(2, ahead + "^" + most + "0000000000" + behind);
    long[] wraps = {1L << 8, 1L << 16, 1L << 31, 1L << 32};
    for (long wrap : wraps) {
      faulty(2, ahead + "^" + (wrap + least) + behind);
    }
    java.math.BigInteger wide = java.math.BigInteger.ONE.shiftLeft(64);
    faulty(2, ahead + "^" + wide.add(java.math.BigInteger.valueOf(least)) + behind);
    faulty(2, ahead + "^" + times(400, "9") + behind);
    boolean mustCome = Character.isLetter(ahead.charAt(ahead.length() - 2));
    if (mustCome) {
      faulty(1, ahead + "^;");
    }
    faulty(1, ahead + "^a" + behind);
    faulty(1, ahead + "^-" + least + behind);
    faulty(1, ahead.stripTrailing() + " ^");
  }

  private static void numbersInBounds() {
    edge(5, "I: atoms 2 .. 4");
    bounds(1, "table atoms ", " hours 9 holes 0;", 2, 4);
    edge(5, "I: hours 1 .. 99");
    bounds(1, "table atoms 2 hours ", " holes 0;", 1, 99);
    edge(5, "I: holes 0 .. 100");
    bounds(1, "table atoms 2 hours 9 holes ", ";", 0, 100);
    edge(5, "I: worth 0 .. 99");
    bounds(2, HEAD + "claim worth ", " a;", 0, 99);
    edge(5, "I: speed 1 .. 9");
    bounds(8, TWO_STEPS + "guest speed ", " knows 0;", 1, 9);
    edge(5, "I: C: a CLAIM told ahead");
    bounds(6, FOUR_CLAIMS + "salt ", ";", 0, 3);
    bounds(6, FOUR_CLAIMS + "step ", " from 1;", 0, 3);
    bounds(6, FOUR_CLAIMS + "step 0 from ", ";", 0, 3);
    bounds(6, FOUR_CLAIMS + "step 0 from 1 ", ";", 0, 3);
    bounds(6, FOUR_CLAIMS + "step 0 from 1 2 ", ";", 0, 3);
    faulty(2, HEAD + "salt ^0;");
    faulty(2, HEAD + "step ^0 from 0;");
    faulty(2, HEAD + "claim worth 1 a;salt ^1;claim worth 1 b;");
    faulty(2, HEAD + "claim worth 1 a;step 0 from ^1;claim worth 1 b;");
    edge(5, "I: S a STEP told ahead");
    bounds(8, TWO_STEPS + "guest speed 1 knows ", ";", 0, 1);
    bounds(8, TWO_STEPS + "guest speed 1 knows 0 ", " 1;", 0, 1);
    faulty(2, FOUR_CLAIMS + "guest speed 1 knows ^0;");
    faulty(2, FOUR_CLAIMS + "step 0 from 1;guest speed 1 knows ^1;step 1 from 0;");
    edge(5, "I: salt: one that is none yet");
    faulty(2, FOUR_CLAIMS + "salt 2;salt 1;salt ^2;");
    fine(8, FOUR_CLAIMS + "salt 2;salt 0;salt 1;");
    faulty(2, FOUR_CLAIMS + "salt 3;salt ^3;");
  }

  private static void likeOnes() {
    edge(5, "I: PREMISES; like ones count once");
    ProvedTable x = fine(7, FOUR_CLAIMS + "step 0 from 1 1 1 1 1;step 0 from 1 2 1 2 3 3 2 1;");
    due("step(0, 1)", x.step(0, 1), 2);
    due("step(1, 1)", x.step(1, 1), 14);
    edge(5, "I: from one to three CLAIMS");
    faulty(1, FOUR_CLAIMS + "step 0 from ^;");
    faulty(1, FOUR_CLAIMS + "step 0 ^;");
    faulty(3, FOUR_CLAIMS + "step 0 from 0 1 2 ^3;");
    faulty(3, FOUR_CLAIMS + "step 0 from 3 2 3 1 2 ^0 9;");
    edge(5, "I: knows: like ones count once");
    x = fine(8, TWO_STEPS + "guest speed 1 knows 1 1 1 1 1 1 1 1 1 1 1 1 1 1;");
    due("guest(0, 1)", x.guest(0, 1), 2);
    faulty(1, TWO_STEPS + "guest speed 1 knows ^;");
    x = fine(18, FOUR_CLAIMS + times(12, "step 1 from 0;")
        + "guest speed 1 knows 0 1 2 3 4 5 6 7 8 9 10 11 0 11;");
    due("guest(0, 1), all twelve", x.guest(0, 1), 4095);
  }

  private static void atomsThereAre() {
    edge(5, "I: an atom: a, b, c, d (the first atoms of these)");
    String letters = "abcd";
    for (int atoms = 2; atoms <= 4; atoms++) {
      String head = "table atoms " + atoms + " hours 1 holes 0;claim worth 1 ";
      for (int atom = 0; atom < 4; atom++) {
        if (atom < atoms) {
          fine(2, head + letters.charAt(atom) + ";");
          fine(2, head + "not and a " + letters.charAt(atom) + ";");
        } else {
          faulty(1, head + "^" + letters.charAt(atom) + ";");
          faulty(1, head + "not and a ^" + letters.charAt(atom) + ";");
        }
      }
      faulty(1, head + "^e;");
      faulty(1, head + "^z;");
      faulty(1, head + "^aa;");
      faulty(1, head + "^ab;");
      faulty(1, head + "^` ;");
      faulty(1, head + "^A ;");
    }
    edge(5, "I: FORM: and FORM FORM | or FORM FORM | if FORM FORM | not FORM | yes | no | an atom");
    ProvedTable x = fine(8, HEAD + "claim worth 1 and a b;claim worth 1 or a b;claim worth 1 if a b;"
        + "claim worth 1 not a;claim worth 1 yes;claim worth 1 no;claim worth 1 b;");
    int[] holds = {8, 14, 13, 5, 15, 0, 12};
    for (int claim = 0; claim < holds.length; claim++) {
      due("holds(" + claim + ")", x.holds(claim), holds[claim]);
    }
    String[] joins = {"and", "or", "if"};
    for (String join : joins) {
      faulty(1, HEAD + "claim worth 1 " + join + " a ^;");
      faulty(1, HEAD + "claim worth 1 " + join + " ^;");
      faulty(1, HEAD + "claim worth 1 " + join + " a b ^a;");
      faulty(1, HEAD + "claim worth 1 " + join + " a ^1;");
      faulty(1, HEAD + "claim worth 1 " + join + " a^");
    }
    faulty(1, HEAD + "claim worth 1 ^;");
    faulty(1, HEAD + "claim worth 1 not ^;");
    faulty(1, HEAD + "claim worth 1 not a ^b;");
    faulty(1, HEAD + "claim worth 1 yes ^no;");
    faulty(1, HEAD + "claim worth 1 ^notb;");
    faulty(1, HEAD + "claim worth 1 ^yesno;");
    faulty(1, HEAD + "claim worth 1 ^from;");
  }

  private static void tokens() {
    edge(5, "I: TOKENS, blanks (32, 10) aside");
    for (int sign = 0; sign < 256; sign++) {
      String text = HEAD + (char) sign;
      if (sign == 32 || sign == 10) {
        fine(1, text);
      } else {
        faultyAt(1, 30, text);
      }
    }
    edge(5, "I: TOKENS, the longest: words (a .. z), numbers (digits), the sign ;");
    for (int sign = 0; sign < 256; sign++) {
      String text = "table atoms" + (char) sign + "2 hours 9 holes 0;";
      if (sign == 32 || sign == 10 || sign == '0') {
        fine(1, text);
      } else if (sign >= 'a' && sign <= 'z') {
        faultyAt(1, 6, text);
      } else if (sign >= '1' && sign <= '9') {
        faultyAt(2, 11, text);
      } else {
        faultyAt(1, 11, text);
      }
      text = "table atoms 2 hours 9 holes 0" + (char) sign + ";";
      if (sign == 32 || sign == 10 || sign == '0') {
        fine(1, text);
      } else if (sign >= '1' && sign <= '9') {
        fine(1, text);
      } else {
        faultyAt(1, sign == ';' ? 30 : 29, text);
      }
    }
    fine(8, "table\natoms2hours9holes0;claim worth1a;claim worth2b;claim\n\n worth3yes;salt0;"
        + "step1from0 2;step2from1;guest speed1knows0 1;");
    faulty(1, "^tableatoms 2 hours 9 holes 0;");
    faulty(1, "table atoms 2 ^hour 9 holes 0;");
    faulty(1, "table atoms 2 hours 9 ^holess 0;");
    faulty(1, "table atoms 2 hours 9 ^hol es 0;");
    faulty(2, "table atoms ^22 hours 9 holes 0;");
    faulty(1, "table atoms 2 ^2 hours 9 holes 0;");
    faulty(1, HEAD + "claim worth 1 ^00 a;");
  }

  private static void wordsAsTold() {
    edge(5, "I: a TOKEN that can't stand there: a word that is not as told");
    String whole = HEAD + "claim worth 1 and a or b if a not yes;claim worth 1 no;salt 0;"
        + "step 1 from 0;guest speed 1 knows 0;";
    fine(6, whole);
    for (int i = 0; i < whole.length(); i++) {
      char sign = whole.charAt(i);
      if (Character.isLetter(sign)) {
        int word = i;
        while (word > 0 && Character.isLetter(whole.charAt(word - 1))) {
          word--;
        }
        String behind = whole.substring(i + 1);
        faultyAt(1, word, whole.substring(0, i) + "z" + behind);
        faultyAt(1, word, whole.substring(0, i) + sign + sign + behind);
      }
    }
  }

  private static void tokensLeftOut() {
    edge(5, "I: a TOKEN that can't stand there: the one behind what is left out");
    String[] heads = {"^atoms 2 hours 9 holes 0;", "table ^2 hours 9 holes 0;",
        "table atoms ^hours 9 holes 0;", "table atoms 2 ^9 holes 0;", "table atoms 2 hours ^holes 0;",
        "table atoms 2 hours 9 ^0;", "table atoms 2 hours 9 holes ^;", "table atoms 2 hours 9 ^;",
        "table atoms 2 hours ^;", "table atoms 2 ^;", "table atoms ^;", "table ^;",
        "table ^hours 9 holes 0;", "table atoms 2 ^holes 0;", "table atoms 2 ^holes 0 hours 9;"};
    for (String head : heads) {
      faulty(1, head);
    }
    String[] lines = {"claim ^1 a;", "claim ^a;", "claim ^yes;", "claim ^not a;", "claim worth ^a;",
        "claim worth ^not a;", "claim worth 1 ^;", "claim worth ^;", "claim ^;", "salt ^;",
        "salt ^salt 0;", "step ^from 0;", "step 1 ^0;", "step 1 ^;", "step ^;", "step 1 from ^;",
        "step 1 from ^step", "guest ^1 knows 0;", "guest ^knows 0;", "guest speed ^knows 0;",
        "guest speed 1 ^0;", "guest speed 1 ^;", "guest speed ^;", "guest ^;", "guest ^0;",
        "guest speed 1 knows ^;", "guest speed 1 knows ^guest"};
    for (String line : lines) {
      faulty(1, TWO_STEPS + line);
    }
  }

  private static void firstByPlace() {
    edge(5, "I: FAULTS, the first by its place (a TOKEN's first byte)");
    faulty(2, "table atoms ^7 hours 0 holes @");
    faulty(1, "table atoms 2 ^@ 0 hours 0");
    faulty(2, FOUR_CLAIMS + "salt ^444 @;");
    faulty(3, FOUR_CLAIMS + "step 0 from 0 1 2 ^3 @");
    faulty(2, FOUR_CLAIMS + "step ^4 from 0 1 2 3;");
    faulty(1, HEAD + "claim worth 1 and ^@ not not not not not not not not not not a;");
    faulty(2, HEAD + "claim worth ^100 not not not not not not not not not not a;");
    edge(5, "I: its place (the end's)");
    String whole = "table atoms 2 hours 9 holes 0";
    for (int n = 1; n <= whole.length(); n++) {
      String text = whole.substring(0, n);
      boolean isCutWord = !" table atoms 2 hours 9 holes 0 ".contains(" " + text.substring(
          text.lastIndexOf(' ') + 1) + " ") && !text.endsWith(" ");
      int place = isCutWord ? text.lastIndexOf(' ') + 1 : n;
      faultyAt(1, place, text);
    }
    faultyAt(1, 8, "table \n ");
    faultyAt(1, 1600, "table" + times(1595, " "));
    edge(5, "I: of one place the least");
    faulty(2, FOUR_CLAIMS + "step 0 from 0 1 2 ^4;");
    faulty(1, FOUR_CLAIMS + "step 0 from 0 1 2 ^a;");
    String eight = HEAD + "claim worth 1 not not not not not not not not ";
    faulty(1, eight + "^c;");
    faulty(1, eight + "^;");
    faulty(1, eight + "^1;");
    faulty(1, eight + "^@;");
    faulty(1, eight + "^");
  }

  private static void oneTooMany() {
    edge(5, "I: a 13th claim, at its word");
    String claims = HEAD + times(12, "claim worth 1 a;");
    ProvedTable x = fine(13, claims);
    due("count(3)", x.count(3), 12);
    due("claim(11, 0)", x.claim(11, 0), 1);
    faulty(3, claims + "^claim");
    faulty(3, claims + "^claim worth 100 e;");
    faulty(3, claims + "salt 11;^claim;");
    edge(5, "I: a 13th step, at its word");
    String steps = claims + times(12, "step 11 from 0;");
    x = fine(25, steps);
    due("count(4)", x.count(4), 12);
    due("step(11, 0)", x.step(11, 0), 11);
    faulty(3, steps + "^step");
    faulty(3, steps + "^step 12 from;");
    faulty(3, steps + "salt 0;^step 0 from 0;");
    edge(5, "I: a 6th guest, at its word");
    String guests = steps + times(5, "guest speed 1 knows 11;");
    x = fine(30, guests);
    due("count(5)", x.count(5), 5);
    due("guest(4, 1)", x.guest(4, 1), 2048);
    faulty(3, guests + "^guest");
    faulty(3, guests + "^guest speed 0;");
    edge(5, "I: a fourth PREMISE, at it");
    faulty(3, FOUR_CLAIMS + "step 0 from 3 1 0 \n ^2;");
    edge(5, "I: a FORM within eight others (and, or, if, not), at its word");
    String[] joins = {"not ", "and a ", "or a ", "if a "};
    String[] leaves = {"a", "b", "yes", "no"};
    String[] words = {"and", "or", "if", "not"};
    for (String join : joins) {
      String seven = HEAD + "claim worth 1 " + times(7, join);
      for (String leaf : leaves) {
        fine(2, seven + leaf + ";");
        for (String word : words) {
          faulty(3, seven + word + " ^" + leaf + " a;");
          faulty(3, seven + word + " ^" + word + " " + leaf + " a;");
        }
      }
    }
    fine(2, HEAD + "claim worth 1 and and and and and and and a a a a a a a a;");
    faulty(3, HEAD + "claim worth 1 and and and and and and and and ^a a a a a a a a a;");
    faulty(3, HEAD + "claim worth 1 and and and and and and and a not ^a a a a a a a;");
    faulty(3, HEAD + "claim worth 1 and a or b if a not and a or b if a not ^b;");
    fine(2, HEAD + "claim worth 1 and or and a b if a b or and not a not b if yes no;");
  }

  public static void main(String[] args) {
    newObject();
    bytesComing();
    endOfTape();
    readingTheTape();
    latestFault();
    firstLine();
    numbersInBounds();
    likeOnes();
    atomsThereAre();
    tokens();
    wordsAsTold();
    tokensLeftOut();
    firstByPlace();
    oneTooMany();
    finish();
  }
}
