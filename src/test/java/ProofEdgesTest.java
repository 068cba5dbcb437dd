/** The bounds of promises 25 to 42, 49 to 51, 59 to 62 and 66 to 71, each by its sentence. */
public final class ProofEdgesTest extends Checks {
  private static final String LIKE_CLAIMS = "claim worth 1 a;claim worth 2 a;claim worth 4 a;"
      + "claim worth 8 a;claim worth 16 a;claim worth 32 a;salt 0;";

  private static ProvedTable bare() {
    return told("table atoms 2 hours 1 holes 0;");
  }

  /** CLAIMS 0 to 5 that hold in like WORLDS, of which 0 is salt, within some hours. */
  private static ProvedTable laid(int hours, String steps) {
    return told("table atoms 2 hours " + hours + " holes 0;" + LIKE_CLAIMS + steps);
  }

  private static void shortestProofs() {
    ProvedTable x = board();
    edge(25, "NONE: it can't be; -2: there is no such CLAIM");
    dueInTurn("shortest", x::shortest, 0, 1, 2, 1, -1, -1, -1);
    dueForAll("shortest", x::shortest, NO_CLAIMS, -2);
    due("shortest(0) without a TABLE", new ProvedTable().shortest(0), -2);
    edge(25, "III: salt needs none");
    ProvedTable again = laid(9, "step 1 from 0; step 0 from 1;");
    due("shortest of salt that is given again", again.shortest(0), 0);
    due("proof of salt that is given again", again.proof(0), 0);

    edge(26, "NONE, -2 likewise");
    dueInTurn("proof", x::proof, 0, 1, 3, 8, -1, -1, -1);
    dueForAll("proof", x::proof, NO_CLAIMS, -2);
    edge(26, "III: the fewest; the least set (as bits)");
    ProvedTable fork = laid(20, "step 3 from 2; step 3 from 1; step 1 from 0; step 2 from 0;"
        + "step 3 from 0 3; step 4 from 3 2; step 5 from 0; step 5 from 0;");
    due("proof(3), of two as short", fork.proof(3), 6);
    due("shortest(3)", fork.shortest(3), 2);
    due("proof(4), with what it needs", fork.proof(4), 41);
    due("proof(5), of like STEPS", fork.proof(5), 64);
    ProvedTable few = laid(20, "step 1 from 0; step 2 from 1; step 3 from 2; step 3 from 4; step 4 from 0;");
    due("proof(3), the fewest ahead of the least", few.proof(3), 24);

    edge(27, "NONE: there is none such; -2 likewise");
    int[] beyond = {-1, 2, 3, 12, 32, MIN, MAX};
    dueForAll("bite(2, ..)", n -> x.bite(2, n), beyond, -1);
    dueInTurn("bite(.., 0)", n -> x.bite(n, 0), -1, 0, 0, 3, -1, -1, -1);
    dueInTurn("bite(.., 1)", n -> x.bite(n, 1), -1, -1, 1, -1, -1, -1, -1);
    dueForAll("bite(.., 0)", n -> x.bite(n, 0), NO_CLAIMS, -2);
    dueForAll("bite(.., -1)", n -> x.bite(n, -1), NO_CLAIMS, -2);
    dueForAll("bite(.., MAX)", n -> x.bite(n, MAX), NO_CLAIMS, -2);
    edge(27, "as they go, the least that goes each time");
    dueInTurn("bite(3, ..)", n -> fork.bite(3, n), 2, 1, -1);
    ProvedTable join = laid(20, "step 3 from 1 2; step 2 from 0; step 1 from 0; step 4 from 3;");
    dueInTurn("bite(4, ..)", n -> join.bite(4, n), 1, 2, 0, 3, -1);
    due("proof(4)", join.proof(4), 15);
  }

  private static void allProofs() {
    ProvedTable x = board();
    edge(28, "-2 likewise");
    dueForAll("proofs", x::proofs, NO_CLAIMS, -2);
    due("proofs(0) without a TABLE", new ProvedTable().proofs(0), -2);
    edge(28, "by none less (each alone left out)");
    dueInTurn("proofs", x::proofs, 1, 1, 1, 2, 0, 0, 0);
    StringBuilder twelve = new StringBuilder();
    for (int step = 0; step < 12; step++) {
      twelve.append("step 1 from 0;");
    }
    due("proofs(1) by each of twelve", laid(9, twelve.toString()).proofs(1), 12);
    ProvedTable wide = laid(9, "step 1 from 0; step 1 from 0; step 1 from 0; step 2 from 0;"
        + "step 2 from 0; step 2 from 0; step 3 from 0; step 3 from 0; step 3 from 0;"
        + "step 4 from 1 2 3; step 4 from 1 2 3; step 4 from 1 2 3;");
    due("proofs(4), three by three by three by three", wide.proofs(4), 81);
    due("needs(4)", wide.needs(4), 0);
    due("shortest(4)", wide.shortest(4), 4);
    due("proof(4)", wide.proof(4), 512 + 64 + 8 + 1);

    ProvedTable whole = laid(9, "step 1 from 0; step 2 from 1; step 3 from 2;");
    dueInTurn("proofs of a chain", whole::proofs, 1, 1, 1, 1, 0, 0);
    dueInTurn("needs of a chain", whole::needs, 0, 1, 3, 7, -1, -1);
    for (int left = 2; left >= 0; left--) {
      whole.drops();
    }
    dueInTurn("proofs without STEPS", whole::proofs, 1, 0, 0, 0, 0, 0);
    dueInTurn("needs without STEPS", whole::needs, 0, -1, -1, -1, -1, -1);

    edge(29, "NONE: it can't be. -2 likewise");
    dueInTurn("needs", x::needs, 0, 1, 3, 0, -1, -1, -1);
    dueForAll("needs", x::needs, NO_CLAIMS, -2);
    due("needs(0) without a TABLE", new ProvedTable().needs(0), -2);

    edge(30, "-2: there is none such");
    dueForAll("rests", x::rests, NO_STEPS, -2);
    due("rests(0) without a TABLE", new ProvedTable().rests(0), -2);
    edge(30, "that cannot be PROVED without a STEP, but can with it");
    dueInTurn("rests", x::rests, 6, 4, 0, 0, 0, 0);
    ProvedTable chain = laid(9, "step 1 from 0; step 2 from 1; step 3 from 2;");
    dueInTurn("rests of a chain", chain::rests, 14, 12, 8);
  }

  private static void menusByHours() {
    ProvedTable x = board();
    ProvedTable none = new ProvedTable();
    edge(31, "-2: there is none such");
    dueForAll("menu", x::menu, NO_GUESTS, -2);
    due("menu(0) without a TABLE", none.menu(0), -2);
    edge(32, "-2 likewise");
    dueForAll("course", x::course, NO_GUESTS, -2);
    due("course(0) without a TABLE", none.course(0), -2);
    edge(33, "-2 likewise");
    dueForAll("dishes", x::dishes, NO_GUESTS, -2);
    due("dishes(0) without a TABLE", none.dishes(0), -2);
    edge(31, "III: that it knows, not more than its hours let");
    dueInTurn("menu", x::menu, 14, 8, 0);
    dueInTurn("course", x::course, 7, 8, 0);
    dueInTurn("dishes", x::dishes, 14, 8, 0);
    int[] courses = {0, 0, 1, 1, 1, 3, 3, 3, 7, 7, 7, 7};
    for (int hours = 1; hours <= 12; hours++) {
      ProvedTable y = told(BOARD.replace("hours 10", "hours " + hours));
      due("course(0) in " + hours + " hours", y.course(0), courses[hours - 1]);
      due("course(1) in " + hours + " hours", y.course(1), hours < 5 ? 0 : 8);
      due("menu(0) in " + hours + " hours", y.menu(0), 2 * courses[hours - 1]);
    }
    edge(32, "III: the fewest, the least set");
    ProvedTable like = told("table atoms 2 hours 6 holes 0; claim worth 7 a; claim worth 0 a;"
        + "claim worth 5 a; claim worth 5 a; claim worth 5 a; claim worth 10 a; salt 0;"
        + "step 1 from 0; step 4 from 0; step 3 from 0; step 2 from 0; step 5 from 2;"
        + "step 5 from 1 1;"
        + "guest speed 6 knows 0 1 2 3 4; guest speed 3 knows 0 1 2 3 4; guest speed 2 knows 0;"
        + "guest speed 3 knows 0 1 2 3 5; guest speed 2 knows 1 2 5;");
    dueInTurn("menu", like::menu, 5, 15, 0, 10, 10);
    dueInTurn("course", like::course, 2, 24, 0, 6, 6);
    dueInTurn("dishes", like::dishes, 16, 36, 0, 24, 24);
    ProvedTable cheap = told("table atoms 2 hours 9 holes 0; claim worth 9 a; claim worth 1 a;"
        + "claim worth 0 a; salt 0; step 1 from 0; step 2 from 0; guest speed 1 knows 0 1;");
    due("menu(0) of a worth of 1", cheap.menu(0), 1);
    due("course(0) of a worth of 1", cheap.course(0), 1);
    due("dishes(0) of a worth of 1", cheap.dishes(0), 2);
    edge(33, "III: a CLAIM (no salt) that it PROVES itself");
    ProvedTable salty = told(BOARD + "salt 1;");
    due("menu(0), without what is salt", salty.menu(0), 12);
    due("course(0), without what is salt", salty.course(0), 6);
    due("dishes(0), without what is salt", salty.dishes(0), 12);
  }

  private static void setsOfDishes() {
    ProvedTable x = board();
    edge(34, "-2: there are none such");
    dueForAll("takes(.., 0)", n -> x.takes(n, 0), NO_GUESTS, -2);
    dueForAll("takes(0, ..)", n -> x.takes(0, n), NO_CLAIM_SETS, -2);
    due("takes(0, 0) without a TABLE", new ProvedTable().takes(0, 0), -2);
    due("takes(0, 0) without GUESTS", bare().takes(0, 0), -2);
    edge(34, "EAT all of a set (bits) of CLAIMS (salt in it aside)");
    dueInTurn("takes(0, ..)", n -> x.takes(0, n), 0, 0, 3, 3, 6, 6, 6, 6, 9, 9, 9, 9, 9, 9, 9, 9, -1, -1);
    due("takes(0, 127)", x.takes(0, 127), -1);
    due("takes(2, 1), salt", x.takes(2, 1), 0);
    edge(34, "NONE: it cannot, whatever hours there are");
    due("takes(1, 2)", x.takes(1, 2), -1);
    due("takes(1, 9)", x.takes(1, 9), 5);
    x.teach(2, 0, 1);
    x.teach(2, 1, 1);
    due("takes(2, 4), beyond the hours", x.takes(2, 4), 18);
    x.teach(2, 3, 1);
    due("takes(2, 14), beyond the hours", x.takes(2, 14), 27);

    ProvedTable y = board();
    edge(35, "-2: there is none such");
    dueForAll("who", y::who, NO_CLAIMS, -2);
    due("who(0) without a TABLE", new ProvedTable().who(0), -2);
    edge(35, "salt: all");
    due("who(0)", y.who(0), 7);
    ProvedTable hasty = told(BOARD.replace("hours 10", "hours 1"));
    dueInTurn("who in an hour", hasty::who, 7, 0, 0, 0, 0, 0, 0);
    edge(35, "within the hours");
    dueInTurn("who", y::who, 7, 1, 1, 3, 0, 0, 0);
    y.teach(1, 0, 1);
    due("who(2), just in the hours", y.who(2), 3);
    due("who(2), an hour less", told(BOARD.replace("hours 10", "hours 9").replace("knows 3 1",
        "knows 3 1 0")).who(2), 1);

    ProvedTable z = board();
    ProvedTable lasting = told(BOARD.replace("hours 10", "hours 99").replace("speed 3", "speed 1"));
    dueInTurn("who in 99 hours", lasting::who, 7, 1, 1, 3, 0, 0, 0);
    edge(36, "NONE: there is none; -2: there is no such set, no TABLE");
    dueInTurn("host", z::host, 4, 1, -1, 3, -1, -1, -1, 0);
    dueForAll("host", z::host, NO_GUEST_SETS, -2);
    due("host(0) without a TABLE", new ProvedTable().host(0), -2);
    due("host(0) without CLAIMS", bare().host(0), -1);
    due("host(1) without GUESTS", bare().host(1), -2);
    edge(36, "the first CLAIM that just a set of GUESTS (bits) can PROVE so");
    due("host(1), the first of two", z.host(1), 1);
    due("host(0), the first of three", z.host(0), 4);
    due("host(31) of five", told(BOARD + "guest speed 1 knows 4;guest speed 1 knows 4;").host(31), 0);
    due("host(32) of five", told(BOARD + "guest speed 1 knows 4;guest speed 1 knows 4;").host(32), -2);
  }

  private static void lemmas() {
    ProvedTable x = board();
    edge(37, "NONE: none brings more; -2: there is no such GUEST");
    dueInTurn("lemma", x::lemma, -1, 1, 6);
    dueForAll("lemma", x::lemma, NO_GUESTS, -2);
    due("lemma(0) without a TABLE", new ProvedTable().lemma(0), -2);
    edge(38, "By how much more. -2 likewise");
    dueInTurn("brings", x::brings, 0, 4, 16);
    dueForAll("brings", x::brings, NO_GUESTS, -2);
    due("brings(0) without a TABLE", new ProvedTable().brings(0), -2);
    edge(37, "the first of several");
    ProvedTable like = laid(9, "step 5 from 1; step 5 from 2; step 5 from 3; step 4 from 1;"
        + "guest speed 9 knows 2 1 3; guest speed 9 knows 2; guest speed 4 knows 0 3;");
    dueInTurn("lemma of like ones", like::lemma, 2, 3, 1);
    dueInTurn("brings of like ones", like::brings, 32, 32, 48);
    ProvedTable opening = told("table atoms 2 hours 9 holes 0; claim worth 5 a; claim worth 6 a;"
        + "claim worth 7 a; claim worth 8 a; salt 3; step 1 from 0; step 2 from 3;"
        + "guest speed 4 knows 0 1; guest speed 9 knows 1; guest speed 9 knows 0;");
    dueInTurn("lemma, the first CLAIM", opening::lemma, 0, -1, 0);
    dueInTurn("brings of the first CLAIM", opening::brings, 6, 0, 6);
    ProvedTable after = told("table atoms 2 hours 9 holes 0; claim worth 5 a; claim worth 6 a;"
        + "claim worth 7 a; claim worth 8 a; salt 3; step 2 from 3; step 1 from 0;"
        + "guest speed 4 knows 0 1;");
    due("menu(0) by the first STEP", after.menu(0), 7);
    due("brings(0) beyond the first STEP", after.brings(0), 6);
    edge(37, "worths of its MENU then, that CLAIM aside");
    ProvedTable aside = laid(9, "step 5 from 4; step 4 from 0; step 3 from 1;"
        + "guest speed 9 knows 0 1 2; guest speed 4 knows 0 1 2;");
    dueInTurn("menu", aside::menu, 16, 48);
    dueInTurn("lemma", aside::lemma, 4, -1);
    dueInTurn("brings", aside::brings, 16, 0);
  }

  private static void teams() {
    ProvedTable x = board();
    edge(39, "-2: there is no such set, no TABLE");
    dueInTurn("strength", x::strength, 0, 3, 2, 5, 1, 4, 3, 6);
    dueForAll("strength", x::strength, NO_GUEST_SETS, -2);
    due("strength(0) without a TABLE", new ProvedTable().strength(0), -2);
    due("strength(0) without GUESTS", bare().strength(0), 0);
    due("strength(1) without GUESTS", bare().strength(1), -2);
    edge(39, "IV: each hours by speed, cut");
    String chain = "step 1 from 0; step 2 from 1; step 3 from 2; step 4 from 3;";
    ProvedTable two = laid(5, chain + "guest speed 3 knows 0 1; guest speed 3 knows 2 3;");
    dueInTurn("strength", two::strength, 0, 1, 1, 2);
    dueInTurn("together(3, ..)", n -> two.together(3, n), 1, 1, 1, 0, 0, 0);
    ProvedTable longer = laid(6, chain + "guest speed 3 knows 0 1; guest speed 3 knows 2 3;");
    dueInTurn("together(3, ..) in six hours", n -> longer.together(3, n), 1, 1, 1, 1, 1, 0);
    due("strength of 99 and 99", told(BOARD.replace("hours 10", "hours 99").replace("speed 3", "speed 1")
        .replace("speed 5", "speed 1")).strength(3), 198);

    edge(40, "-2: there are none such");
    dueForAll("together(.., 0)", n -> x.together(n, 0), NO_GUEST_SETS, -2);
    dueForAll("together(0, ..)", n -> x.together(0, n), NO_CLAIMS, -2);
    due("together(0, 0) without a TABLE", new ProvedTable().together(0, 0), -2);
    due("together(0, 0) without CLAIMS", bare().together(0, 0), -2);
    edge(40, "IV: GUESTS of a set know all STEPS that some of them knows");
    dueInTurn("together(0, ..), nobody", n -> x.together(0, n), 1, 0, 0, 0, 0, 0, 0);
    dueInTurn("together(2, ..)", n -> x.together(2, n), 1, 0, 0, 1, 0, 0, 0);
    dueInTurn("together(3, ..)", n -> x.together(3, n), 1, 1, 1, 1, 0, 0, 0);

    ProvedTable lasting = told(BOARD.replace("hours 10", "hours 99").replace("speed 3", "speed 1"));
    dueInTurn("together(3, ..) in 99 hours", n -> lasting.together(3, n), 1, 1, 1, 1, 0, 0, 0);
    dueInTurn("team in 99 hours", lasting::team, 0, 1, 1, 1, -1, -1, -1);
    edge(41, "NONE: none do; -2: there is no such CLAIM");
    dueInTurn("fewest", x::fewest, 0, 1, 1, 1, -1, -1, -1);
    dueForAll("fewest", x::fewest, NO_CLAIMS, -2);
    due("fewest(0) without a TABLE", new ProvedTable().fewest(0), -2);
    edge(42, "NONE, -2 likewise");
    dueInTurn("team", x::team, 0, 1, 1, 1, -1, -1, -1);
    dueForAll("team", x::team, NO_CLAIMS, -2);
    due("team(0) without a TABLE", new ProvedTable().team(0), -2);
    edge(42, "the least set of so few");
    ProvedTable five = laid(1, "step 1 from 0; step 2 from 1; step 3 from 2; step 4 from 3; step 5 from 4;"
        + "guest speed 1 knows 2; guest speed 1 knows 0; guest speed 1 knows 1 2;"
        + "guest speed 1 knows 3 1; guest speed 1 knows 4 0;");
    dueInTurn("fewest of five", five::fewest, 0, 1, 2, 3, 4, 5);
    dueInTurn("team of five", five::team, 0, 2, 6, 7, 15, 31);
    due("fewest(5), without the hours", five.fewest(5), 5);
    five.teach(4, 4, 0);
    due("fewest(5), nobody knows the last STEP", five.fewest(5), -1);
    due("team(5), nobody knows the last STEP", five.team(5), -1);
  }

  private static void duels() {
    edge(49, "-2: there is no TABLE");
    ProvedTable none = new ProvedTable();
    due("duel() of a new object", none.duel(), -2);
    edge(50, "NONE: none; -2 likewise");
    due("move() of a new object", none.move(), -2);
    due("move() without STEPS", bare().move(), -1);
    edge(51, "-2 likewise");
    due("lasts() of a new object", none.lasts(), -2);
    due("lasts() without STEPS", bare().lasts(), 0);
    edge(49, "IV: who finds none has lost");
    due("duel() without STEPS", bare().duel(), 0);
    ProvedTable still = laid(9, "step 2 from 1; step 0 from 0;");
    due("duel(), no STEP goes", still.duel(), 0);
    due("move(), no STEP goes", still.move(), -1);
    due("lasts(), no STEP goes", still.lasts(), 0);
    edge(50, "The least STEP by which he does");
    ProvedTable x = board();
    due("duel() of three", x.duel(), 1);
    due("move() of three", x.move(), 0);
    due("lasts() of three", x.lasts(), 3);
    x.salt(1, 1);
    due("duel() of two", x.duel(), 0);
    due("move() of two", x.move(), -1);
    due("lasts() of two", x.lasts(), 2);
    x.salt(2, 1);
    due("duel() of one", x.duel(), 1);
    due("move() of one", x.move(), 2);
    due("lasts() of one", x.lasts(), 1);
    x.salt(3, 1);
    due("duel(), all PROVED", x.duel(), 0);
    StringBuilder claims = new StringBuilder("table atoms 2 hours 1 holes 0;claim worth 1 a;salt 0;");
    for (int claim = 1; claim < 12; claim++) {
      claims.append("claim worth 1 a;step ").append(claim).append(" from ").append(claim - 1).append(';');
    }
    due("lasts() of eleven", told(claims.toString()).lasts(), 11);
    due("duel() of eleven", told(claims.toString()).duel(), 1);
  }

  private static void famine() {
    ProvedTable x = board();
    edge(59, "-2: there is none such, it is no salt");
    dueForAll("falls", x::falls, NO_CLAIMS, -2);
    dueInTurn("falls", x::falls, 15, -2, -2, -2, -2, -2, -2);
    due("falls(0) without a TABLE", new ProvedTable().falls(0), -2);
    edge(59, "CLAIMS that are PROVED now and are not without one, that one too, if it is not");
    x.salt(1, 1);
    dueInTurn("falls of two that give each other", x::falls, 0, 0, -2);
    x.salt(5, 1);
    due("falls(5), that one alone", x.falls(5), 32);
    x.salt(6, 1);
    due("falls(6), and what it gives", x.falls(6), 80);
    x.salt(0, 0);
    due("falls(0), no salt any more", x.falls(0), -2);
    due("falls(1), all but some", x.falls(1), 15);

    ProvedTable y = board();
    edge(60, "NONE: they cannot by all; -2: there is no such set, no TABLE");
    dueForAll("spare", y::spare, NO_CLAIM_SETS, -2);
    due("spare(0) without a TABLE", new ProvedTable().spare(0), -2);
    due("spare(0) without CLAIMS", bare().spare(0), 0);
    due("spare(1) without CLAIMS", bare().spare(1), -2);
    dueInTurn("spare", y::spare, 0, 1, 1, 1, 1, 1, 1, 1, 1, 1, 1, 1, 1, 1, 1, 1, -1);
    due("spare(127)", y.spare(127), -1);
    edge(61, "NONE, -2 likewise");
    dueForAll("spared", y::spared, NO_CLAIM_SETS, -2);
    due("spared(0) without a TABLE", new ProvedTable().spared(0), -2);
    dueInTurn("spared", y::spared, 0, 1, 1, 1, 1, 1, 1, 1, 1, 1, 1, 1, 1, 1, 1, 1, -1);
    due("lemma(2), asked between", y.lemma(2), 6);
    due("spare(1) behind it", y.spare(1), 1);
    due("lemma(2), asked between", y.lemma(2), 6);
    due("spared(64) behind it", y.spared(64), -1);
    edge(61, "the least set of so few");
    y.salt(1, 1);
    due("spared(15), of two as few", y.spared(15), 1);
    due("spared(2), of two as few", y.spared(2), 1);
    y.drops();
    due("spare(1)", y.spare(1), 1);
    due("spared(1), which gives none", y.spared(1), 1);
    y.drops();
    y.drops();
    y.drops();
    y.salt(2, 1);
    due("spared(4), by itself or two others", y.spared(4), 1);
    y.drops();
    y.drops();
    due("spare(7) without STEPS", y.spare(7), 3);
    due("spared(6) without STEPS", y.spared(6), 6);
    due("spared(8) without STEPS", y.spared(8), -1);

    ProvedTable z = board();
    edge(62, "-2: there are none such");
    for (int is = 0; is < 2; is++) {
      int asked = is;
      dueForAll("salt(.., " + is + ")", n -> z.salt(n, asked), NO_CLAIMS, -2);
    }
    dueForAll("salt(0, ..)", n -> z.salt(0, n), NO_BITS, -2);
    dueForAll("salt(1, ..)", n -> z.salt(1, n), NO_BITS, -2);
    due("salt(0, 1) without a TABLE", new ProvedTable().salt(0, 1), -2);
    dueInTurn("claim(.., 1), as it was", n -> z.claim(n, 1), 1, 0, 0, 0, 0, 0, 0);
    edge(62, "what it was");
    due("salt(0, 1), salt already", z.salt(0, 1), 1);
    due("salt(1, 0), none already", z.salt(1, 0), 0);
    due("salt(6, 1)", z.salt(6, 1), 0);
    due("salt(6, 1)", z.salt(6, 1), 1);
    due("salt(6, 0)", z.salt(6, 0), 1);
    due("salt(6, 0)", z.salt(6, 0), 0);
    due("salt(0, 0)", z.salt(0, 0), 1);
    due("proved() without salt", z.proved(), 0);
  }

  private static void stepsMore() {
    ProvedTable x = board();
    edge(66, "-2: there are none such");
    dueForAll("adds(.., 1)", n -> x.adds(n, 1), NO_CLAIMS, -2);
    dueForAll("adds(0, ..)", n -> x.adds(0, n), NO_CLAIM_SETS, -2);
    due("adds(0, 1) without a TABLE", new ProvedTable().adds(0, 1), -2);
    due("adds(0, 1) without CLAIMS", bare().adds(0, 1), -2);
    edge(66, "a set (bits, one to three)");
    int[] tooMany = {0, 15, 23, 120, 127};
    dueForAll("adds(0, ..)", n -> x.adds(0, n), tooMany, -2);
    due("count(4), as it was", x.count(4), 6);
    due("adds(6, 64), one", x.adds(6, 64), 6);
    due("adds(5, 65), two", x.adds(5, 65), 7);
    due("adds(4, 112), three", x.adds(4, 112), 8);
    due("step(8, 0)", x.step(8, 0), 4);
    due("step(8, 1)", x.step(8, 1), 112);
    due("step(9, 0)", x.step(9, 0), -2);
    dueInTurn("guest(.., 1), nobody knows it", n -> x.guest(n, 1), 7, 10, 48);
    edge(66, "-3: there are twelve");
    due("adds, the tenth", x.adds(5, 1), 9);
    due("adds, the eleventh", x.adds(5, 1), 10);
    due("proved() by eleven", x.proved(), 47);
    due("adds, the twelfth", x.adds(6, 1), 11);
    due("adds, beyond", x.adds(4, 1), -3);
    due("count(4)", x.count(4), 12);
    due("proved() by twelve", x.proved(), 127);
    due("step(11, 0)", x.step(11, 0), 6);

    edge(67, "The last STEP is none any more (nobody knows it): how many there are");
    due("teach(1, 11, 1)", x.teach(1, 11, 1), 0);
    due("guest(1, 1)", x.guest(1, 1), 2058);
    due("drops()", x.drops(), 11);
    due("guest(1, 1)", x.guest(1, 1), 10);
    due("step(11, 0)", x.step(11, 0), -2);
    due("adds, the twelfth again", x.adds(6, 1), 11);
    due("guest(1, 1)", x.guest(1, 1), 10);
    due("adds, beyond again", x.adds(6, 1), -3);
    for (int guest = 0; guest < 3; guest++) {
      due("teach(.., 11, 1)", x.teach(guest, 11, 1), 0);
    }
    due("drops()", x.drops(), 11);
    dueInTurn("guest(.., 1), nobody knows it", n -> x.guest(n, 1), 7, 10, 48);
    for (int left = 10; left >= 0; left--) {
      due("drops()", x.drops(), left);
    }
    dueInTurn("guest(.., 1) without STEPS", n -> x.guest(n, 1), 0, 0, 0);
    ProvedTable five = told(BOARD + "guest speed 1 knows 5 4;guest speed 2 knows 0 5;");
    due("drops() among five", five.drops(), 5);
    dueInTurn("guest(.., 1) of five", n -> five.guest(n, 1), 7, 10, 16, 16, 1);
    edge(67, "-5: there is none; -2: there is no TABLE; -2 comes ahead of -5");
    due("drops(), none", x.drops(), -5);
    due("count(4)", x.count(4), 0);
    due("drops() of a new object", new ProvedTable().drops(), -2);
    due("drops() of a TABLE without STEPS", bare().drops(), -5);
    due("table() of no bytes", x.table(), 0);
    due("drops(), no TABLE any more", x.drops(), -2);

    ProvedTable y = board();
    edge(68, "-2: there are none such");
    dueForAll("teach(.., 0, 1)", n -> y.teach(n, 0, 1), NO_GUESTS, -2);
    dueForAll("teach(0, .., 1)", n -> y.teach(0, n, 1), NO_STEPS, -2);
    dueForAll("teach(0, 0, ..)", n -> y.teach(0, 0, n), NO_BITS, -2);
    due("teach(0, 0, 0) without a TABLE", new ProvedTable().teach(0, 0, 0), -2);
    dueInTurn("guest(.., 1), as it was", n -> y.guest(n, 1), 7, 10, 48);
    edge(68, "what it was");
    due("teach(0, 0, 1), known already", y.teach(0, 0, 1), 1);
    due("teach(0, 3, 0), not known", y.teach(0, 3, 0), 0);
    due("teach(2, 5, 0)", y.teach(2, 5, 0), 1);
    due("teach(2, 4, 0), the last", y.teach(2, 4, 0), 1);
    due("guest(2, 1), none", y.guest(2, 1), 0);
    due("teach(2, 5, 1)", y.teach(2, 5, 1), 0);
    due("guest(2, 1)", y.guest(2, 1), 32);
  }

  private static void feasts() {
    ProvedTable x = board();
    int[] noSeeds = {-1, MIN, 2000000001, MAX};
    edge(69, "-2: there is no such seed, no TABLE");
    dueForAll("drawn", x::drawn, noSeeds, -2);
    due("drawn(0) without a TABLE", new ProvedTable().drawn(0), -2);
    due("drawn(0) without STEPS", bare().drawn(0), 0);
    edge(69, "a seed (0 .. 2,000,000,000)");
    dueInTurn("drawn", x::drawn, 41, 45, 31);
    due("drawn(7)", x.drawn(7), 18);
    due("drawn(1999999999)", x.drawn(1999999999), 27);
    due("drawn(2000000000)", x.drawn(2000000000), 31);
    edge(69, "VII: x / 65536, cut, modulo 100; if it is below holes, nobody can go by it");
    // The draws of seed 2 are 8, 17, 39, 14, 37, 95; the first one of seed 0 is 0.
    int[][] seedTwo = {{0, 0}, {8, 0}, {9, 1}, {14, 1}, {15, 9}, {17, 9}, {18, 11}, {37, 11}, {38, 27},
        {39, 27}, {40, 31}, {95, 31}, {96, 63}, {100, 63}};
    for (int[] one : seedTwo) {
      due("drawn(2), holes " + one[0],
          told(BOARD.replace("holes 50", "holes " + one[0])).drawn(2), one[1]);
    }
    due("drawn(0), holes 0", told(BOARD.replace("holes 50", "holes 0")).drawn(0), 0);
    due("drawn(0), holes 1", told(BOARD.replace("holes 50", "holes 1")).drawn(0), 1);
    for (int step = 6; step < 12; step++) {
      x.adds(5, 1);
    }
    due("drawn(0) of twelve", x.drawn(0), 1001);

    ProvedTable y = board();
    edge(70, "-2 likewise, no such GUEST");
    dueForAll("feast(.., 0)", n -> y.feast(n, 0), noSeeds, -2);
    dueForAll("feast(0, ..)", n -> y.feast(0, n), NO_GUESTS, -2);
    due("feast(0, 0) without a TABLE", new ProvedTable().feast(0, 0), -2);
    dueInTurn("feast(7, ..)", n -> y.feast(7, n), 2, 8, 0);
    dueInTurn("feast(2000000000, ..)", n -> y.feast(2000000000, n), 0, 0, 0);
    due("menu(0), as it was", y.menu(0), 14);

    edge(71, "-2: there are none such");
    int[] noCounts = {-1, 0, 21, MIN, MAX};
    dueForAll("mean(.., 1, 0, 0)", n -> y.mean(n, 1, 0, 0), noSeeds, -2);
    dueForAll("mean(0, .., 0, 0)", n -> y.mean(0, n, 0, 0), noCounts, -2);
    dueForAll("mean(0, .., 0, 1)", n -> y.mean(0, n, 0, 1), noCounts, -2);
    dueForAll("mean(0, 1, .., 0)", n -> y.mean(0, 1, n, 0), NO_GUESTS, -2);
    dueForAll("mean(0, 1, 0, ..)", n -> y.mean(0, 1, 0, n), NO_BITS, -2);
    due("mean(0, 1, 0, 0) without a TABLE", new ProvedTable().mean(0, 1, 0, 0), -2);
    edge(71, "over n (1 .. 20) seeds, the seed and 1, .., above, below");
    int[][] means = {{0, 1, 0, 1, 0, 1}, {7, 1, 2, 1, 8, 1}, {3, 4, 3, 2, 4, 1}, {0, 20, 14, 5, 14, 5},
        {5, 3, 8, 3, 8, 1}, {6, 2, 1, 1, 8, 1}, {2000000000, 1, 0, 1, 0, 1},
        {1999999981, 20, 16, 5, 22, 5}};
    for (int[] one : means) {
      String call = "mean(" + one[0] + ", " + one[1] + ", ";
      due(call + "0, 0)", y.mean(one[0], one[1], 0, 0), one[2]);
      due(call + "0, 1)", y.mean(one[0], one[1], 0, 1), one[3]);
      due(call + "1, 0)", y.mean(one[0], one[1], 1, 0), one[4]);
      due(call + "1, 1)", y.mean(one[0], one[1], 1, 1), one[5]);
      due(call + "2, 0)", y.mean(one[0], one[1], 2, 0), 0);
      due(call + "2, 1), told as 0 / 1", y.mean(one[0], one[1], 2, 1), 1);
    }
  }

  public static void main(String[] args) {
    shortestProofs();
    allProofs();
    menusByHours();
    setsOfDishes();
    lemmas();
    teams();
    duels();
    famine();
    stepsMore();
    feasts();
    finish();
  }
}
