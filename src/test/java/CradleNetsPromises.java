/** The promises one by one, with answers worked out by hand from the document: ordinary inputs, edges, wrong inputs. */
public final class CradleNetsPromises {
  private static final int UNKNOWN = -101, OUTSIDE = -102, STATE = -103, BOUND = -104, FULL = -105, NONE = -1;
  private static final long UNKNOWN_L = -9000000000000000001L;
  private static final long OUTSIDE_L = -9000000000000000002L;
  private static final long BOUND_L = -9000000000000000004L;
  private static final int[] FAR = {Integer.MIN_VALUE, -2, -1, 1000, Integer.MAX_VALUE};

  private static int wrong = 0;

  private static void due(String what, long got, long want) {
    if (got != want) { wrong++; System.out.println(what + " answered " + got + ", due is " + want); }
  }

  private static CradleNets withMakings(int n) {
    CradleNets x = new CradleNets();
    for (int i = 0; i < n; i++) due("making", x.making(), i);
    return x;
  }

  // Two makings: 0 makes 2 of good 0 from 1 of good 1; 1 makes 1 of good 1. Basket 0 holds 3 of good 0.
  // The table: (0,0) 4, (1,0) -2, (0,1) 0, (1,1) 1; ROUNDS 3/4 and 3/2.
  private static CradleNets chain() {
    CradleNets x = withMakings(2);
    x.out(0, 2);
    x.needs(0, 1, 1);
    x.put(0, 0, 3);
    x.emits(0, 1, 1, 5, 7);
    x.emits(1, 1, 10, 20, 31);
    return x;
  }

  // One making that needs 2 of its own good and makes 1: it runs backwards.
  private static CradleNets backwards() {
    CradleNets x = withMakings(1);
    x.needs(0, 0, 2);
    x.emits(0, 0, 1, 2, 4);
    x.put(0, 0, 5);
    return x;
  }

  private static CradleNets withoutRounds() {
    CradleNets x = withMakings(1);
    x.needs(0, 0, 1);
    return x;
  }

  private static void p1NewObject() {
    CradleNets x = new CradleNets();
    due("1 makings", x.count(0), 0);
    due("1 versions", x.count(1), 0);
    due("1 by-products", x.count(2), 0);
    due("1 entries", x.count(3), 0);
    due("1 worth", x.worth(), 1);
    due("1 digest", x.digest(), (151L * 31 + 0) * 31 + 1);
    for (int j = 0; j < 4; j++) x.making();
    for (int b = 0; b < 4; b++) for (int j = 0; j < 4; j++) due("1 basket", x.put(b, j, 1), 0);
    CradleNets y = new CradleNets();
    due("1 objects are apart", y.count(0), 0);
  }

  private static void p2Making() {
    CradleNets x = withMakings(4);
    due("2 full", x.making(), FULL);
    due("2 still four", x.count(0), 4);
    due("2 its good", x.put(0, 3, 1), 0);
    due("2 keep", x.keep(), 0);
    due("2 versions come before full", x.making(), STATE);
    CradleNets y = withMakings(1);
    y.keep();
    due("2 state", y.making(), STATE);
    due("2 still one", y.count(0), 1);
    CradleNets z = new CradleNets();
    z.keep();
    due("2 state without makings", z.making(), STATE);
  }

  private static void p3Out() {
    CradleNets x = withMakings(2);
    due("3 at first 1", x.out(1, 6), 1);
    due("3 what it was", x.out(1, 1), 6);
    due("3 below", x.out(1, 0), OUTSIDE);
    due("3 above", x.out(1, 7), OUTSIDE);
    due("3 unknown", x.out(2, 1), UNKNOWN);
    due("3 unknown first", x.out(2, 0), UNKNOWN);
    for (int far : FAR) due("3 far", x.out(far, 1), UNKNOWN);
    for (int far : FAR) due("3 far v", x.out(0, far), OUTSIDE);
    due("3 unchanged", x.told(1, 0), 1);
    due("3 other", x.told(0, 0), 1);
  }

  private static void p4Needs() {
    CradleNets x = withMakings(2);
    due("4 at first 0", x.needs(0, 1, 6), 0);
    due("4 what it was", x.needs(0, 1, 2), 6);
    due("4 its own", x.needs(1, 1, 3), 0);
    due("4 zero", x.needs(1, 1, 0), 3);
    due("4 below", x.needs(0, 1, -1), OUTSIDE);
    due("4 above", x.needs(0, 1, 7), OUTSIDE);
    due("4 unknown i", x.needs(2, 0, 1), UNKNOWN);
    due("4 unknown j", x.needs(0, 2, 9), UNKNOWN);
    for (int far : FAR) { due("4 far", x.needs(far, 0, 1), UNKNOWN); due("4 far", x.needs(0, far, 1), UNKNOWN); }
    due("4 unchanged", x.told(0, 5), 2);
  }

  private static void p5By() {
    CradleNets x = withMakings(3);
    due("5 at first 0", x.by(0, 2, 6), 0);
    due("5 what it was", x.by(0, 2, 1), 6);
    due("5 zero", x.by(0, 1, 0), 0);
    due("5 below", x.by(0, 2, -1), OUTSIDE);
    due("5 above", x.by(0, 2, 7), OUTSIDE);
    due("5 its own", x.by(1, 1, 0), OUTSIDE);
    due("5 unknown i", x.by(3, 3, 1), UNKNOWN);
    due("5 unknown j", x.by(0, 3, 7), UNKNOWN);
    for (int far : FAR) { due("5 far", x.by(far, 0, 1), UNKNOWN); due("5 far", x.by(0, far, 1), UNKNOWN); }
    due("5 unchanged", x.told(0, 10), 1);
  }

  private static void p6Emits() {
    CradleNets x = withMakings(1);
    due("6 ends", x.emits(0, 2, 0, 50, 100), 1);
    due("6 all like", x.emits(0, 1, 100, 100, 100), 1);
    due("6 least above told", x.emits(0, 2, 51, 50, 60), OUTSIDE);
    due("6 told above greatest", x.emits(0, 2, 40, 61, 60), OUTSIDE);
    due("6 least below 0", x.emits(0, 2, -1, 0, 0), OUTSIDE);
    due("6 greatest above 100", x.emits(0, 2, 0, 0, 101), OUTSIDE);
    due("6 all above 100", x.emits(0, 2, 101, 101, 101), OUTSIDE);
    due("6 far ends", x.emits(0, 2, Integer.MIN_VALUE, 0, Integer.MAX_VALUE), OUTSIDE);
    due("6 unknown i", x.emits(1, 0, 1, 0, 0), UNKNOWN);
    due("6 unknown k", x.emits(0, 3, 0, 0, 0), UNKNOWN);
    for (int far : FAR) { due("6 far", x.emits(far, 0, 0, 0, 0), UNKNOWN); due("6 far", x.emits(0, far, 0, 0, 0), UNKNOWN); }
    due("6 least", x.told(0, 14), 0);
    due("6 told", x.told(0, 17), 50);
    due("6 greatest", x.told(0, 20), 100);
    due("6 other stuff", x.told(0, 15), 0);
  }

  private static void p7Good() {
    CradleNets x = withMakings(2);
    due("7 ends", x.good(1, 5, 1), 1);
    due("7 weight 0", x.good(1, 0, 1), OUTSIDE);
    due("7 weight 6", x.good(1, 6, 1), OUTSIDE);
    due("7 price 0", x.good(1, 2, 0), OUTSIDE);
    due("7 price 6", x.good(1, 2, 6), OUTSIDE);
    due("7 unknown", x.good(2, 0, 0), UNKNOWN);
    for (int far : FAR) due("7 far", x.good(far, 1, 1), UNKNOWN);
    due("7 weight", x.told(1, 21), 5);
    due("7 price", x.told(1, 22), 1);
    due("7 other at first 1", x.told(0, 21), 1);
  }

  private static void p8Rule() {
    CradleNets x = withMakings(2);
    due("8 at first 0", x.rule(1, 2), 0);
    due("8 what it was", x.rule(1, 1), 2);
    due("8 back", x.rule(1, 0), 1);
    due("8 above", x.rule(1, 3), OUTSIDE);
    due("8 below", x.rule(1, -1), OUTSIDE);
    due("8 unknown", x.rule(2, 3), UNKNOWN);
    for (int far : FAR) due("8 far", x.rule(far, 0), UNKNOWN);
    due("8 unchanged", x.told(1, 1), 0);
  }

  private static void p9Told() {
    CradleNets x = withMakings(3);
    x.out(1, 3);
    for (int j = 0; j < 3; j++) x.needs(1, j, 1 + j);
    x.by(1, 0, 4);
    x.by(1, 2, 5);
    for (int k = 0; k < 3; k++) x.emits(1, k, 10 + k, 20 + k, 30 + k);
    x.good(0, 1, 5);
    x.good(1, 2, 4);
    x.good(2, 3, 2);
    // by weight: MAIN 3 * 2, ALL 6 + 4 * 1 + 5 * 3
    int[] want = {3, 0, 6, 25, 1, 2, 3, 0, 4, 0, 5, 0, 10, 11, 12, 20, 21, 22, 30, 31, 32, 2, 4};
    for (int what = 0; what <= 22; what++) due("9 told " + what, x.told(1, what), want[what]);
    x.rule(1, 1);
    due("9 main by price", x.told(1, 2), 12);
    due("9 all by price", x.told(1, 3), 12 + 4 * 5 + 5 * 2);
    x.rule(1, 2);
    due("9 main avoided", x.told(1, 2), 1);
    due("9 all avoided", x.told(1, 3), 1);
    int[] atFirst = {1, 0, 1, 1, 0, 0, 0, 0, 0, 0, 0, 0, 0, 0, 0, 0, 0, 0, 0, 0, 0, 1, 1};
    CradleNets y = withMakings(1);
    for (int what = 0; what <= 22; what++) due("9 at first " + what, y.told(0, what), atFirst[what]);
    due("9 above", x.told(1, 23), OUTSIDE);
    due("9 below", x.told(1, -1), OUTSIDE);
    due("9 unknown first", x.told(3, 23), UNKNOWN);
    for (int far : FAR) { due("9 far", x.told(far, 0), UNKNOWN); due("9 far", x.told(0, far), OUTSIDE); }
  }

  private static void p10Entry() {
    CradleNets x = withMakings(2);
    x.out(0, 3);
    x.needs(0, 0, 1);
    x.needs(0, 1, 2);
    x.by(0, 1, 5);
    x.good(0, 2, 4);
    x.good(1, 3, 1);
    due("10 weight (0,0)", x.entry(0, 0), 3 * 21 - 6);
    due("10 weight (1,0)", x.entry(1, 0), -12);
    x.rule(0, 1);
    due("10 price (0,0)", x.entry(0, 0), 3 * 17 - 12);
    due("10 price (1,0)", x.entry(1, 0), -24);
    x.rule(0, 2);
    due("10 avoided (0,0)", x.entry(0, 0), 2);
    due("10 avoided (1,0)", x.entry(1, 0), 3);
    due("10 nothing", x.entry(0, 1), 0);
    due("10 out times all", x.entry(1, 1), 3);
    due("10 unknown j", x.entry(2, 0), -1000000);
    due("10 unknown i", x.entry(0, 2), -1000000);
    for (int far : FAR) { due("10 far", x.entry(far, 0), -1000000); due("10 far", x.entry(0, far), -1000000); }
  }

  private static void p11Worth() {
    due("11 chain", chain().worth(), 4);
    due("11 backwards", backwards().worth(), -1);
    due("11 none", withoutRounds().worth(), 0);
    due("11 four", withMakings(4).worth(), 1);
    // only by-products count here: each making stands for the next one's good
    CradleNets x = withMakings(3);
    for (int i = 0; i < 3; i++) { x.rule(i, 2); x.needs(i, i, 1); }
    x.by(0, 1, 2);
    x.by(1, 2, 3);
    x.by(2, 0, 5);
    due("11 round a loop", x.worth(), 30);
    x.needs(1, 2, 4);
    due("11 less needed", x.worth(), -10);
  }

  private static void p12Put() {
    CradleNets x = withMakings(2);
    due("12 at first 0", x.put(3, 1, 20), 0);
    due("12 what it was", x.put(3, 1, 7), 20);
    due("12 other basket", x.put(2, 1, 0), 0);
    due("12 below", x.put(3, 1, -1), OUTSIDE);
    due("12 above", x.put(3, 1, 21), OUTSIDE);
    due("12 unknown b", x.put(4, 0, 1), UNKNOWN);
    due("12 unknown j", x.put(0, 2, 21), UNKNOWN);
    for (int far : FAR) { due("12 far", x.put(far, 0, 1), UNKNOWN); due("12 far", x.put(0, far, 1), UNKNOWN); }
    due("12 unchanged", x.put(3, 1, 0), 7);
  }

  private static void p13Runs() {
    CradleNets x = chain();
    due("13 runs 0", x.runs(0, 0), 1500);
    due("13 runs 1", x.runs(0, 1), 1500);
    due("13 empty basket", x.runs(1, 0), 0);
    due("13 backwards", backwards().runs(0, 0), -5000);
    CradleNets y = withMakings(1);
    y.out(0, 3);
    y.put(0, 0, 1);
    due("13 rounded down", y.runs(0, 0), 333);
    y.out(0, 1);
    y.needs(0, 0, 4);
    due("13 rounded down below 0", y.runs(0, 0), -334);
    due("13 unknown b", x.runs(4, 0), UNKNOWN_L);
    due("13 unknown i", x.runs(0, 2), UNKNOWN_L);
    for (int far : FAR) { due("13 far", x.runs(far, 0), UNKNOWN_L); due("13 far", x.runs(0, far), UNKNOWN_L); }
    due("13 bound", withoutRounds().runs(0, 0), BOUND_L);
    due("13 unknown before bound", withoutRounds().runs(0, 1), UNKNOWN_L);
  }

  private static void p14Total() {
    CradleNets x = chain();
    // MAIN are 2 and 1: 2 * 3/4 and 3/2 times what is emitted
    long[] above = {33, 75, 57};
    long[] below = {2, 2, 1};
    for (int side = 0; side < 3; side++) {
      due("14 above " + side, x.total(0, 1, side, 0), above[side]);
      due("14 below " + side, x.total(0, 1, side, 1), below[side]);
    }
    due("14 nothing above", x.total(0, 0, 1, 0), 0);
    due("14 nothing below", x.total(0, 0, 1, 1), 1);
    CradleNets y = backwards();
    due("14 least takes the greatest emission", y.total(0, 0, 0, 0), -20);
    due("14 told", y.total(0, 0, 1, 0), -10);
    due("14 greatest takes the least emission", y.total(0, 0, 2, 0), -5);
    due("14 below stays above 0", y.total(0, 0, 1, 1), 1);
    due("14 unknown b", x.total(4, 0, 3, 2), UNKNOWN_L);
    due("14 unknown k", x.total(0, 3, 3, 2), UNKNOWN_L);
    due("14 side", x.total(0, 0, 3, 0), OUTSIDE_L);
    due("14 part", x.total(0, 0, 0, 2), OUTSIDE_L);
    for (int far : FAR) {
      due("14 far", x.total(far, 0, 0, 0), UNKNOWN_L);
      due("14 far", x.total(0, far, 0, 0), UNKNOWN_L);
      due("14 far", x.total(0, 0, far, 0), OUTSIDE_L);
      due("14 far", x.total(0, 0, 0, far), OUTSIDE_L);
    }
    due("14 bound", withoutRounds().total(0, 0, 0, 0), BOUND_L);
    due("14 outside before bound", withoutRounds().total(0, 0, 3, 0), OUTSIDE_L);
  }

  private static void p15Share() {
    CradleNets x = chain();
    due("15 share 0", x.share(0, 1, 0), 7500);
    due("15 share 1", x.share(0, 1, 1), 30000);
    due("15 other stuff", x.share(0, 0, 1), 0);
    due("15 backwards", backwards().share(0, 0, 0), -10000);
    CradleNets y = withMakings(1);
    y.needs(0, 0, 4);
    y.put(0, 0, 1);
    y.emits(0, 0, 0, 1, 1);
    due("15 rounded down", y.share(0, 0, 0), -334);
    due("15 unknown b", x.share(4, 0, 0), UNKNOWN_L);
    due("15 unknown k", x.share(0, 3, 0), UNKNOWN_L);
    due("15 unknown i", x.share(0, 0, 2), UNKNOWN_L);
    for (int far : FAR) {
      due("15 far", x.share(far, 0, 0), UNKNOWN_L);
      due("15 far", x.share(0, far, 0), UNKNOWN_L);
      due("15 far", x.share(0, 0, far), UNKNOWN_L);
    }
    due("15 bound", withoutRounds().share(0, 0, 0), BOUND_L);
  }

  private static void p16Way() {
    CradleNets x = chain();
    due("16 one", x.way(0, 1, 0, NONE, NONE), 7500);
    due("16 two", x.way(0, 1, 0, 1, NONE), 30000);
    due("16 three, back again", x.way(0, 1, 0, 1, 0), 0);
    due("16 not held", x.way(0, 1, 1, NONE, NONE), 0);
    x.needs(1, 0, 3);
    // 3/4 * 2/1 * 3/4 * 10
    due("16 round the loop", x.way(0, 1, 0, 1, 0), 11250);
    due("16 unknown b", x.way(4, 1, 0, 0, 0), UNKNOWN_L);
    due("16 unknown k", x.way(0, 3, 0, 0, 0), UNKNOWN_L);
    due("16 unknown a", x.way(0, 1, 2, 2, NONE), UNKNOWN_L);
    due("16 a is no one", x.way(0, 1, NONE, NONE, NONE), UNKNOWN_L);
    due("16 unknown b2", x.way(0, 1, 0, 2, NONE), UNKNOWN_L);
    due("16 unknown c", x.way(0, 1, 0, 1, 2), UNKNOWN_L);
    due("16 unknown c before c without b2", x.way(0, 1, 0, NONE, 2), UNKNOWN_L);
    due("16 unknown c before like ones", x.way(0, 1, 0, 0, -2), UNKNOWN_L);
    due("16 c without b2", x.way(0, 1, 0, NONE, 1), OUTSIDE_L);
    due("16 a is b2", x.way(0, 1, 0, 0, NONE), OUTSIDE_L);
    due("16 b2 is c", x.way(0, 1, 0, 1, 1), OUTSIDE_L);
    for (int far : FAR) {
      due("16 far", x.way(far, 1, 0, 1, 0), UNKNOWN_L);
      due("16 far", x.way(0, far, 0, 1, 0), UNKNOWN_L);
      due("16 far", x.way(0, 1, far, 1, 0), UNKNOWN_L);
      if (far != NONE) due("16 far", x.way(0, 1, 0, far, 0), UNKNOWN_L);
      if (far != NONE) due("16 far", x.way(0, 1, 0, 1, far), UNKNOWN_L);
    }
    x.needs(1, 1, 1);
    due("16 bound, last", x.way(0, 1, 0, 1, NONE), BOUND_L);
    due("16 bound, between", x.way(0, 1, 0, 1, 0), BOUND_L);
    due("16 bound, first", x.way(0, 1, 1, NONE, NONE), BOUND_L);
    due("16 bound, third", withThirdStuck().way(0, 0, 0, 1, 2), BOUND_L);
    due("16 outside before bound", x.way(0, 1, 1, 1, NONE), OUTSIDE_L);
    due("16 others still go", x.way(0, 1, 0, NONE, NONE), 7500);
    // entry (1, 1) below 0 turns the sign: 3/4 * 2/-2 * 20
    x.needs(1, 1, 3);
    due("16 sign", x.way(0, 1, 0, 1, NONE), -15000);
    due("16 sign round the loop", x.way(0, 1, 0, 1, 0), -5625);
    x.needs(1, 1, 4);
    due("16 a third less", x.way(0, 1, 0, 1, 0), -3750);
    x.emits(0, 1, 0, 1, 1);
    x.needs(0, 0, 1);
    // entry (0, 0) is 2: 3/2 * 2/-3 * 3/2 * 2
    due("16 own need", x.way(0, 1, 0, 1, 0), -3000);
    x.needs(1, 0, 1);
    x.needs(1, 1, 6);
    x.put(0, 0, 1);
    // 1/2 * 2/-5 * 1/2 * 2, and then by -3
    due("16 small", x.way(0, 1, 0, 1, 0), -200);
    x.needs(1, 1, 4);
    due("16 rounded down", x.way(0, 1, 0, 1, 0), -334);
    // no ROUNDS, and ways all the same: the worth is 1 * 4 - 2 * 2
    CradleNets y = withMakings(2);
    y.needs(0, 1, 2);
    y.out(1, 2);
    y.needs(1, 0, 1);
    y.put(0, 0, 4);
    y.emits(1, 0, 0, 1, 1);
    due("16 worth", y.worth(), 0);
    due("16 needs no worth", y.way(0, 0, 0, 1, NONE), 4000);
  }

  private static CradleNets withThirdStuck() {
    CradleNets x = withMakings(3);
    x.needs(2, 2, 1);
    return x;
  }

  private static void p17Sure() {
    CradleNets x = withMakings(2);
    x.put(0, 0, 2);
    x.put(1, 1, 1);
    x.emits(0, 0, 3, 4, 5);
    x.emits(1, 0, 6, 9, 10);
    // 2 of 3..5 against 1 of 6..10
    due("17 not sure", x.sure(0, 1, 0), 0);
    due("17 nor the other way", x.sure(1, 0, 0), 0);
    x.emits(1, 0, 10, 10, 10);
    due("17 just so", x.sure(0, 1, 0), 1);
    due("17 not back", x.sure(1, 0, 0), 0);
    due("17 nothing of that stuff", x.sure(1, 0, 2), 1);
    due("17 itself", x.sure(0, 0, 0), 1);
    // doubts that both share: 3 of good 0 against 2 of good 0 and 1 of good 1
    x.emits(0, 0, 0, 50, 100);
    x.emits(1, 0, 100, 100, 100);
    x.put(0, 0, 3);
    x.put(1, 0, 2);
    due("17 shared doubts", x.sure(0, 1, 0), 1);
    x.emits(1, 0, 99, 100, 100);
    due("17 one too many", x.sure(0, 1, 0), 0);
    CradleNets y = backwards();
    due("17 backwards", y.sure(0, 1, 0), 1);
    due("17 backwards back", y.sure(1, 0, 0), 0);
    due("17 unknown a", x.sure(4, 0, 0), UNKNOWN);
    due("17 unknown b", x.sure(0, 4, 0), UNKNOWN);
    due("17 unknown k", x.sure(0, 0, 3), UNKNOWN);
    for (int far : FAR) {
      due("17 far", x.sure(far, 0, 0), UNKNOWN);
      due("17 far", x.sure(0, far, 0), UNKNOWN);
      due("17 far", x.sure(0, 0, far), UNKNOWN);
    }
    due("17 bound", withoutRounds().sure(0, 0, 0), BOUND);
    due("17 unknown before bound", withoutRounds().sure(0, 4, 0), UNKNOWN);
    due("17 no makings", new CradleNets().sure(0, 1, 0), 1);
  }

  private static void p18Most() {
    CradleNets x = chain();
    due("18 most", x.most(0, 1), 1);
    due("18 all like", x.most(0, 0), 0);
    x.emits(0, 1, 20, 20, 20);
    due("18 the least of like ones", x.most(0, 1), 0);
    x.emits(0, 1, 19, 19, 20);
    due("18 by what is told", x.most(0, 1), 1);
    CradleNets y = withMakings(2);
    y.needs(0, 0, 2);
    y.put(0, 0, 5);
    y.emits(0, 0, 9, 9, 9);
    due("18 nothing is more than below 0", y.most(0, 0), 1);
    due("18 no makings", new CradleNets().most(0, 0), NONE);
    due("18 unknown b", x.most(4, 0), UNKNOWN);
    due("18 unknown k", x.most(0, 3), UNKNOWN);
    due("18 unknown without makings", new CradleNets().most(4, 0), UNKNOWN);
    for (int far : FAR) { due("18 far", x.most(far, 0), UNKNOWN); due("18 far", x.most(0, far), UNKNOWN); }
    due("18 bound", withoutRounds().most(0, 0), BOUND);
  }

  // 1/62 and 1/61 are both 16 in THOUSANDTHS: the fractions tell which is more.
  private static void p18ByFractions() {
    CradleNets x = withMakings(4);
    x.good(2, 5, 1);
    x.good(3, 5, 1);
    for (int i = 0; i < 2; i++) {
      x.by(i, 2, 6);
      x.by(i, 3, 6);
      x.emits(i, 0, 1, 1, 1);
      x.put(0, i, 1);
    }
    x.by(0, 1, 1);
    due("18 share 0", x.share(0, 0, 0), 16);
    due("18 share 1", x.share(0, 0, 1), 16);
    due("18 by fractions", x.most(0, 0), 1);
  }

  private static void p19Turned() {
    due("19 none", chain().turned(0), NONE);
    due("19 backwards", backwards().turned(0), 0);
    due("19 empty basket", backwards().turned(1), NONE);
    CradleNets x = withMakings(3);
    x.needs(1, 1, 2);
    x.needs(2, 2, 3);
    x.put(0, 1, 1);
    x.put(0, 2, 1);
    x.put(1, 2, 1);
    due("19 the least", x.turned(0), 1);
    due("19 the last", x.turned(1), 2);
    due("19 four", withMakings(4).turned(0), NONE);
    due("19 no makings", new CradleNets().turned(3), NONE);
    due("19 unknown", x.turned(4), UNKNOWN);
    for (int far : FAR) due("19 far", x.turned(far), UNKNOWN);
    due("19 bound", withoutRounds().turned(0), BOUND);
    due("19 unknown before bound", withoutRounds().turned(4), UNKNOWN);
  }

  private static void p20Keep() {
    CradleNets x = new CradleNets();
    for (int v = 0; v < 6; v++) due("20 keep", x.keep(), v);
    due("20 full", x.keep(), FULL);
    due("20 six", x.count(1), 6);
    CradleNets y = withMakings(1);
    for (int v = 0; v < 6; v++) { y.out(0, v + 1); y.keep(); }
    due("20 full too", y.keep(), FULL);
    for (int v = 0; v < 6; v++) { y.recall(v); due("20 each as it was", y.told(0, 0), v + 1); }
  }

  private static void p21Recall() {
    CradleNets x = chain();
    x.by(0, 1, 2);
    x.rule(1, 1);
    x.good(1, 3, 4);
    x.keep();
    long kept = x.digest();
    x.out(0, 5);
    x.rule(1, 2);
    x.needs(0, 1, 0);
    x.by(0, 1, 6);
    x.good(1, 1, 1);
    x.emits(1, 1, 0, 0, 0);
    due("21 recall", x.recall(0), 1);
    due("21 all as it was", x.digest(), kept);
    x.out(0, 5);
    due("21 recall again", x.recall(0), 1);
    due("21 the version stayed", x.digest(), kept);
    x.put(0, 0, 9);
    x.recall(0);
    due("21 baskets stay as they are", x.put(0, 0, 3), 9);
    due("21 versions stay", x.count(1), 1);
    due("21 unknown", x.recall(1), UNKNOWN);
    for (int far : FAR) due("21 far", x.recall(far), UNKNOWN);
    due("21 no versions", new CradleNets().recall(0), UNKNOWN);
  }

  private static void p22Blame() {
    CradleNets x = chain();
    x.keep();
    due("22 nothing changed", x.blame(0, 0, 1, 0), 0);
    x.needs(0, 1, 2);
    x.emits(1, 1, 0, 10, 100);
    // then 7.5 + 30; with 0 as now 7.5 + 60; with both 7.5 + 30
    due("22 making 0", x.blame(0, 0, 1, 0), 30000);
    due("22 making 1", x.blame(0, 0, 1, 1), -30000);
    due("22 the basket is the one now", x.put(0, 0, 6), 3);
    due("22 twice as much", x.blame(0, 0, 1, 0), 60000);
    due("22 unknown v", x.blame(1, 0, 1, 0), UNKNOWN_L);
    due("22 unknown b", x.blame(0, 4, 1, 0), UNKNOWN_L);
    due("22 unknown k", x.blame(0, 0, 3, 0), UNKNOWN_L);
    due("22 unknown i", x.blame(0, 0, 1, 2), UNKNOWN_L);
    for (int far : FAR) {
      due("22 far", x.blame(far, 0, 1, 0), UNKNOWN_L);
      due("22 far", x.blame(0, far, 1, 0), UNKNOWN_L);
      due("22 far", x.blame(0, 0, far, 0), UNKNOWN_L);
      due("22 far", x.blame(0, 0, 1, far), UNKNOWN_L);
    }
    due("22 nothing is changed by asking", x.told(0, 5), 2);
  }

  private static void p22Measures() {
    CradleNets x = withMakings(2);
    x.by(0, 1, 1);
    x.by(1, 0, 1);
    x.emits(0, 0, 0, 60, 60);
    x.emits(1, 0, 0, 60, 60);
    x.put(0, 0, 1);
    x.put(0, 1, 1);
    x.keep();
    x.good(1, 2, 1);
    // a making's share of its own emissions: both 1/2 then; now 1/3 for making 0 and 2/3 for making 1
    due("22 making 0 by weights now", x.blame(0, 0, 0, 0), -10000);
    due("22 making 1 by weights now", x.blame(0, 0, 0, 1), 10000);
  }

  private static void p22Bounds() {
    CradleNets x = withMakings(2);
    x.needs(0, 0, 1);
    x.keep();
    x.needs(0, 0, 0);
    due("22 bound before", x.blame(0, 0, 0, 0), BOUND_L);
    due("22 both have rounds", x.blame(0, 0, 0, 1), 0);
    x.keep();
    x.needs(1, 1, 1);
    due("22 bound after", x.blame(1, 0, 0, 1), BOUND_L);
    due("22 not yet", x.blame(1, 0, 0, 0), 0);
  }

  // 1/3 less 2/3: each is rounded down before they are taken from one another.
  private static void p22Rounding() {
    CradleNets x = withMakings(1);
    x.out(0, 3);
    x.put(0, 0, 1);
    x.emits(0, 0, 2, 2, 2);
    x.keep();
    x.emits(0, 0, 1, 1, 1);
    due("22 rounded down each", x.blame(0, 0, 0, 0), 333 - 666);
    x.keep();
    x.emits(0, 0, 0, 0, 0);
    due("22 rounded down", x.blame(1, 0, 0, 0), -333);
  }

  private static void p23Count() {
    CradleNets x = withMakings(3);
    due("23 makings", x.count(0), 3);
    due("23 versions", x.count(1), 0);
    due("23 none with by-products", x.count(2), 0);
    due("23 entries", x.count(3), 3);
    x.by(0, 1, 2);
    x.by(0, 2, 2);
    x.by(2, 0, 1);
    x.keep();
    due("23 versions", x.count(1), 1);
    due("23 with by-products", x.count(2), 2);
    due("23 by weight they make no entries", x.count(3), 3);
    x.rule(0, 2);
    due("23 avoided they do", x.count(3), 5);
    due("23 with by-products still", x.count(2), 2);
    x.needs(0, 1, 2);
    due("23 given and needed is 0", x.count(3), 4);
    x.by(2, 0, 0);
    due("23 one less", x.count(2), 1);
    x.emits(1, 0, 3, 3, 3);
    due("23 stuff is no by-product", x.count(2), 1);
    CradleNets y = withMakings(4);
    y.by(3, 0, 1);
    y.needs(0, 3, 1);
    due("23 four", y.count(0), 4);
    due("23 the last one's by-product", y.count(2), 1);
    due("23 five of sixteen", y.count(3), 5);
    due("23 above", x.count(4), OUTSIDE);
    for (int far : FAR) due("23 far", x.count(far), OUTSIDE);
  }

  private static void p24Digest() {
    CradleNets x = chain();
    x.put(3, 1, 20);
    x.keep();
    long h = 151;
    for (int i = 0; i < 2; i++) for (int what = 0; what < 23; what++) h = 31 * h + x.told(i, what);
    long[] held = {3, 0, 0, 0, 0, 0, 0, 20};
    for (long v : held) h = 31 * h + v;
    h = 31 * h + 1;
    h = 31 * h + 4;
    due("24 digest", x.digest(), h);
    due("24 again", x.digest(), h);
    due("24 a refusal changes nothing", x.out(0, 9) + x.needs(0, 1, 9) + x.by(0, 0, 9) + x.making(), 3 * OUTSIDE + STATE);
    due("24 as before", x.digest(), h);
  }

  // No number here may be too long: the greatest of all that is told.
  private static void greatestNumbers() {
    CradleNets x = withMakings(4);
    for (int i = 0; i < 4; i++) {
      x.out(i, 6);
      x.good(i, 5, 5);
      x.emits(i, 0, 100, 100, 100);
      x.put(0, i, 20);
      for (int j = 0; j < 4; j++) if (i != j) { x.by(i, j, 6); x.needs(i, j, 1); }
    }
    // entries 720 and -30: ROUNDS 20 by 630, all alike
    due("worth", x.worth(), 630L * 750 * 750 * 750);
    due("runs", x.runs(0, 0), 20L * 120 * 1000 / 630);
    due("above", x.total(0, 0, 1, 0), 8000);
    due("below", x.total(0, 0, 1, 1), 21);
    for (int i = 0; i < 4; i++) for (int j = 0; j < 4; j++) if (i != j) x.needs(i, j, 6);
    due("worth", x.worth(), 180L * 900 * 900 * 900);
    due("total", x.total(0, 0, 2, 0), 4000);
    due("total", x.total(0, 0, 2, 1), 3);
    due("share", x.share(0, 0, 3), 333333);
    due("way", x.way(0, 0, 0, 1, 2), 20L * 180 * 180 * 3000 * 1000 / (720L * 720 * 720));
  }

  public static void main(String[] args) {
    p1NewObject();
    p2Making();
    p3Out();
    p4Needs();
    p5By();
    p6Emits();
    p7Good();
    p8Rule();
    p9Told();
    p10Entry();
    p11Worth();
    p12Put();
    p13Runs();
    p14Total();
    p15Share();
    p16Way();
    p17Sure();
    p18Most();
    p18ByFractions();
    p19Turned();
    p20Keep();
    p21Recall();
    p22Blame();
    p22Measures();
    p22Bounds();
    p22Rounding();
    p23Count();
    p24Digest();
    greatestNumbers();
    System.out.println(wrong == 0 ? "all promises are kept" : wrong + " answers are not as due");
    if (wrong != 0) System.exit(1);
  }
}
