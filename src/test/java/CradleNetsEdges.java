import java.math.BigInteger;

/**
 * What the document says of the ends: what holds at first and without MAKINGS, a WORTH of 0 or below, ROUNDS below 0,
 * rounding down, a way's NONE, likes and near-likes, versions of an empty and a full book, the digest's wrapping.
 * Answers are worked out by hand.
 */
public final class CradleNetsEdges {
  private static final int UNKNOWN = -101, BOUND = -104, FULL = -105, NONE = -1;
  private static final long UNKNOWN_L = -9000000000000000001L;
  private static final long OUTSIDE_L = -9000000000000000002L;
  private static final long BOUND_L = -9000000000000000004L;

  private static int wrong = 0;

  private static void due(String what, long got, long want) {
    if (got != want) { wrong++; System.out.println(what + " answered " + got + ", due is " + want); }
  }

  private static CradleNets withMakings(int n) {
    CradleNets x = new CradleNets();
    for (int i = 0; i < n; i++) due("making", x.making(), i);
    return x;
  }

  private static void emitsJust(CradleNets x, int i, int k, int v) {
    due("emits", x.emits(i, k, v, v, v), 1);
  }

  private static void totalIs(String what, CradleNets x, int side, long above, long below) {
    due(what + ", side " + side + " above", x.total(0, 0, side, 0), above);
    due(what + ", side " + side + " below", x.total(0, 0, side, 1), below);
  }

  // ---- at first, and without MAKINGS

  private static void newObjectIsEmpty() {
    CradleNets x = new CradleNets();
    for (int what = 0; what < 4; what++) due("1 count " + what, x.count(what), 0);
    due("11 worth without makings", x.worth(), 1);
    for (int n = 0; n < 36; n++) {
      due("14 nothing", x.total(n / 9, n / 3 % 3, n % 3, 0), 0);
      due("14 by one", x.total(n / 9, n / 3 % 3, n % 3, 1), 1);
    }
    for (int n = 0; n < 48; n++) due("17 nothing is no worse", x.sure(n / 12, n / 3 % 4, n % 3), 1);
    for (int n = 0; n < 12; n++) due("18 no one", x.most(n / 3, n % 3), NONE);
    for (int b = 0; b < 4; b++) due("19 no one", x.turned(b), NONE);
  }

  private static void newMakingIsPlain() {
    int[] plain = {1, 0, 1, 1, 0, 0, 0, 0, 0, 0, 0, 0, 0, 0, 0, 0, 0, 0, 0, 0, 0, 1, 1};
    for (int n = 1; n <= 4; n++) {
      CradleNets x = withMakings(n);
      for (int i = 0; i < n; i++) for (int what = 0; what < 23; what++) due("9 at first " + what, x.told(i, what), plain[what]);
      for (int i = 0; i < n; i++) for (int j = 0; j < n; j++) due("10 at first", x.entry(j, i), i == j ? 1 : 0);
      due("11 at first", x.worth(), 1);
      due("23 entries at first", x.count(3), n);
      for (int b = 0; b < 4; b++) for (int j = 0; j < n; j++) due("12 at first", x.put(b, j, 0), 0);
    }
  }

  // A MAKING that comes later is as plain as the first, whatever was told before.
  private static void laterMakingIsPlain() {
    CradleNets x = withMakings(1);
    x.out(0, 6);
    x.needs(0, 0, 6);
    x.good(0, 5, 4);
    x.rule(0, 1);
    emitsJust(x, 0, 2, 100);
    for (int b = 0; b < 4; b++) x.put(b, 0, 20);
    due("2 the next", x.making(), 1);
    int[] plain = {1, 0, 1, 1, 0, 0, 0, 0, 0, 0, 0, 0, 0, 0, 0, 0, 0, 0, 0, 0, 0, 1, 1};
    for (int what = 0; what < 23; what++) due("9 the next " + what, x.told(1, what), plain[what]);
    for (int b = 0; b < 4; b++) due("12 of the next", x.put(b, 1, 1), 0);
    due("12 of the first still", x.put(3, 0, 0), 20);
  }

  // "GOODS 0 to 3 may all be asked": those that aren't there are neither needed nor given.
  private static void goodsThatAreNotThereMayBeAsked() {
    CradleNets x = withMakings(1);
    x.needs(0, 0, 6);
    due("9 its own need", x.told(0, 4), 6);
    for (int j = 1; j < 4; j++) due("9 need of " + j, x.told(0, 4 + j), 0);
    for (int j = 0; j < 4; j++) due("9 by-product of " + j, x.told(0, 8 + j), 0);
    for (int j = 1; j < 4; j++) due("10 but no entry", x.entry(j, 0), -1000000);
    due("9 nor a making", x.told(1, 4), UNKNOWN);
  }

  // ---- a WORTH of 0

  // Each calls for all that the other makes: 6 by -4 against -6 by 4.
  private static CradleNets inVain() {
    CradleNets x = withMakings(2);
    x.rule(0, 2);
    x.rule(1, 2);
    x.out(0, 6);
    x.needs(0, 1, 4);
    x.out(1, 4);
    x.needs(1, 0, 6);
    x.put(0, 0, 3);
    x.emits(1, 0, 0, 5, 9);
    return x;
  }

  private static void worth0IsBound() {
    CradleNets x = inVain();
    due("11 worth", x.worth(), 0);
    for (int b = 0; b < 4; b++) {
      due("13 bound", x.runs(b, 0), BOUND_L);
      due("14 bound", x.total(b, 0, 1, 0), BOUND_L);
      due("14 bound, below too", x.total(b, 0, 1, 1), BOUND_L);
      due("14 bound, though no one emits it", x.total(b, 2, 1, 0), BOUND_L);
      due("15 bound", x.share(b, 0, 1), BOUND_L);
      due("17 bound", x.sure(b, b, 0), BOUND);
      due("18 bound", x.most(b, 0), BOUND);
      due("19 bound", x.turned(b), BOUND);
    }
    due("20 kept all the same", x.keep(), 0);
    due("22 bound", x.blame(0, 0, 0, 0), BOUND_L);
    due("21 recalled all the same", x.recall(0), 1);
  }

  private static void worth0RefusesNoOthers() {
    CradleNets x = inVain();
    due("9 told", x.told(0, 5), 4);
    due("10 entry", x.entry(1, 0), -4);
    due("12 put", x.put(0, 0, 6), 3);
    due("23 entries", x.count(3), 4);
    // 6 by 6, times 4 by 4, times 5
    due("16 ways go without a worth", x.way(0, 0, 0, 1, NONE), 5000);
    due("16 and back", x.way(0, 0, 0, 1, 0), 0);
    due("4 and it goes on", x.needs(1, 0, 5), 6);
    due("11 worth", x.worth(), 4);
    // 4 * 6 by 4, and 4 * 6 by 4
    due("13 runs", x.runs(0, 0), 6000);
    due("13 runs", x.runs(0, 1), 6000);
    due("4 and stops again", x.needs(1, 0, 6), 5);
    due("13 bound again", x.runs(0, 0), BOUND_L);
  }

  // An entry (x, x) of 0 stops its ways alone: by-products make the goods, and THE WORTH is not 0.
  private static void worthWithoutOwnEntries() {
    CradleNets x = crossed();
    due("10 own", x.entry(0, 0), 0);
    due("10 own", x.entry(1, 1), 0);
    due("16 bound", x.way(0, 0, 0, NONE, NONE), BOUND_L);
    due("16 bound", x.way(0, 0, 1, 0, NONE), BOUND_L);
    due("16 bound, though there is nothing in the basket", x.way(1, 0, 0, NONE, NONE), BOUND_L);
    due("16 bound, though no one emits it", x.way(0, 2, 0, 1, 0), BOUND_L);
    due("13 runs", x.runs(0, 0), 2000);
  }

  // ---- a WORTH below 0, and ROUNDS below 0

  // Making 0 gives 2 of good 1, making 1 gives 3 of good 0, and neither keeps its own: the worth is -6.
  private static CradleNets crossed() {
    CradleNets x = withMakings(2);
    for (int i = 0; i < 2; i++) {
      x.rule(i, 2);
      x.needs(i, i, 1);
    }
    x.by(0, 1, 2);
    x.by(1, 0, 3);
    x.put(0, 0, 3);
    x.put(0, 1, 4);
    x.emits(0, 0, 1, 2, 3);
    x.emits(1, 0, 4, 5, 7);
    return x;
  }

  private static void worthBelow0WithRoundsAbove() {
    CradleNets x = crossed();
    due("11 below 0", x.worth(), -6);
    due("13 above 0", x.runs(0, 0), 2000);
    due("13 above 0", x.runs(0, 1), 1000);
    due("19 none", x.turned(0), NONE);
    totalIs("14", x, 0, 2 * 1 + 4, 1);
    totalIs("14", x, 1, 2 * 2 + 5, 1);
    totalIs("14", x, 2, 2 * 3 + 7, 1);
    due("18 most", x.most(0, 0), 1);
    due("17 more than nothing", x.sure(0, 1, 0), 0);
    due("17 nothing is no worse", x.sure(1, 0, 0), 1);
    x.put(0, 0, 1);
    x.put(0, 1, 1);
    // 1/2 and 1/3
    due("13 a half", x.runs(0, 0), 500);
    due("13 a third, rounded down", x.runs(0, 1), 333);
    totalIs("14 in lowest terms, below above 0", x, 1, 8, 3);
    due("15 a third of 5, rounded down", x.share(0, 0, 1), 1666);
  }

  // Making 0 runs backwards 2 times, making 1 forwards 3 times.
  private static CradleNets bothWays() {
    CradleNets x = withMakings(2);
    x.needs(0, 0, 2);
    x.put(0, 0, 2);
    x.put(0, 1, 3);
    x.emits(0, 0, 1, 2, 4);
    x.emits(1, 0, 5, 6, 8);
    return x;
  }

  private static void roundsBelow0TakeTheOtherEnd() {
    CradleNets x = bothWays();
    due("11 below 0", x.worth(), -1);
    due("13 backwards", x.runs(0, 0), -2000);
    due("13 forwards", x.runs(0, 1), 3000);
    totalIs("14 least", x, 0, -2 * 4 + 3 * 5, 1);
    totalIs("14 told", x, 1, -2 * 2 + 3 * 6, 1);
    totalIs("14 greatest", x, 2, -2 * 1 + 3 * 8, 1);
    due("15 by what is told", x.share(0, 0, 0), -4000);
    due("16 by an entry of -1", x.way(0, 0, 0, NONE, NONE), -4000);
    x.put(0, 1, 0);
    totalIs("14 least, below 0", x, 0, -8, 1);
    totalIs("14 greatest, below 0", x, 2, -2, 1);
    x.put(0, 1, 1);
    x.out(1, 6);
    emitsJust(x, 1, 0, 1);
    // -2 * 2 and 1/6
    totalIs("14 a fraction below 0", x, 1, -23, 6);
    x.emits(0, 0, 0, 3, 6);
    emitsJust(x, 1, 0, 36);
    totalIs("14 they meet at 0", x, 1, 0, 1);
  }

  private static void turnedIsTheLeastBelow0() {
    CradleNets x = withMakings(4);
    for (int i = 0; i < 4; i++) x.needs(i, i, 2);
    due("11 below 0 four times", x.worth(), 1);
    due("19 nothing held, nothing below 0", x.turned(0), NONE);
    for (int i = 3; i >= 0; i--) {
      x.put(0, i, 1);
      due("19 the least so far", x.turned(0), i);
    }
    for (int i = 0; i < 4; i++) {
      due("19 the least left", x.turned(0), i);
      x.needs(i, i, 0);
    }
    due("19 none left", x.turned(0), NONE);
    due("19 other baskets", x.turned(3), NONE);
  }

  // A MAKING that turns only because another does: it is needed by one that runs backwards.
  private static void turnedByAnother() {
    CradleNets x = withMakings(2);
    x.needs(1, 1, 2);
    x.needs(1, 0, 1);
    x.put(0, 1, 1);
    due("13 needed less than not at all", x.runs(0, 0), -1000);
    due("19 the needed one", x.turned(0), 0);
    x.put(0, 0, 1);
    due("13 just 0", x.runs(0, 0), 0);
    due("19 0 is not below 0", x.turned(0), 1);
  }

  // ROUNDS times ALL, by-products too: MAIN is 2, ALL 2 and 3, entry (0, 0) 2 times that; avoided, it is 2 alone.
  private static void runsAreOfAll() {
    for (int rule = 0; rule < 3; rule++) {
      CradleNets x = withMakings(2);
      x.out(0, 2);
      x.by(0, 1, 3);
      x.rule(0, rule);
      x.put(0, 0, 7);
      due("10 entry", x.entry(0, 0), rule == 2 ? 2 : 10);
      due("13 half as many as are held", x.runs(0, 0), 3500);
      due("13 avoided", x.runs(0, 1), rule == 2 ? -10500 : 0);
    }
  }

  // ---- THOUSANDTHS, rounded down

  private static void roundedDown() {
    CradleNets x = withMakings(1);
    x.out(0, 3);
    x.put(0, 0, 1);
    emitsJust(x, 0, 0, 1);
    due("13 a third", x.runs(0, 0), 333);
    due("15 a third", x.share(0, 0, 0), 333);
    due("16 a third", x.way(0, 0, 0, NONE, NONE), 333);
    x.needs(0, 0, 6);
    due("13 a third below 0", x.runs(0, 0), -334);
    due("15 a third below 0", x.share(0, 0, 0), -334);
    due("16 a third below 0", x.way(0, 0, 0, NONE, NONE), -334);
    x.put(0, 0, 6);
    due("13 a whole below 0", x.runs(0, 0), -2000);
    due("15 a whole below 0", x.share(0, 0, 0), -2000);
    due("16 a whole below 0", x.way(0, 0, 0, NONE, NONE), -2000);
    x.needs(0, 0, 5);
    x.put(0, 0, 1);
    due("13 a half below 0 is 500 thousandths", x.runs(0, 0), -500);
  }

  // Of good 0 is made 6 at a time, or 5 less than nothing; then 6 of 396, and 1 of 60: less than a thousandth.
  private static CradleNets hardlyAny(boolean backwards) {
    CradleNets x = withMakings(4);
    if (backwards) x.needs(0, 0, 6);
    else x.out(0, 6);
    x.needs(0, 1, 1);
    x.out(1, 6);
    x.needs(1, 2, 1);
    x.by(1, 2, 6);
    x.by(1, 3, 6);
    x.out(2, 6);
    x.by(2, 3, 6);
    x.good(2, 5, 1);
    x.good(3, 5, 1);
    emitsJust(x, 2, 0, 1);
    x.put(0, 0, 1);
    return x;
  }

  private static void hardlyAnyRoundedDown() {
    CradleNets x = hardlyAny(false);
    totalIs("14 hardly any", x, 1, 1, 4752);
    due("15 hardly any is 0", x.share(0, 0, 2), 0);
    due("16 hardly any is 0", x.way(0, 0, 0, 1, 2), 0);
    due("18 but it is the most", x.most(0, 0), 2);
    due("17 and more than nothing", x.sure(0, 1, 0), 0);
    due("17 nothing is no worse", x.sure(1, 0, 0), 1);
    CradleNets y = hardlyAny(true);
    totalIs("14 hardly any less", y, 1, -1, 3960);
    due("15 hardly any less is -1", y.share(0, 0, 2), -1);
    due("16 hardly any less is -1", y.way(0, 0, 0, 1, 2), -1);
    due("18 nothing is more", y.most(0, 0), 0);
    due("17 no worse than nothing", y.sure(0, 1, 0), 1);
    due("17 nothing is worse", y.sure(1, 0, 0), 0);
    due("19 turned", y.turned(0), 0);
  }

  private static void blameOfHardlyAny() {
    CradleNets x = hardlyAny(true);
    emitsJust(x, 2, 0, 0);
    x.keep();
    emitsJust(x, 2, 0, 1);
    due("22 0 before, -1 now", x.blame(0, 0, 0, 2), -1);
    x.keep();
    x.recall(0);
    due("22 -1 before, 0 now", x.blame(1, 0, 0, 2), 1);
    due("22 others have no part in it", x.blame(1, 0, 0, 3), 0);
  }

  // ---- ways, and their NONE

  private static CradleNets ring() {
    CradleNets x = withMakings(3);
    for (int i = 0; i < 3; i++) {
      x.out(i, 2);
      x.needs(i, (i + 1) % 3, 1);
      emitsJust(x, i, 0, 8 << i);
    }
    x.put(0, 0, 4);
    return x;
  }

  // Entries 4 and -2: 4 by 4, then a half each step, times twice what is emitted.
  private static void waysEndAtNone() {
    CradleNets x = ring();
    due("16 a alone", x.way(0, 0, 0, NONE, NONE), 16000);
    due("16 a and b", x.way(0, 0, 0, 1, NONE), 16000);
    due("16 all three", x.way(0, 0, 0, 1, 2), 16000);
    due("16 what is not held", x.way(0, 0, 1, 2, 0), 0);
    due("16 what is not needed", x.way(0, 0, 0, 2, 1), 0);
    due("16 there and back", x.way(0, 0, 0, 1, 0), 0);
    x.needs(1, 0, 1);
    due("16 there and back, if needed", x.way(0, 0, 0, 1, 0), 4000);
    due("16 c without b2", x.way(0, 0, 0, NONE, 2), OUTSIDE_L);
    due("16 a is not none", x.way(0, 0, NONE, NONE, NONE), UNKNOWN_L);
    due("16 nor b2 below none", x.way(0, 0, 0, -2, NONE), UNKNOWN_L);
    due("16 nor c below none", x.way(0, 0, 0, 1, -2), UNKNOWN_L);
  }

  // What an avoided making gives goes against what is needed: that way brings less than nothing.
  private static void waysOfTheAvoided() {
    CradleNets x = withMakings(2);
    x.rule(0, 2);
    x.by(0, 1, 2);
    x.put(0, 0, 1);
    emitsJust(x, 1, 0, 7);
    due("16 avoided", x.way(0, 0, 0, 1, NONE), -14000);
    x.needs(0, 1, 2);
    due("16 given and needed", x.way(0, 0, 0, 1, NONE), 0);
    x.needs(0, 1, 3);
    due("16 needed more", x.way(0, 0, 0, 1, NONE), 7000);
  }

  // ---- the most, and the surely no worse

  private static void mostOfLikeOnes() {
    CradleNets x = withMakings(4);
    for (int i = 0; i < 4; i++) {
      x.put(0, i, 2);
      emitsJust(x, i, 0, 50);
      emitsJust(x, i, 1, i < 2 ? 10 : 20);
    }
    due("18 all alike", x.most(0, 0), 0);
    due("18 two alike", x.most(0, 1), 2);
    due("18 nothing at all", x.most(0, 2), 0);
    due("18 an empty basket", x.most(1, 0), 0);
    for (int i = 0; i < 4; i++) x.needs(i, i, 2);
    due("18 all below 0, alike", x.most(0, 0), 0);
    due("18 the nearest to 0", x.most(0, 1), 0);
    emitsJust(x, 3, 1, 9);
    due("18 nearer still", x.most(0, 1), 3);
    due("18 none of it is more than below 0", x.most(0, 2), 0);
  }

  // By what is told, whatever may be at the least or at the greatest.
  private static void mostIsByWhatIsTold() {
    CradleNets x = withMakings(2);
    x.put(0, 0, 1);
    x.put(0, 1, 1);
    x.emits(0, 0, 0, 6, 6);
    x.emits(1, 0, 5, 5, 100);
    due("18 told 6 and 5", x.most(0, 0), 0);
    due("15 told 6", x.share(0, 0, 0), 6000);
    due("15 told 5", x.share(0, 0, 1), 5000);
  }

  private static void sureAtTheEdge() {
    CradleNets x = withMakings(2);
    x.put(0, 0, 1);
    x.put(1, 1, 1);
    x.emits(0, 0, 0, 0, 50);
    x.emits(1, 0, 50, 100, 100);
    due("17 the greatest just reaches the least", x.sure(0, 1, 0), 1);
    due("17 and not back", x.sure(1, 0, 0), 0);
    x.emits(0, 0, 0, 0, 51);
    due("17 the greatest is above the least", x.sure(0, 1, 0), 0);
    x.emits(0, 0, 0, 0, 50);
    x.emits(1, 0, 49, 100, 100);
    due("17 the least is below the greatest", x.sure(0, 1, 0), 0);
    emitsJust(x, 0, 0, 70);
    emitsJust(x, 1, 0, 70);
    due("17 alike", x.sure(0, 1, 0), 1);
    due("17 alike, back too", x.sure(1, 0, 0), 1);
  }

  private static void sureWithSharedDoubts() {
    CradleNets x = withMakings(1);
    x.emits(0, 0, 0, 50, 100);
    x.put(0, 0, 20);
    x.put(1, 0, 20);
    x.put(2, 0, 19);
    due("17 itself, in all doubt", x.sure(0, 0, 0), 1);
    due("17 one that holds the same", x.sure(0, 1, 0), 1);
    due("17 one less", x.sure(2, 0, 0), 1);
    due("17 one more", x.sure(0, 2, 0), 0);
    x.emits(0, 0, 0, 0, 0);
    due("17 one more, of nothing", x.sure(0, 2, 0), 1);
    x.emits(0, 0, 0, 0, 1);
    due("17 one more, of nothing or little", x.sure(0, 2, 0), 0);
    x.needs(0, 0, 2);
    due("17 backwards one more", x.sure(0, 2, 0), 1);
    due("17 backwards one less", x.sure(2, 0, 0), 0);
  }

  // ---- versions

  private static void versionsOfAnEmptyBook() {
    CradleNets x = new CradleNets();
    for (int v = 0; v < 6; v++) due("20 keep", x.keep(), v);
    due("20 full", x.keep(), FULL);
    for (int v = 0; v < 6; v++) due("21 recall", x.recall(v), 1);
    due("21 nothing came of it", x.count(0), 0);
    due("22 no making to blame", x.blame(0, 0, 0, 0), UNKNOWN_L);
    due("11 worth", x.worth(), 1);
  }

  private static void tellVersion(CradleNets x, int v) {
    for (int i = 0; i < 4; i++) {
      x.out(i, 1 + (v + i) % 6);
      x.good(i, 1 + (v + i) % 5, 1 + (v + 2 * i) % 5);
      x.rule(i, (v + i) % 3);
      x.needs(i, 3, (v + 3 * i) % 7);
      x.by(i, (i + 1) % 4, (v + 2 * i) % 7);
      x.emits(i, v % 3, v, 10 + v + i, 90 + v);
    }
  }

  private static void eachVersionStaysAsItWas() {
    CradleNets x = withMakings(4);
    long[] digests = new long[6];
    for (int v = 0; v < 6; v++) {
      tellVersion(x, v);
      x.keep();
    }
    for (int v = 0; v < 6; v++) {
      x.recall(v);
      digests[v] = x.digest();
      for (int w = 0; w < v; w++) if (digests[w] == digests[v]) due("21 versions differ", v, w);
      due("21 weight", x.told(0, 21), 1 + v % 5);
      tellVersion(x, v + 1);
    }
    for (int v = 5; v >= 0; v--) {
      due("21 again", x.recall(v), 1);
      due("21 as it was", x.digest(), digests[v]);
    }
  }

  private static void recallLeavesBasketsAndVersions() {
    CradleNets x = withMakings(1);
    x.put(0, 0, 1);
    x.keep();
    x.out(0, 5);
    x.keep();
    x.put(0, 0, 20);
    due("21 the first", x.recall(0), 1);
    due("12 the basket is as now", x.put(0, 0, 20), 20);
    due("23 both are there", x.count(1), 2);
    due("21 the second", x.recall(1), 1);
    due("9 as it was then", x.told(0, 0), 5);
    due("21 itself again", x.recall(1), 1);
    due("20 the third", x.keep(), 2);
    x.out(0, 6);
    x.recall(2);
    due("9 kept as recalled", x.told(0, 0), 5);
  }

  // ---- blame

  // Each MAKING emitted 1 then, and 10 and its number more now: each is blamed for its own part.
  private static void blameFromFirstToLast() {
    CradleNets x = withMakings(4);
    for (int i = 0; i < 4; i++) {
      x.put(3, i, 1 + i);
      emitsJust(x, i, 2, 1);
    }
    x.keep();
    for (int i = 0; i < 4; i++) due("22 nothing moved", x.blame(0, 3, 2, i), 0);
    for (int i = 0; i < 4; i++) emitsJust(x, i, 2, 11 + i);
    for (int i = 0; i < 4; i++) due("22 moved " + i, x.blame(0, 3, 2, i), 1000L * (10 + i) * (1 + i));
    for (int i = 0; i < 4; i++) due("22 other stuff", x.blame(0, 3, 1, i), 0);
    for (int i = 0; i < 4; i++) due("22 empty basket", x.blame(0, 2, 2, i), 0);
  }

  private static void blameIsByWhatIsTold() {
    CradleNets x = withMakings(1);
    x.put(0, 0, 1);
    x.emits(0, 0, 10, 20, 30);
    x.keep();
    x.emits(0, 0, 0, 20, 100);
    due("22 least and greatest moved", x.blame(0, 0, 0, 0), 0);
    x.emits(0, 0, 10, 21, 30);
    due("22 told moved", x.blame(0, 0, 0, 0), 1000);
  }

  // Only the two mixtures must have a WORTH: what is now, or then, may have none.
  private static void blameBoundByItsOwnTwo() {
    CradleNets x = withMakings(3);
    for (int i = 0; i < 3; i++) { x.put(0, i, 1); emitsJust(x, i, 0, 10); }
    x.needs(0, 0, 1);
    x.keep();
    x.needs(0, 0, 0);
    x.needs(2, 2, 1);
    emitsJust(x, 1, 0, 30);
    due("11 now it has none", x.worth(), 0);
    due("22 before it is as then", x.blame(0, 0, 0, 0), BOUND_L);
    due("22 between them both go", x.blame(0, 0, 0, 1), 20000);
    due("22 after it is as now", x.blame(0, 0, 0, 2), BOUND_L);
    x.recall(0);
    due("22 both", x.blame(0, 0, 0, 1), BOUND_L);
  }

  // A weight that changed moves each making by its own by-products, as its turn comes; rule 2 asks for no weights.
  private static void blameOfMeasures() {
    CradleNets x = withMakings(3);
    for (int i = 0; i < 3; i++) { x.put(0, i, 1); emitsJust(x, i, 0, 60); x.by(i, (i + 1) % 3, 1); }
    x.rule(1, 2);
    x.keep();
    x.good(1, 5, 1);
    // then 1/2, now 1/6 of 60 for making 0 that gives good 1; making 1 is avoided, making 2 gives good 0
    due("22 gives good 1", x.blame(0, 0, 0, 0), -20000);
    due("22 avoided", x.blame(0, 0, 0, 1), 0);
    due("22 gives good 0", x.blame(0, 0, 0, 2), 0);
    x.good(1, 1, 5);
    due("22 prices are not asked", x.blame(0, 0, 0, 0), 0);
    x.rule(0, 1);
    due("22 by price as now", x.blame(0, 0, 0, 0), -20000);
  }

  // ---- count

  private static void countAtTheEnds() {
    CradleNets x = withMakings(4);
    due("23 no by-products", x.count(2), 0);
    for (int i = 0; i < 4; i++) {
      for (int j = 0; j < 4; j++) if (j != i) due("5 by", x.by(i, j, 1), 0);
      due("23 once each", x.count(2), i + 1);
    }
    due("23 all four", x.count(2), 4);
    due("23 shared ones are no entries", x.count(3), 4);
    for (int i = 0; i < 4; i++) x.rule(i, 2);
    due("23 all sixteen", x.count(3), 16);
    for (int i = 0; i < 4; i++) for (int j = 0; j < 4; j++) x.needs(i, j, 1);
    due("23 none", x.count(3), 0);
    due("11 none", x.worth(), 0);
    for (int i = 0; i < 4; i++) for (int j = 0; j < 4; j++) x.needs(i, j, 2);
    due("23 below 0 they count", x.count(3), 16);
  }

  private static void countOfOneByProduct() {
    for (int n = 0; n < 16; n++) {
      int i = n / 4, j = n % 4;
      CradleNets x = withMakings(4);
      x.by(i, j, 6);
      due("23 one", x.count(2), i == j ? 0 : 1);
      if (i != j) x.by(i, j, 0);
      due("23 none again", x.count(2), 0);
    }
  }

  // Nothing that stands beside by-products is taken for one.
  private static void countOfNoByProduct() {
    CradleNets x = withMakings(4);
    for (int i = 0; i < 4; i++) {
      for (int j = 0; j < 4; j++) x.needs(i, j, 6);
      for (int k = 0; k < 3; k++) emitsJust(x, i, k, 100);
    }
    due("23 needs and emissions are none", x.count(2), 0);
  }

  // ---- digest

  private static void digestOfTheEmpty() {
    CradleNets x = new CradleNets();
    for (int v = 0; v <= 6; v++) {
      due("24 with versions " + v, x.digest(), (151L * 31 + v) * 31 + 1);
      x.keep();
    }
  }

  private static BigInteger with(BigInteger h, long number) {
    return h.multiply(BigInteger.valueOf(31)).add(BigInteger.valueOf(number));
  }

  // Without wrapping, from the face alone; held in the order of BASKETS, then of GOODS there are.
  private static BigInteger unwrapped(CradleNets x, int[] held) {
    BigInteger h = BigInteger.valueOf(151);
    for (int i = 0; i < x.count(0); i++) for (int what = 0; what < 23; what++) h = with(h, x.told(i, what));
    for (int v : held) h = with(h, v);
    h = with(h, x.count(1));
    return with(h, x.worth());
  }

  private static void digestWraps(String what, CradleNets x, int[] held) {
    BigInteger h = unwrapped(x, held);
    if (h.bitLength() <= 64) { wrong++; System.out.println(what + " would not wrap"); }
    due(what, x.digest(), h.longValue());
    due(what + " again", x.digest(), h.longValue());
  }

  private static void digestOfOneMaking() {
    CradleNets x = withMakings(1);
    digestWraps("24 plain", x, new int[4]);
    // 151 times 31 for 29 numbers, and the six that are not 0: OUT, MAIN, ALL, WEIGHT, PRICE, THE WORTH
    due("24 plain, by its number", x.digest(), plainDigest());
    for (int b = 0; b < 4; b++) x.put(b, 0, 5 * b + 1);
    digestWraps("24 baskets", x, new int[] {1, 6, 11, 16});
    x.needs(0, 0, 1);
    digestWraps("24 worth 0", x, new int[] {1, 6, 11, 16});
    x.needs(0, 0, 6);
    due("11 below 0", x.worth(), -5);
    digestWraps("24 worth below 0", x, new int[] {1, 6, 11, 16});
    for (int v = 0; v < 6; v++) x.keep();
    digestWraps("24 six versions", x, new int[] {1, 6, 11, 16});
  }

  private static long plainDigest() {
    BigInteger base = BigInteger.valueOf(31), h = BigInteger.valueOf(151).multiply(base.pow(29));
    for (int place : new int[] {28, 26, 25, 7, 6, 0}) h = h.add(base.pow(place));
    return h.longValue();
  }

  private static void digestOfTheFull() {
    CradleNets x = withMakings(4);
    int[] held = new int[16];
    for (int n = 0; n < 16; n++) {
      held[n] = 20 - n;
      x.put(n / 4, n % 4, held[n]);
      if (n / 4 != n % 4) x.by(n / 4, n % 4, 6);
    }
    for (int i = 0; i < 4; i++) {
      x.out(i, 6);
      x.good(i, 5, 5);
      for (int k = 0; k < 3; k++) x.emits(i, k, i, 50 + k, 100);
    }
    due("11 above an int", x.worth(), 720L * 720 * 720 * 720);
    digestWraps("24 full", x, held);
    x.rule(3, 2);
    digestWraps("24 another worth", x, held);
  }

  // Only GOODS that are there: what is held of them stands one behind the other.
  private static void digestOfTwoAndThree() {
    CradleNets x = withMakings(2);
    for (int n = 0; n < 8; n++) x.put(n / 2, n % 2, n + 1);
    digestWraps("24 two", x, new int[] {1, 2, 3, 4, 5, 6, 7, 8});
    due("2 a third", x.making(), 2);
    digestWraps("24 three", x, new int[] {1, 2, 0, 3, 4, 0, 5, 6, 0, 7, 8, 0});
    x.put(3, 2, 20);
    digestWraps("24 the last place", x, new int[] {1, 2, 0, 3, 4, 0, 5, 6, 0, 7, 8, 20});
  }

  private static void atFirst() {
    newObjectIsEmpty();
    newMakingIsPlain();
    laterMakingIsPlain();
    goodsThatAreNotThereMayBeAsked();
  }

  private static void worthAndRounds() {
    worth0IsBound();
    worth0RefusesNoOthers();
    worthWithoutOwnEntries();
    worthBelow0WithRoundsAbove();
    roundsBelow0TakeTheOtherEnd();
    turnedIsTheLeastBelow0();
    turnedByAnother();
    runsAreOfAll();
    roundedDown();
    hardlyAnyRoundedDown();
  }

  private static void waysMostAndSure() {
    waysEndAtNone();
    waysOfTheAvoided();
    mostOfLikeOnes();
    mostIsByWhatIsTold();
    sureAtTheEdge();
    sureWithSharedDoubts();
  }

  private static void versionsAndBlame() {
    versionsOfAnEmptyBook();
    eachVersionStaysAsItWas();
    recallLeavesBasketsAndVersions();
    blameOfHardlyAny();
    blameFromFirstToLast();
    blameIsByWhatIsTold();
    blameBoundByItsOwnTwo();
    blameOfMeasures();
  }

  private static void countAndDigest() {
    countAtTheEnds();
    countOfOneByProduct();
    countOfNoByProduct();
    digestOfTheEmpty();
    digestOfOneMaking();
    digestOfTheFull();
    digestOfTwoAndThree();
  }

  public static void main(String[] args) {
    atFirst();
    worthAndRounds();
    waysMostAndSure();
    versionsAndBlame();
    countAndDigest();
    System.out.println(wrong == 0 ? "all edges hold" : wrong + " answers are not as due");
    if (wrong != 0) System.exit(1);
  }
}
