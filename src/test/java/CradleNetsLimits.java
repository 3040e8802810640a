import java.util.Arrays;
import java.util.function.IntSupplier;
import java.util.function.IntUnaryOperator;

/**
 * The limits that the document names: of each number the last that is taken and the first that isn't, on both sides and
 * far beyond; of MAKINGS, GOODS, VERSIONS, BASKETS and STUFFS the last that there is and the first that there isn't.
 */
public final class CradleNetsLimits {
  private static final int UNKNOWN = -101, OUTSIDE = -102, STATE = -103, FULL = -105, NONE = -1;
  private static final int NO_ENTRY = -1000000;
  private static final long UNKNOWN_L = -9000000000000000001L;
  private static final long OUTSIDE_L = -9000000000000000002L;

  private static int wrong = 0;

  private static void due(String what, long got, long want) {
    if (got != want) { wrong++; System.out.println(what + " answered " + got + ", due is " + want); }
  }

  private static CradleNets withMakings(int n) {
    CradleNets x = new CradleNets();
    for (int i = 0; i < n; i++) due("making", x.making(), i);
    return x;
  }

  // Beside the nearest ones: those that a cut to a byte or a short, a lost sign or an overflow would bring back within.
  private static int[] beyond(int least, int most) {
    int[] tried = {
      least - 1, most + 1, least - 2, most + 2, -least, -most, least - 256, least + 256, most + 256, most - 65536,
      least + 65536, Integer.MIN_VALUE, Integer.MIN_VALUE + most, Integer.MAX_VALUE, Integer.MAX_VALUE - most};
    return Arrays.stream(tried).filter(v -> v < least || v > most).distinct().toArray();
  }

  // ---- amounts

  private static void takes(String what, int least, int most, int atFirst, IntUnaryOperator set, IntSupplier read) {
    due(what + " at first", read.getAsInt(), atFirst);
    int was = atFirst;
    for (int v = least; v <= most; v++) {
      due(what + " takes " + v, set.applyAsInt(v), was);
      due(what + " holds " + v, read.getAsInt(), v);
      was = v;
    }
    for (int v : beyond(least, most)) {
      due(what + " refuses " + v, set.applyAsInt(v), OUTSIDE);
      due(what + " holds behind " + v, read.getAsInt(), was);
    }
    due(what + " goes back", set.applyAsInt(least), most);
  }

  private static void outIs1To6() {
    CradleNets x = withMakings(4);
    for (int n = 0; n < 4; n++) {
      int i = n;
      takes("3 out of " + i, 1, 6, 1, v -> x.out(i, v), () -> x.told(i, 0));
    }
  }

  private static void needsAre0To6OfEachGood() {
    for (int n = 0; n < 16; n++) {
      int i = n / 4, j = n % 4;
      CradleNets x = withMakings(4);
      takes("4 " + i + " needs of " + j, 0, 6, 0, v -> x.needs(i, j, v), () -> x.told(i, 4 + j));
    }
  }

  private static void byProductsAre0To6OfEachOtherGood() {
    for (int n = 0; n < 16; n++) {
      int i = n / 4, j = n % 4;
      CradleNets x = withMakings(4);
      if (i != j) takes("5 " + i + " gives of " + j, 0, 6, 0, v -> x.by(i, j, v), () -> x.told(i, 8 + j));
      else for (int v = -1; v <= 7; v++) due("5 " + i + " gives " + v + " of its own", x.by(i, i, v), OUTSIDE);
      due("5 its own stays 0", x.told(i, 8 + i), 0);
    }
  }

  private static void rulesAre0To2() {
    CradleNets x = withMakings(4);
    for (int n = 0; n < 4; n++) {
      int i = n;
      takes("8 rule of " + i, 0, 2, 0, v -> x.rule(i, v), () -> x.told(i, 1));
    }
  }

  private static void basketsHold0To20OfEachGood() {
    for (int n = 0; n < 16; n++) {
      int b = n / 4, j = n % 4;
      CradleNets x = withMakings(4);
      takes("12 basket " + b + " of " + j, 0, 20, 0, v -> x.put(b, j, v), () -> heldOf(x, b, j));
    }
  }

  // There is no call that only asks: it is taken out and put back.
  private static int heldOf(CradleNets x, int b, int j) {
    int was = x.put(b, j, 0);
    due("12 what it was, a moment ago", x.put(b, j, was), 0);
    return was;
  }

  private static void weightAndPriceAre1To5() {
    for (int j = 0; j < 4; j++) {
      CradleNets x = withMakings(4);
      measuresAre("7 at first", x, j, 1, 1);
      for (int v = 1; v <= 5; v++) {
        due("7 takes " + v, x.good(j, v, 6 - v), 1);
        measuresAre("7 holds " + v, x, j, v, 6 - v);
      }
      due("7 takes the greatest", x.good(j, 5, 5), 1);
      due("7 takes the least", x.good(j, 1, 1), 1);
      due("7 takes others", x.good(j, 3, 4), 1);
      for (int v : beyond(1, 5)) {
        due("7 weight " + v, x.good(j, v, 2), OUTSIDE);
        due("7 price " + v, x.good(j, 2, v), OUTSIDE);
        due("7 both " + v, x.good(j, v, v), OUTSIDE);
        measuresAre("7 neither has changed by " + v, x, j, 3, 4);
      }
    }
  }

  private static void measuresAre(String what, CradleNets x, int j, int weight, int price) {
    due(what + ", weight", x.told(j, 21), weight);
    due(what + ", price", x.told(j, 22), price);
  }

  private static void emitsAre0To100() {
    for (int v = 0; v <= 100; v += 5) {
      CradleNets x = withMakings(1);
      due("6 all " + v, x.emits(0, 1, v, v, v), 1);
      emissionsAre("6 all " + v, x, 0, 1, v, v, v);
      due("6 up to " + v, x.emits(0, 1, 0, v, 100), 1);
      emissionsAre("6 up to " + v, x, 0, 1, 0, v, 100);
    }
    CradleNets x = withMakings(1);
    for (int v : beyond(0, 100)) {
      due("6 all " + v, x.emits(0, 0, v, v, v), OUTSIDE);
      due("6 least " + v, x.emits(0, 0, v, 50, 100), OUTSIDE);
      due("6 told " + v, x.emits(0, 0, 0, v, 100), OUTSIDE);
      due("6 greatest " + v, x.emits(0, 0, 0, 50, v), OUTSIDE);
      emissionsAre("6 behind " + v, x, 0, 0, 0, 0, 0);
    }
  }

  private static void toldIsBetween() {
    CradleNets x = withMakings(1);
    due("6 told is the least", x.emits(0, 2, 40, 40, 60), 1);
    emissionsAre("6 the least", x, 0, 2, 40, 40, 60);
    due("6 told is the greatest", x.emits(0, 2, 40, 60, 60), 1);
    emissionsAre("6 the greatest", x, 0, 2, 40, 60, 60);
    due("6 told is below the least", x.emits(0, 2, 41, 40, 60), OUTSIDE);
    due("6 told is above the greatest", x.emits(0, 2, 40, 61, 60), OUTSIDE);
    due("6 the wrong way round", x.emits(0, 2, 60, 50, 40), OUTSIDE);
    due("6 least above greatest, told the least", x.emits(0, 2, 60, 60, 40), OUTSIDE);
    due("6 least above greatest, told the greatest", x.emits(0, 2, 60, 40, 40), OUTSIDE);
    due("6 below 0, in order", x.emits(0, 2, -3, -2, -1), OUTSIDE);
    due("6 above 100, in order", x.emits(0, 2, 101, 102, 103), OUTSIDE);
    due("6 from below 0 to above 100", x.emits(0, 2, -1, 50, 101), OUTSIDE);
    emissionsAre("6 none of the three has changed", x, 0, 2, 40, 60, 60);
  }

  private static void eachStuffOfEachMakingIsItsOwn() {
    CradleNets x = withMakings(4);
    for (int n = 0; n < 12; n++) due("6 own", x.emits(n / 3, n % 3, n, n + 20, n + 40), 1);
    for (int n = 0; n < 12; n++) emissionsAre("6 own " + n, x, n / 3, n % 3, n, n + 20, n + 40);
  }

  private static void emissionsAre(String what, CradleNets x, int i, int k, int least, int told, int greatest) {
    due(what + ", least", x.told(i, 12 + k), least);
    due(what + ", told", x.told(i, 15 + k), told);
    due(what + ", greatest", x.told(i, 18 + k), greatest);
  }

  // ---- numbers that name something

  private interface Asked { long with(CradleNets x, int number); }

  private static void names(String what, CradleNets x, int end, long refusal, Asked asked) {
    for (int n = 0; n < end; n++) {
      long got = asked.with(x, n);
      if (got == refusal) { wrong++; System.out.println(what + ": " + n + " of " + end + " is refused"); }
    }
    for (int n : beyond(0, end - 1)) due(what + ": " + n + " of " + end, asked.with(x, n), refusal);
  }

  // A row may be there before its MAKING is: the number names nothing until making() has answered it.
  private static void makingsAreKnownWhenMade() {
    for (int n = 0; n <= 4; n++) {
      CradleNets x = withMakings(n);
      names("3 out", x, n, UNKNOWN, (y, i) -> y.out(i, 1));
      names("4 needs, i", x, n, UNKNOWN, (y, i) -> y.needs(i, 0, 0));
      names("5 by, i", x, n, UNKNOWN, (y, i) -> y.by(i, 0, 0));
      names("6 emits", x, n, UNKNOWN, (y, i) -> y.emits(i, 0, 0, 0, 0));
      names("8 rule", x, n, UNKNOWN, (y, i) -> y.rule(i, 0));
      names("9 told", x, n, UNKNOWN, (y, i) -> y.told(i, 0));
      names("10 entry, i", x, n, NO_ENTRY, (y, i) -> y.entry(0, i));
      names("13 runs", x, n, UNKNOWN_L, (y, i) -> y.runs(0, i));
      names("15 share", x, n, UNKNOWN_L, (y, i) -> y.share(0, 0, i));
      names("16 way, a", x, n, UNKNOWN_L, (y, a) -> y.way(0, 0, a, NONE, NONE));
      due("2 keep", x.keep(), 0);
      names("22 blame", x, n, UNKNOWN_L, (y, i) -> y.blame(0, 0, 0, i));
    }
  }

  private static void goodsAreKnownWhenMade() {
    for (int n = 0; n <= 4; n++) {
      CradleNets x = withMakings(n);
      names("4 needs, j", x, n, UNKNOWN, (y, j) -> y.needs(0, j, 0));
      names("5 by, j", x, n, UNKNOWN, (y, j) -> y.by(0, j, 0));
      names("7 good", x, n, UNKNOWN, (y, j) -> y.good(j, 1, 1));
      names("10 entry, j", x, n, NO_ENTRY, (y, j) -> y.entry(j, 0));
      names("12 put", x, n, UNKNOWN, (y, j) -> y.put(0, j, 0));
    }
  }

  // NONE is no refusal here; without b2 a known c is OUTSIDE, an unknown one is UNKNOWN first.
  private static void waysGoThroughKnownMakings() {
    for (int n = 1; n <= 4; n++) {
      CradleNets x = withMakings(n);
      for (int b2 : beyond(-1, n - 1)) due("16 b2 " + b2 + " of " + n, x.way(0, 0, 0, b2, NONE), UNKNOWN_L);
      for (int c : beyond(-1, n - 1)) due("16 c " + c + " of " + n, x.way(0, 0, 0, NONE, c), UNKNOWN_L);
      due("16 b2 and c are none", x.way(0, 0, 0, NONE, NONE), 0);
      for (int c = 0; c < n; c++) due("16 c without b2", x.way(0, 0, 0, NONE, c), OUTSIDE_L);
      for (int b2 = 1; b2 < n; b2++) due("16 two", x.way(0, 0, 0, b2, NONE), 0);
      for (int c = 0; c < n; c++) if (n > 1 && c != 1) due("16 three", x.way(0, 0, 0, 1, c), 0);
    }
  }

  private static void basketsAre0To3() {
    CradleNets x = withMakings(1);
    names("12 put", x, 4, UNKNOWN, (y, b) -> y.put(b, 0, 0));
    names("13 runs", x, 4, UNKNOWN_L, (y, b) -> y.runs(b, 0));
    names("14 total", x, 4, UNKNOWN_L, (y, b) -> y.total(b, 0, 0, 0));
    names("15 share", x, 4, UNKNOWN_L, (y, b) -> y.share(b, 0, 0));
    names("16 way", x, 4, UNKNOWN_L, (y, b) -> y.way(b, 0, 0, NONE, NONE));
    names("17 sure, a", x, 4, UNKNOWN, (y, a) -> y.sure(a, 0, 0));
    names("17 sure, b", x, 4, UNKNOWN, (y, b) -> y.sure(0, b, 0));
    names("18 most", x, 4, UNKNOWN, (y, b) -> y.most(b, 0));
    names("19 turned", x, 4, UNKNOWN, (y, b) -> y.turned(b));
    due("20 keep", x.keep(), 0);
    names("22 blame", x, 4, UNKNOWN_L, (y, b) -> y.blame(0, b, 0, 0));
  }

  private static void stuffsAre0To2() {
    CradleNets x = withMakings(1);
    names("6 emits", x, 3, UNKNOWN, (y, k) -> y.emits(0, k, 0, 0, 0));
    names("14 total", x, 3, UNKNOWN_L, (y, k) -> y.total(0, k, 0, 0));
    names("15 share", x, 3, UNKNOWN_L, (y, k) -> y.share(0, k, 0));
    names("16 way", x, 3, UNKNOWN_L, (y, k) -> y.way(0, k, 0, NONE, NONE));
    names("17 sure", x, 3, UNKNOWN, (y, k) -> y.sure(0, 0, k));
    names("18 most", x, 3, UNKNOWN, (y, k) -> y.most(0, k));
    due("20 keep", x.keep(), 0);
    names("22 blame", x, 3, UNKNOWN_L, (y, k) -> y.blame(0, 0, k, 0));
  }

  private static void versionsAreKnownWhenKept() {
    for (int n = 0; n <= 6; n++) {
      CradleNets x = withMakings(1);
      for (int v = 0; v < n; v++) due("20 keep", x.keep(), v);
      names("21 recall", x, n, UNKNOWN, (y, v) -> y.recall(v));
      names("22 blame", x, n, UNKNOWN_L, (y, v) -> y.blame(v, 0, 0, 0));
    }
  }

  private static void whatIsAskedHasItsEnds() {
    for (int n = 1; n <= 4; n++) names("9 told", withMakings(n), 23, OUTSIDE, (y, what) -> y.told(0, what));
    CradleNets x = withMakings(1);
    names("14 side", x, 3, OUTSIDE_L, (y, side) -> y.total(0, 0, side, 0));
    names("14 part", x, 2, OUTSIDE_L, (y, part) -> y.total(0, 0, 0, part));
    names("23 count", x, 4, OUTSIDE, (y, what) -> y.count(what));
    names("23 count of an empty one", new CradleNets(), 4, OUTSIDE, (y, what) -> y.count(what));
  }

  // ---- empty and full

  private static void fourMakingsAndNoMore() {
    CradleNets x = new CradleNets();
    for (int i = 0; i < 4; i++) {
      due("2 not there yet", x.told(i, 0), UNKNOWN);
      due("2 making", x.making(), i);
      due("2 there now", x.told(i, 0), 1);
      due("2 so many", x.count(0), i + 1);
    }
    for (int n = 0; n < 3; n++) due("2 full", x.making(), FULL);
    due("2 four still", x.count(0), 4);
    due("2 no fifth", x.told(4, 0), UNKNOWN);
  }

  private static void noMakingOnceAVersionIsKept() {
    for (int n = 0; n <= 4; n++) {
      CradleNets x = withMakings(n);
      due("2 keep", x.keep(), 0);
      due("2 state with " + n, x.making(), STATE);
      due("2 recall", x.recall(0), 1);
      due("2 state behind a recall", x.making(), STATE);
      due("2 as many", x.count(0), n);
    }
  }

  private static void sixVersionsAndNoMore() {
    for (int n = 0; n <= 4; n += 4) {
      CradleNets x = withMakings(n);
      for (int v = 0; v < 6; v++) {
        due("20 not there yet", x.recall(v), UNKNOWN);
        due("20 keep", x.keep(), v);
        due("20 so many", x.count(1), v + 1);
      }
      for (int m = 0; m < 3; m++) due("20 full", x.keep(), FULL);
      due("20 six still", x.count(1), 6);
      due("20 no seventh", x.recall(6), UNKNOWN);
      due("20 recall frees no place", x.recall(5), 1);
      due("20 full still", x.keep(), FULL);
    }
  }

  // "At most 512 calls": the last of them is answered as any other.
  private static void theLastOf512Calls() {
    CradleNets x = withMakings(4);
    int calls = 4;
    for (; calls < 505; calls++) due("3 call " + calls, x.out(calls % 4, 1 + calls % 6), calls < 8 ? 1 : 1 + (calls - 4) % 6);
    for (int v = 0; v < 6; v++, calls++) due("20 keep", x.keep(), v);
    // each own entry is OUT times ALL, and that is OUT: no by-products, and weights of 1
    long want = 1;
    for (int told = 501; told < 505; told++) want *= (1 + told % 6) * (1 + told % 6);
    due("11 the last call", x.worth(), want);
    due("calls", calls + 1, 512);
  }

  // ---- how far MAIN, ALL, THE TABLE and THE WORTH go

  private static CradleNets withMost(int rule) {
    CradleNets x = withMakings(4);
    for (int i = 0; i < 4; i++) {
      x.out(i, 6);
      x.good(i, 5, 5);
      x.rule(i, rule);
      for (int j = 0; j < 4; j++) if (j != i) x.by(i, j, 6);
    }
    return x;
  }

  private static void greatestTable() {
    for (int rule = 0; rule < 2; rule++) {
      CradleNets x = withMost(rule);
      for (int i = 0; i < 4; i++) {
        due("9 greatest main", x.told(i, 2), 30);
        due("9 greatest all", x.told(i, 3), 30 + 3 * 6 * 5);
        due("10 greatest entry", x.entry(i, i), 720);
      }
      due("11 above an int", x.worth(), 720L * 720 * 720 * 720);
      for (int i = 0; i < 4; i++) for (int j = 0; j < 4; j++) x.needs(i, j, 6);
      due("10 least entry", x.entry(1, 0), -180);
      due("10 own need", x.entry(3, 3), 540);
      due("11 nothing left", x.worth(), 0);
      due("23 all are there", x.count(3), 16);
    }
  }

  private static void tableOfTheAvoided() {
    CradleNets x = withMost(2);
    due("9 main is 1", x.told(0, 2), 1);
    due("9 all is 1", x.told(0, 3), 1);
    due("10 greatest out", x.entry(0, 0), 6);
    due("10 greatest by-product", x.entry(3, 0), 6);
    due("11 all alike", x.worth(), 0);
    for (int i = 0; i < 4; i++) { x.out(i, 1); for (int j = 0; j < 4; j++) { if (j != i) x.by(i, j, 0); x.needs(i, j, 6); } }
    due("10 least own", x.entry(2, 2), -5);
    due("10 least other", x.entry(1, 2), -6);
    // the ones less six everywhere: 1 less 6 * 4
    due("11 below 0", x.worth(), -23);
  }

  // Each of three needs thirty times what it brings of the next: 20 by 6, times 180 by 6 twice, times 3000.
  private static void answersAboveAnInt() {
    CradleNets x = withMakings(4);
    for (int i = 0; i < 3; i++) {
      x.out(i, 6);
      x.good(i, 5, 5);
      x.needs(i, i, 6);
      x.by(i, 3, 1);
      if (i < 2) x.needs(i, i + 1, 6);
    }
    x.put(0, 0, 20);
    due("11 worth", x.worth(), 6 * 6 * 6);
    due("13 above an int in thousandths of the worth", x.runs(0, 2), 3000L * 31 * 1000);
    answersOfTheThirdAre(x, 100, 9000000);
  }

  // The same backwards, at each step: 20 by -1, times 30 by -1 twice, times 500.
  private static void answersBelowAnInt() {
    CradleNets x = withMakings(4);
    for (int i = 0; i < 3; i++) {
      x.good(i, 5, 5);
      x.needs(i, i, 2);
      x.by(i, 3, 4);
      if (i < 2) x.needs(i, i + 1, 6);
    }
    x.put(0, 0, 20);
    due("11 worth", x.worth(), -1);
    due("13 backwards", x.runs(0, 2), -18000L * 9 * 1000);
    answersOfTheThirdAre(x, 100, -9000000);
  }

  private static void answersOfTheThirdAre(CradleNets x, int emitted, long whole) {
    due("20 keep", x.keep(), 0);
    due("6 emits", x.emits(2, 0, emitted, emitted, emitted), 1);
    for (int side = 0; side < 3; side++) due("14 total", x.total(0, 0, side, 0), whole);
    due("14 total, below", x.total(0, 0, 1, 1), 1);
    due("15 share", x.share(0, 0, 2), 1000 * whole);
    due("16 way", x.way(0, 0, 0, 1, 2), 1000 * whole);
    due("22 blame", x.blame(0, 0, 0, 2), 1000 * whole);
    due("17 sure", x.sure(0, 1, 0), whole > 0 ? 0 : 1);
    due("18 most", x.most(0, 0), whole > 0 ? 2 : 0);
  }

  private static void leastMainAndAll() {
    for (int rule = 0; rule < 3; rule++) {
      CradleNets x = withMakings(4);
      x.rule(0, rule);
      due("9 least main", x.told(0, 2), 1);
      due("9 least all", x.told(0, 3), 1);
      x.needs(0, 0, 6);
      due("10 least own", x.entry(0, 0), -5);
      x.needs(0, 0, 1);
      due("10 just 0", x.entry(0, 0), 0);
    }
  }

  public static void main(String[] args) {
    outIs1To6();
    needsAre0To6OfEachGood();
    byProductsAre0To6OfEachOtherGood();
    rulesAre0To2();
    basketsHold0To20OfEachGood();
    weightAndPriceAre1To5();
    emitsAre0To100();
    toldIsBetween();
    eachStuffOfEachMakingIsItsOwn();
    makingsAreKnownWhenMade();
    goodsAreKnownWhenMade();
    waysGoThroughKnownMakings();
    basketsAre0To3();
    stuffsAre0To2();
    versionsAreKnownWhenKept();
    whatIsAskedHasItsEnds();
    fourMakingsAndNoMore();
    noMakingOnceAVersionIsKept();
    sixVersionsAndNoMore();
    theLastOf512Calls();
    greatestTable();
    tableOfTheAvoided();
    leastMainAndAll();
    answersAboveAnInt();
    answersBelowAnInt();
    System.out.println(wrong == 0 ? "all limits hold" : wrong + " answers are not as due");
    if (wrong != 0) System.exit(1);
  }
}
