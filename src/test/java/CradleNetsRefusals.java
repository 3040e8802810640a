import java.util.ArrayList;
import java.util.List;
import java.util.function.Supplier;

/**
 * Each refusal of each call, which of two is told where they meet, and that nothing has changed behind it: a twin that
 * was never asked tells the same of everything, its VERSIONS too.
 */
public final class CradleNetsRefusals {
  private static final int UNKNOWN = -101, OUTSIDE = -102, STATE = -103, BOUND = -104, FULL = -105, NONE = -1;
  private static final int NO_ENTRY = -1000000;
  private static final long UNKNOWN_L = -9000000000000000001L;
  private static final long OUTSIDE_L = -9000000000000000002L;
  private static final long BOUND_L = -9000000000000000004L;

  private interface Call { long on(CradleNets x); }

  private static int wrong = 0;

  private static void due(String what, long got, long want) {
    if (got != want) { wrong++; System.out.println(what + " answered " + got + ", due is " + want); }
  }

  // ---- objects to be asked

  private static CradleNets withMakings(int n) {
    CradleNets x = new CradleNets();
    for (int i = 0; i < n; i++) {
      x.making();
      x.out(i, 2 + i);
      x.good(i, 1 + i, 5 - i);
      x.rule(i, i % 3);
      x.needs(i, i, 1);
      for (int k = 0; k < 3; k++) x.emits(i, k, 10 + i + k, 20 + 2 * i + k, 40 + i + 3 * k);
    }
    for (int i = 0; i < n; i++) {
      int next = (i + 1) % n;
      x.needs(i, next, 1 + i);
      if (next != i) x.by(i, next, 3 - i % 3);
      for (int b = 0; b < 4; b++) x.put(b, i, 3 + 4 * b + i);
    }
    return x;
  }

  private static CradleNets withVersions(int makings, int versions) {
    CradleNets x = withMakings(makings);
    for (int v = 0; v < versions; v++) {
      if (makings > 0) x.emits(0, 0, v, 10 + v, 60 + v);
      x.keep();
    }
    if (makings > 1) x.needs(1, 0, 2);
    return x;
  }

  // Room for more of both: MAKING 3 and VERSION 2 are not there, though there may be such ones.
  private static CradleNets some() {
    return withVersions(3, 2);
  }

  // Making 0 neither takes nor gives anything: its column of THE TABLE is 0, and so is THE WORTH.
  private static CradleNets stuck() {
    CradleNets x = some();
    x.rule(0, 2);
    x.out(0, 1);
    x.needs(0, 1, 0);
    x.by(0, 1, 0);
    return x;
  }

  private static CradleNets full() {
    return withVersions(4, 6);
  }

  // ---- what can be seen of them

  // recall() and put() come last, for they change what is seen; then whether there is still room.
  private static List<Long> everything(CradleNets x) {
    List<Long> seen = new ArrayList<>();
    for (int what = 0; what < 4; what++) seen.add((long) x.count(what));
    for (int n = 0; n < 4 * 23; n++) seen.add((long) x.told(n / 23, n % 23));
    for (int n = 0; n < 16; n++) seen.add((long) x.entry(n / 4, n % 4));
    seen.add(x.worth());
    seen.add(x.digest());
    for (int b = 0; b < 4; b++) {
      seen.add((long) x.turned(b));
      for (int i = 0; i < 4; i++) seen.add(x.runs(b, i));
      for (int n = 0; n < 18; n++) seen.add(x.total(b, n / 6, n / 2 % 3, n % 2));
    }
    for (int n = 0; n < 24; n++) seen.add(x.blame(n / 4, 3, 0, n % 4));
    for (int v = 0; v < 6; v++) {
      seen.add((long) x.recall(v));
      seen.add(x.digest());
    }
    for (int n = 0; n < 16; n++) seen.add((long) x.put(n / 4, n % 4, 0));
    seen.add((long) x.making());
    seen.add((long) x.keep());
    return seen;
  }

  private static void leavesAll(String what, Supplier<CradleNets> made, long want, Call call) {
    CradleNets asked = made.get();
    CradleNets twin = made.get();
    due(what, call.on(asked), want);
    if (!everything(asked).equals(everything(twin))) { wrong++; System.out.println(what + ": something has changed"); }
  }

  // UNKNOWN and OUTSIDE come before BOUND, so they are told whether THE WORTH is 0 or not.
  private static void refused(String what, long want, Call call) {
    leavesAll(what, CradleNetsRefusals::some, want, call);
    leavesAll(what + ", worth 0", CradleNetsRefusals::stuck, want, call);
  }

  private static void bound(String what, long want, Call call) {
    leavesAll(what, CradleNetsRefusals::stuck, want, call);
    long otherwise = call.on(some());
    if (otherwise == want) { wrong++; System.out.println(what + ": bound without need"); }
  }

  // ---- the book

  private static void making() {
    leavesAll("2 full", () -> withMakings(4), FULL, x -> x.making());
    leavesAll("2 versions", CradleNetsRefusals::some, STATE, x -> x.making());
    leavesAll("2 versions of nothing", () -> withVersions(0, 1), STATE, x -> x.making());
    leavesAll("2 state before full", CradleNetsRefusals::full, STATE, x -> x.making());
    leavesAll("2 state before full, one version", () -> withVersions(4, 1), STATE, x -> x.making());
  }

  private static void outAndRule() {
    refused("3 unknown", UNKNOWN, x -> x.out(3, 2));
    refused("3 unknown, below", UNKNOWN, x -> x.out(-1, 2));
    refused("3 too small", OUTSIDE, x -> x.out(0, 0));
    refused("3 too large", OUTSIDE, x -> x.out(2, 7));
    refused("3 unknown before too small", UNKNOWN, x -> x.out(3, 0));
    refused("3 unknown before too large", UNKNOWN, x -> x.out(-1, 7));
    refused("8 unknown", UNKNOWN, x -> x.rule(3, 1));
    refused("8 unknown, below", UNKNOWN, x -> x.rule(-1, 1));
    refused("8 too small", OUTSIDE, x -> x.rule(1, -1));
    refused("8 too large", OUTSIDE, x -> x.rule(1, 3));
    refused("8 unknown before too small", UNKNOWN, x -> x.rule(-1, -1));
    refused("8 unknown before too large", UNKNOWN, x -> x.rule(3, 3));
  }

  private static void needs() {
    refused("4 unknown i", UNKNOWN, x -> x.needs(3, 0, 1));
    refused("4 unknown j", UNKNOWN, x -> x.needs(0, 3, 1));
    refused("4 unknown both", UNKNOWN, x -> x.needs(3, 3, 1));
    refused("4 below i", UNKNOWN, x -> x.needs(-1, 0, 1));
    refused("4 below j", UNKNOWN, x -> x.needs(0, -1, 1));
    refused("4 too small", OUTSIDE, x -> x.needs(0, 1, -1));
    refused("4 too large", OUTSIDE, x -> x.needs(2, 2, 7));
    refused("4 unknown i before too small", UNKNOWN, x -> x.needs(3, 0, -1));
    refused("4 unknown i before too large", UNKNOWN, x -> x.needs(-1, 0, 7));
    refused("4 unknown j before too small", UNKNOWN, x -> x.needs(0, -1, -1));
    refused("4 unknown j before too large", UNKNOWN, x -> x.needs(0, 3, 7));
  }

  private static void by() {
    refused("5 unknown i", UNKNOWN, x -> x.by(3, 0, 1));
    refused("5 unknown j", UNKNOWN, x -> x.by(0, 3, 1));
    refused("5 below i", UNKNOWN, x -> x.by(-1, 0, 1));
    refused("5 below j", UNKNOWN, x -> x.by(0, -1, 1));
    refused("5 too small", OUTSIDE, x -> x.by(0, 1, -1));
    refused("5 too large", OUTSIDE, x -> x.by(2, 0, 7));
    refused("5 its own", OUTSIDE, x -> x.by(1, 1, 1));
    refused("5 its own, nothing", OUTSIDE, x -> x.by(1, 1, 0));
    refused("5 its own, too large", OUTSIDE, x -> x.by(1, 1, 7));
    refused("5 unknown before its own", UNKNOWN, x -> x.by(3, 3, 1));
    refused("5 unknown before its own, below", UNKNOWN, x -> x.by(-1, -1, 1));
    refused("5 unknown i before too large", UNKNOWN, x -> x.by(3, 0, 7));
    refused("5 unknown j before too small", UNKNOWN, x -> x.by(0, 3, -1));
  }

  private static void emits() {
    refused("6 unknown i", UNKNOWN, x -> x.emits(3, 0, 1, 2, 3));
    refused("6 unknown k", UNKNOWN, x -> x.emits(0, 3, 1, 2, 3));
    refused("6 below i", UNKNOWN, x -> x.emits(-1, 0, 1, 2, 3));
    refused("6 below k", UNKNOWN, x -> x.emits(0, -1, 1, 2, 3));
    refused("6 least too small", OUTSIDE, x -> x.emits(0, 0, -1, 2, 3));
    refused("6 greatest too large", OUTSIDE, x -> x.emits(0, 0, 1, 2, 101));
    refused("6 all too small", OUTSIDE, x -> x.emits(2, 2, -1, -1, -1));
    refused("6 all too large", OUTSIDE, x -> x.emits(2, 2, 101, 101, 101));
    refused("6 told below least", OUTSIDE, x -> x.emits(1, 1, 5, 4, 6));
    refused("6 told above greatest", OUTSIDE, x -> x.emits(1, 1, 5, 7, 6));
    refused("6 unknown i before too small", UNKNOWN, x -> x.emits(3, 0, -1, 2, 3));
    refused("6 unknown i before not between", UNKNOWN, x -> x.emits(-1, 0, 5, 4, 6));
    refused("6 unknown k before too large", UNKNOWN, x -> x.emits(0, 3, 1, 2, 101));
    refused("6 unknown k before not between", UNKNOWN, x -> x.emits(0, -1, 5, 7, 6));
  }

  private static void good() {
    refused("7 unknown", UNKNOWN, x -> x.good(3, 2, 2));
    refused("7 below", UNKNOWN, x -> x.good(-1, 2, 2));
    refused("7 weight too small", OUTSIDE, x -> x.good(0, 0, 2));
    refused("7 weight too large", OUTSIDE, x -> x.good(1, 6, 2));
    refused("7 price too small", OUTSIDE, x -> x.good(2, 4, 0));
    refused("7 price too large", OUTSIDE, x -> x.good(2, 4, 6));
    refused("7 unknown before weight", UNKNOWN, x -> x.good(3, 0, 2));
    refused("7 unknown before price", UNKNOWN, x -> x.good(-1, 2, 6));
  }

  private static void toldAndEntry() {
    refused("9 unknown", UNKNOWN, x -> x.told(3, 0));
    refused("9 below", UNKNOWN, x -> x.told(-1, 0));
    refused("9 too small", OUTSIDE, x -> x.told(0, -1));
    refused("9 too large", OUTSIDE, x -> x.told(0, 23));
    refused("9 unknown before too small", UNKNOWN, x -> x.told(-1, -1));
    refused("9 unknown before too large", UNKNOWN, x -> x.told(3, 23));
    refused("10 unknown j", NO_ENTRY, x -> x.entry(3, 0));
    refused("10 unknown i", NO_ENTRY, x -> x.entry(0, 3));
    refused("10 both", NO_ENTRY, x -> x.entry(3, 3));
    refused("10 below j", NO_ENTRY, x -> x.entry(-1, 0));
    refused("10 below i", NO_ENTRY, x -> x.entry(0, -1));
  }

  // ---- baskets

  private static void put() {
    refused("12 unknown b", UNKNOWN, x -> x.put(4, 0, 1));
    refused("12 unknown j", UNKNOWN, x -> x.put(0, 3, 1));
    refused("12 below b", UNKNOWN, x -> x.put(-1, 0, 1));
    refused("12 below j", UNKNOWN, x -> x.put(0, -1, 1));
    refused("12 too small", OUTSIDE, x -> x.put(3, 2, -1));
    refused("12 too large", OUTSIDE, x -> x.put(0, 0, 21));
    refused("12 unknown b before too small", UNKNOWN, x -> x.put(4, 0, -1));
    refused("12 unknown b before too large", UNKNOWN, x -> x.put(-1, 0, 21));
    refused("12 unknown j before too small", UNKNOWN, x -> x.put(0, -1, -1));
    refused("12 unknown j before too large", UNKNOWN, x -> x.put(0, 3, 21));
  }

  private static void runsAndShare() {
    refused("13 unknown b", UNKNOWN_L, x -> x.runs(4, 0));
    refused("13 unknown i", UNKNOWN_L, x -> x.runs(0, 3));
    refused("13 below b", UNKNOWN_L, x -> x.runs(-1, 0));
    refused("13 below i", UNKNOWN_L, x -> x.runs(0, -1));
    for (int n = 0; n < 3; n++) {
      int i = n;
      bound("13 bound " + i, BOUND_L, x -> x.runs(i, i));
      bound("15 bound " + i, BOUND_L, x -> x.share(i, i, i));
    }
    refused("15 unknown b", UNKNOWN_L, x -> x.share(4, 0, 0));
    refused("15 unknown k", UNKNOWN_L, x -> x.share(0, 3, 0));
    refused("15 unknown i", UNKNOWN_L, x -> x.share(0, 0, 3));
    refused("15 below b", UNKNOWN_L, x -> x.share(-1, 0, 0));
    refused("15 below k", UNKNOWN_L, x -> x.share(0, -1, 0));
    refused("15 below i", UNKNOWN_L, x -> x.share(0, 0, -1));
  }

  private static void total() {
    refused("14 unknown b", UNKNOWN_L, x -> x.total(4, 0, 0, 0));
    refused("14 unknown k", UNKNOWN_L, x -> x.total(0, 3, 0, 0));
    refused("14 below b", UNKNOWN_L, x -> x.total(-1, 0, 0, 0));
    refused("14 below k", UNKNOWN_L, x -> x.total(0, -1, 0, 0));
    refused("14 side too small", OUTSIDE_L, x -> x.total(0, 0, -1, 0));
    refused("14 side too large", OUTSIDE_L, x -> x.total(0, 0, 3, 0));
    refused("14 part too small", OUTSIDE_L, x -> x.total(0, 0, 0, -1));
    refused("14 part too large", OUTSIDE_L, x -> x.total(0, 0, 0, 2));
    refused("14 unknown b before side", UNKNOWN_L, x -> x.total(4, 0, 3, 0));
    refused("14 unknown b before part", UNKNOWN_L, x -> x.total(-1, 0, 0, 2));
    refused("14 unknown k before side", UNKNOWN_L, x -> x.total(0, 3, -1, 0));
    refused("14 unknown k before part", UNKNOWN_L, x -> x.total(0, -1, 0, -1));
    for (int n = 0; n < 6; n++) {
      int side = n / 2, part = n % 2;
      bound("14 bound " + n, BOUND_L, x -> x.total(3, 2, side, part));
    }
  }

  private static void wayUnknown() {
    refused("16 unknown b", UNKNOWN_L, x -> x.way(4, 0, 0, 1, 2));
    refused("16 unknown k", UNKNOWN_L, x -> x.way(0, 3, 0, 1, 2));
    refused("16 unknown a", UNKNOWN_L, x -> x.way(0, 0, 3, 1, 2));
    refused("16 unknown b2", UNKNOWN_L, x -> x.way(0, 0, 0, 3, 2));
    refused("16 unknown c", UNKNOWN_L, x -> x.way(0, 0, 0, 1, 3));
    refused("16 below b", UNKNOWN_L, x -> x.way(-1, 0, 0, 1, 2));
    refused("16 below k", UNKNOWN_L, x -> x.way(0, -1, 0, 1, 2));
    refused("16 a is no one", UNKNOWN_L, x -> x.way(0, 0, NONE, 1, 2));
    refused("16 all are no one", UNKNOWN_L, x -> x.way(0, 0, NONE, NONE, NONE));
    refused("16 below b2", UNKNOWN_L, x -> x.way(0, 0, 0, -2, 2));
    refused("16 below c", UNKNOWN_L, x -> x.way(0, 0, 0, 1, -2));
  }

  private static void wayOutside() {
    refused("16 c without b2", OUTSIDE_L, x -> x.way(0, 0, 0, NONE, 1));
    refused("16 c without b2, back at a", OUTSIDE_L, x -> x.way(0, 0, 0, NONE, 0));
    refused("16 a is b2", OUTSIDE_L, x -> x.way(0, 0, 0, 0, NONE));
    refused("16 a is b2, and on", OUTSIDE_L, x -> x.way(0, 0, 0, 0, 1));
    refused("16 b2 is c", OUTSIDE_L, x -> x.way(0, 0, 0, 1, 1));
    refused("16 all the same", OUTSIDE_L, x -> x.way(0, 0, 0, 0, 0));
    refused("16 unknown b before c without b2", UNKNOWN_L, x -> x.way(4, 0, 0, NONE, 1));
    refused("16 unknown k before the same", UNKNOWN_L, x -> x.way(0, 3, 0, 0, NONE));
    refused("16 unknown a before c without b2", UNKNOWN_L, x -> x.way(0, 0, 3, NONE, 1));
    refused("16 unknown a before it is b2", UNKNOWN_L, x -> x.way(0, 0, 3, 3, NONE));
    refused("16 unknown b2 before it is c", UNKNOWN_L, x -> x.way(0, 0, 0, 3, 3));
    refused("16 unknown c before c without b2", UNKNOWN_L, x -> x.way(0, 0, 0, NONE, 3));
    refused("16 unknown c before a is b2", UNKNOWN_L, x -> x.way(0, 0, 0, 0, 3));
  }

  private static void wayBound() {
    bound("16 bound, first and last", BOUND_L, x -> x.way(0, 0, 0, NONE, NONE));
    bound("16 bound, first of two", BOUND_L, x -> x.way(0, 0, 0, 1, NONE));
    bound("16 bound, last of two", BOUND_L, x -> x.way(0, 0, 1, 0, NONE));
    bound("16 bound, first of three", BOUND_L, x -> x.way(0, 0, 0, 1, 2));
    bound("16 bound, between", BOUND_L, x -> x.way(0, 0, 1, 0, 2));
    bound("16 bound, last of three", BOUND_L, x -> x.way(0, 0, 1, 2, 0));
    bound("16 bound, there and back", BOUND_L, x -> x.way(0, 0, 0, 1, 0));
  }

  private static void sureMostTurned() {
    refused("17 unknown a", UNKNOWN, x -> x.sure(4, 0, 0));
    refused("17 unknown b", UNKNOWN, x -> x.sure(0, 4, 0));
    refused("17 unknown k", UNKNOWN, x -> x.sure(0, 0, 3));
    refused("17 below a", UNKNOWN, x -> x.sure(-1, 0, 0));
    refused("17 below b", UNKNOWN, x -> x.sure(0, -1, 0));
    refused("17 below k", UNKNOWN, x -> x.sure(0, 0, -1));
    bound("17 bound", BOUND, x -> x.sure(0, 1, 0));
    bound("17 bound, itself", BOUND, x -> x.sure(2, 2, 2));
    refused("18 unknown b", UNKNOWN, x -> x.most(4, 0));
    refused("18 unknown k", UNKNOWN, x -> x.most(0, 3));
    refused("18 below b", UNKNOWN, x -> x.most(-1, 0));
    refused("18 below k", UNKNOWN, x -> x.most(0, -1));
    bound("18 bound", BOUND, x -> x.most(0, 0));
    refused("19 unknown", UNKNOWN, x -> x.turned(4));
    refused("19 below", UNKNOWN, x -> x.turned(-1));
    bound("19 bound", BOUND, x -> x.turned(0));
  }

  // ---- versions, and what is told

  private static void keepAndRecall() {
    leavesAll("20 full", CradleNetsRefusals::full, FULL, x -> x.keep());
    leavesAll("20 full of nothing", () -> withVersions(0, 6), FULL, x -> x.keep());
    refused("21 unknown", UNKNOWN, x -> x.recall(2));
    refused("21 below", UNKNOWN, x -> x.recall(-1));
    leavesAll("21 unknown of full", CradleNetsRefusals::full, UNKNOWN, x -> x.recall(6));
    leavesAll("21 unknown of none", () -> withMakings(4), UNKNOWN, x -> x.recall(0));
  }

  private static void blame() {
    refused("22 unknown v", UNKNOWN_L, x -> x.blame(2, 0, 0, 0));
    refused("22 unknown b", UNKNOWN_L, x -> x.blame(0, 4, 0, 0));
    refused("22 unknown k", UNKNOWN_L, x -> x.blame(0, 0, 3, 0));
    refused("22 unknown i", UNKNOWN_L, x -> x.blame(0, 0, 0, 3));
    refused("22 below v", UNKNOWN_L, x -> x.blame(-1, 0, 0, 0));
    refused("22 below b", UNKNOWN_L, x -> x.blame(0, -1, 0, 0));
    refused("22 below k", UNKNOWN_L, x -> x.blame(0, 0, -1, 0));
    refused("22 below i", UNKNOWN_L, x -> x.blame(0, 0, 0, -1));
    leavesAll("22 unknown of none", () -> withMakings(4), UNKNOWN_L, x -> x.blame(0, 0, 0, 0));
    bound("22 bound, the latter alone", BOUND_L, x -> x.blame(1, 2, 1, 0));
    bound("22 bound, both", BOUND_L, x -> x.blame(0, 3, 2, 2));
    leavesAll("22 bound, the former alone", CradleNetsRefusals::onceStuck, BOUND_L, x -> x.blame(2, 3, 2, 0));
  }

  private static CradleNets onceStuck() {
    CradleNets x = stuck();
    x.keep();
    x.out(0, 2);
    return x;
  }

  private static void count() {
    refused("23 too small", OUTSIDE, x -> x.count(-1));
    refused("23 too large", OUTSIDE, x -> x.count(4));
  }

  // ---- calls that are not refused, and only ask

  private static void asked(String what, Call call) {
    leavesAll(what, CradleNetsRefusals::some, call.on(some()), call);
    leavesAll(what + ", full", CradleNetsRefusals::full, call.on(full()), call);
    leavesAll(what + ", nothing there", CradleNets::new, call.on(new CradleNets()), call);
  }

  private static void askingChangesNothing() {
    asked("9 told", x -> x.told(0, 3));
    asked("10 entry", x -> x.entry(1, 0));
    asked("11 worth", x -> x.worth());
    asked("13 runs", x -> x.runs(1, 1));
    asked("14 total", x -> x.total(1, 0, 2, 0));
    asked("15 share", x -> x.share(2, 1, 0));
    asked("16 way", x -> x.way(2, 0, 0, 1, 2));
    asked("17 sure", x -> x.sure(0, 1, 0));
    asked("18 most", x -> x.most(1, 1));
    asked("19 turned", x -> x.turned(1));
    asked("22 blame", x -> x.blame(0, 1, 0, 1));
    asked("23 count", x -> x.count(3));
    asked("24 digest", x -> x.digest());
  }

  // ---- a new object: no number of a MAKING, a GOOD or a VERSION names anything

  private static void nothingThere(String what, long want, Call call) {
    leavesAll(what + ", nothing there", CradleNets::new, want, call);
  }

  private static void newObject() {
    nothingThere("3", UNKNOWN, x -> x.out(0, 1));
    nothingThere("4", UNKNOWN, x -> x.needs(0, 0, 0));
    nothingThere("5", UNKNOWN, x -> x.by(0, 1, 0));
    nothingThere("6", UNKNOWN, x -> x.emits(0, 0, 0, 0, 0));
    nothingThere("7", UNKNOWN, x -> x.good(0, 1, 1));
    nothingThere("8", UNKNOWN, x -> x.rule(0, 0));
    nothingThere("9", UNKNOWN, x -> x.told(0, 0));
    nothingThere("10", NO_ENTRY, x -> x.entry(0, 0));
    nothingThere("12", UNKNOWN, x -> x.put(0, 0, 0));
    nothingThere("13", UNKNOWN_L, x -> x.runs(0, 0));
    nothingThere("14", UNKNOWN_L, x -> x.total(4, 0, 0, 0));
    nothingThere("14", OUTSIDE_L, x -> x.total(0, 0, 3, 0));
    nothingThere("15", UNKNOWN_L, x -> x.share(0, 0, 0));
    nothingThere("16", UNKNOWN_L, x -> x.way(0, 0, 0, NONE, NONE));
    nothingThere("17", UNKNOWN, x -> x.sure(0, 4, 0));
    nothingThere("18, before none", UNKNOWN, x -> x.most(4, 0));
    nothingThere("18, before none", UNKNOWN, x -> x.most(0, 3));
    nothingThere("19, before none", UNKNOWN, x -> x.turned(4));
    nothingThere("21", UNKNOWN, x -> x.recall(0));
    nothingThere("22", UNKNOWN_L, x -> x.blame(0, 0, 0, 0));
    nothingThere("23", OUTSIDE, x -> x.count(4));
  }

  public static void main(String[] args) {
    due("worth of the stuck", stuck().worth(), 0);
    making();
    outAndRule();
    needs();
    by();
    emits();
    good();
    toldAndEntry();
    put();
    runsAndShare();
    total();
    wayUnknown();
    wayOutside();
    wayBound();
    sureMostTurned();
    keepAndRecall();
    blame();
    count();
    askingChangesNothing();
    newObject();
    System.out.println(wrong == 0 ? "all refusals are as due" : wrong + " things are not as due");
    if (wrong != 0) System.exit(1);
  }
}
