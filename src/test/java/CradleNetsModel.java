import java.math.BigInteger;
import java.util.ArrayList;
import java.util.List;
import java.util.Random;
import java.util.TreeMap;

/**
 * Long runs of mixed calls, right and wrong ones, against a second, slow reading of the document:
 * fractions of BigInteger, elimination, and every choice of emissions tried one by one.
 */
public final class CradleNetsModel {
  private static final int RUNS = 1200;
  private static final int CALLS = 512;
  private static final String[] NAMES = {
    "making", "out", "needs", "by", "emits", "good", "rule", "told", "entry", "worth", "put", "runs", "total",
    "share", "way", "sure", "most", "turned", "keep", "recall", "blame", "count", "digest"};

  /** A fraction in lowest terms, below above 0. */
  private static final class Frac {
    static final Frac ZERO = new Frac(BigInteger.ZERO, BigInteger.ONE);
    final BigInteger above;
    final BigInteger below;

    Frac(BigInteger above, BigInteger below) {
      BigInteger d = above.gcd(below);
      if (below.signum() < 0) d = d.negate();
      this.above = above.divide(d);
      this.below = below.divide(d);
    }

    static Frac of(long n) { return new Frac(BigInteger.valueOf(n), BigInteger.ONE); }
    Frac plus(Frac o) { return new Frac(above.multiply(o.below).add(o.above.multiply(below)), below.multiply(o.below)); }
    Frac times(Frac o) { return new Frac(above.multiply(o.above), below.multiply(o.below)); }
    Frac by(Frac o) { return new Frac(above.multiply(o.below), below.multiply(o.above)); }
    Frac less(Frac o) { return plus(o.times(of(-1))); }
    int sign() { return above.signum(); }
    int compare(Frac o) { return less(o).sign(); }

    long thousandths() {
      BigInteger[] q = above.multiply(BigInteger.valueOf(1000)).divideAndRemainder(below);
      return (q[1].signum() < 0 ? q[0].subtract(BigInteger.ONE) : q[0]).longValueExact();
    }
  }

  /** What is told of one MAKING, with the weights and prices that it reckons by. */
  private static final class Made {
    int out = 1, rule = 0;
    int[] needs = new int[4], by = new int[4];
    int[][] emits = new int[3][3];
    int weight = 1, price = 1;

    Made copy() {
      Made m = new Made();
      m.out = out; m.rule = rule; m.needs = needs.clone(); m.by = by.clone();
      for (int k = 0; k < 3; k++) m.emits[k] = emits[k].clone();
      m.weight = weight; m.price = price;
      return m;
    }
  }

  private static final class Refused extends Exception {
    private static final long serialVersionUID = 1;
    final int why;
    Refused(int why) { this.why = why; }
  }

  private static final class Model {
    List<Made> now = new ArrayList<>();
    final List<List<Made>> versions = new ArrayList<>();
    final int[][] baskets = new int[4][4];

    static List<Made> copy(List<Made> from) {
      List<Made> to = new ArrayList<>();
      for (Made m : from) to.add(m.copy());
      return to;
    }

    void must(boolean so, int why) throws Refused { if (!so) throw new Refused(why); }
    void known(int n, int end) throws Refused { must(n >= 0 && n < end, -101); }
    void inside(int n, int least, int most) throws Refused { must(n >= least && n <= most, -102); }

    // book: where the measures of GOODS are looked up for this MAKING
    static int main(List<Made> book, int i) {
      Made m = book.get(i);
      return m.rule == 2 ? 1 : m.out * (m.rule == 0 ? m.weight : m.price);
    }

    static int all(List<Made> book, int i) {
      Made m = book.get(i);
      if (m.rule == 2) return 1;
      int sum = main(book, i);
      for (int j = 0; j < book.size(); j++) sum += m.by[j] * (m.rule == 0 ? book.get(j).weight : book.get(j).price);
      return sum;
    }

    static int entry(List<Made> book, int j, int i) {
      Made m = book.get(i);
      if (m.rule == 2) return (j == i ? m.out : 0) + m.by[j] - m.needs[j];
      return -m.needs[j] * main(book, i) + (j == i ? m.out * all(book, i) : 0);
    }

    // from.get(i): the book by which MAKING i is reckoned
    static List<List<Made>> each(List<Made> book) {
      List<List<Made>> from = new ArrayList<>();
      for (int i = 0; i < book.size(); i++) from.add(book);
      return from;
    }

    static long determinant(int[][] t, int row, boolean[] used) {
      if (row == t.length) return 1;
      long sum = 0;
      int sign = 1;
      for (int c = 0; c < t.length; c++) {
        if (used[c]) continue;
        used[c] = true;
        sum += sign * t[row][c] * determinant(t, row + 1, used);
        used[c] = false;
        sign = -sign;
      }
      return sum;
    }

    static long worth(List<List<Made>> from) {
      int n = from.size();
      int[][] t = new int[n][n];
      for (int j = 0; j < n; j++) for (int i = 0; i < n; i++) t[j][i] = entry(from.get(i), j, i);
      return determinant(t, 0, new boolean[n]);
    }

    Frac[] rounds(List<List<Made>> from, int b) throws Refused {
      int n = from.size();
      Frac[][] t = new Frac[n][n + 1];
      for (int j = 0; j < n; j++) {
        for (int i = 0; i < n; i++) t[j][i] = Frac.of(entry(from.get(i), j, i));
        t[j][n] = Frac.of(baskets[b][j]);
      }
      for (int c = 0; c < n; c++) {
        int p = c;
        while (p < n && t[p][c].sign() == 0) p++;
        must(p < n, -104);
        Frac[] swap = t[p]; t[p] = t[c]; t[c] = swap;
        for (int r = 0; r < n; r++) {
          if (r == c) continue;
          Frac f = t[r][c].by(t[c][c]);
          for (int x = c; x <= n; x++) t[r][x] = t[r][x].less(f.times(t[c][x]));
        }
      }
      Frac[] x = new Frac[n];
      for (int i = 0; i < n; i++) x[i] = t[i][n].by(t[i][i]);
      return x;
    }

    static Frac emission(List<Made> book, int i, int k, int side) {
      return Frac.of((long) book.get(i).emits[k][side] * main(book, i));
    }

    Frac sum(List<List<Made>> from, int k, Frac[] x, int[] sides) {
      Frac sum = Frac.ZERO;
      for (int i = 0; i < x.length; i++) sum = sum.plus(emission(from.get(i), i, k, sides[i]).times(x[i]));
      return sum;
    }

    // of all choices of least or greatest for each MAKING: the least and the greatest sum
    Frac[] ends(List<List<Made>> from, int k, Frac[] x) {
      Frac[] ends = new Frac[2];
      for (int choice = 0; choice < 1 << x.length; choice++) {
        int[] sides = new int[x.length];
        for (int i = 0; i < x.length; i++) sides[i] = (choice >> i & 1) == 0 ? 0 : 2;
        Frac s = sum(from, k, x, sides);
        if (ends[0] == null || s.compare(ends[0]) < 0) ends[0] = s;
        if (ends[1] == null || s.compare(ends[1]) > 0) ends[1] = s;
      }
      return ends;
    }

    Frac toldTotal(List<List<Made>> from, int b, int k) throws Refused {
      Frac[] x = rounds(from, b);
      int[] sides = new int[x.length];
      java.util.Arrays.fill(sides, 1);
      return sum(from, k, x, sides);
    }

    Frac total(int b, int k, int side) throws Refused {
      if (side == 1) return toldTotal(each(now), b, k);
      return ends(each(now), k, rounds(each(now), b))[side / 2];
    }

    int told(int i, int what) throws Refused {
      known(i, now.size());
      inside(what, 0, 22);
      Made m = now.get(i);
      if (what == 0) return m.out;
      if (what == 1) return m.rule;
      if (what == 2) return main(now, i);
      if (what == 3) return all(now, i);
      if (what < 8) return m.needs[what - 4];
      if (what < 12) return m.by[what - 8];
      if (what < 21) return m.emits[(what - 12) % 3][(what - 12) / 3];
      return what == 21 ? m.weight : m.price;
    }

    long digest() throws Refused {
      long h = 151;
      for (int i = 0; i < now.size(); i++) for (int w = 0; w <= 22; w++) h = 31 * h + told(i, w);
      for (int b = 0; b < 4; b++) for (int j = 0; j < now.size(); j++) h = 31 * h + baskets[b][j];
      h = 31 * h + versions.size();
      return 31 * h + worth(each(now));
    }

    Frac way(int b, int k, int a, int b2, int c) throws Refused {
      known(b, 4); known(k, 3); known(a, now.size());
      if (b2 != -1) known(b2, now.size());
      if (c != -1) known(c, now.size());
      must(b2 != -1 || c == -1, -102);
      must(a != b2, -102);
      must(b2 != c || c == -1, -102);
      int[] chain = c != -1 ? new int[] {a, b2, c} : b2 != -1 ? new int[] {a, b2} : new int[] {a};
      for (int x : chain) must(entry(now, x, x) != 0, -104);
      Frac f = Frac.of(baskets[b][a]).by(Frac.of(entry(now, a, a)));
      for (int s = 1; s < chain.length; s++) {
        f = f.times(Frac.of(-entry(now, chain[s], chain[s - 1]))).by(Frac.of(entry(now, chain[s], chain[s])));
      }
      return f.times(emission(now, chain[chain.length - 1], k, 1));
    }

    long blame(int v, int b, int k, int i) throws Refused {
      known(v, versions.size()); known(b, 4); known(k, 3); known(i, now.size());
      List<List<Made>> with = each(versions.get(v)), without = each(versions.get(v));
      for (int m = 0; m <= i; m++) with.set(m, now);
      for (int m = 0; m < i; m++) without.set(m, now);
      return toldTotal(with, b, k).thousandths() - toldTotal(without, b, k).thousandths();
    }

    int most(int b, int k) throws Refused {
      known(b, 4); known(k, 3);
      Frac[] x = rounds(each(now), b);
      int best = -1;
      Frac top = null;
      for (int i = x.length - 1; i >= 0; i--) {
        Frac f = emission(now, i, k, 1).times(x[i]);
        if (top == null || f.compare(top) >= 0) { top = f; best = i; }
      }
      return best;
    }

    int sure(int a, int b, int k) throws Refused {
      known(a, 4); known(b, 4); known(k, 3);
      Frac[] x = rounds(each(now), a), y = rounds(each(now), b);
      for (int i = 0; i < x.length; i++) x[i] = x[i].less(y[i]);
      return ends(each(now), k, x)[1].sign() > 0 ? 0 : 1;
    }

    int turned(int b) throws Refused {
      known(b, 4);
      Frac[] x = rounds(each(now), b);
      for (int i = 0; i < x.length; i++) if (x[i].sign() < 0) return i;
      return -1;
    }

    int count(int what) throws Refused {
      inside(what, 0, 3);
      if (what == 0) return now.size();
      if (what == 1) return versions.size();
      int n = 0;
      for (int i = 0; i < now.size(); i++) {
        if (what == 2) { for (int v : now.get(i).by) if (v != 0) { n++; break; } }
        if (what == 3) for (int j = 0; j < now.size(); j++) if (entry(now, j, i) != 0) n++;
      }
      return n;
    }

    long change(int call, int[] a) throws Refused {
      int n = now.size();
      int was;
      switch (call) {
        case 0: must(versions.isEmpty(), -103); must(n < 4, -105); now.add(new Made()); return n;
        case 1: known(a[0], n); inside(a[1], 1, 6); was = now.get(a[0]).out; now.get(a[0]).out = a[1]; return was;
        case 2: known(a[0], n); known(a[1], n); inside(a[2], 0, 6);
          was = now.get(a[0]).needs[a[1]]; now.get(a[0]).needs[a[1]] = a[2]; return was;
        case 3: known(a[0], n); known(a[1], n); inside(a[2], 0, 6); must(a[0] != a[1], -102);
          was = now.get(a[0]).by[a[1]]; now.get(a[0]).by[a[1]] = a[2]; return was;
        case 4: known(a[0], n); known(a[1], 3);
          for (int s = 2; s <= 4; s++) inside(a[s], 0, 100);
          must(a[2] <= a[3] && a[3] <= a[4], -102);
          now.get(a[0]).emits[a[1]] = new int[] {a[2], a[3], a[4]}; return 1;
        case 5: known(a[0], n); inside(a[1], 1, 5); inside(a[2], 1, 5);
          now.get(a[0]).weight = a[1]; now.get(a[0]).price = a[2]; return 1;
        case 6: known(a[0], n); inside(a[1], 0, 2); was = now.get(a[0]).rule; now.get(a[0]).rule = a[1]; return was;
        case 10: known(a[0], 4); known(a[1], n); inside(a[2], 0, 20);
          was = baskets[a[0]][a[1]]; baskets[a[0]][a[1]] = a[2]; return was;
        case 18: must(versions.size() < 6, -105); versions.add(copy(now)); return versions.size() - 1;
        default: known(a[0], versions.size()); now = copy(versions.get(a[0])); return 1;
      }
    }

    long ask(int call, int[] a) throws Refused {
      int n = now.size();
      switch (call) {
        case 7: return told(a[0], a[1]);
        case 8: known(a[0], n); known(a[1], n); return entry(now, a[0], a[1]);
        case 9: return worth(each(now));
        case 11: known(a[0], 4); known(a[1], n);
          return rounds(each(now), a[0])[a[1]].times(Frac.of(all(now, a[1]))).thousandths();
        case 12: known(a[0], 4); known(a[1], 3); inside(a[2], 0, 2); inside(a[3], 0, 1);
          Frac t = total(a[0], a[1], a[2]); return (a[3] == 0 ? t.above : t.below).longValueExact();
        case 13: known(a[0], 4); known(a[1], 3); known(a[2], n);
          return rounds(each(now), a[0])[a[2]].times(emission(now, a[2], a[1], 1)).thousandths();
        case 14: return way(a[0], a[1], a[2], a[3], a[4]).thousandths();
        case 15: return sure(a[0], a[1], a[2]);
        case 16: return most(a[0], a[1]);
        case 17: return turned(a[0]);
        case 20: return blame(a[0], a[1], a[2], a[3]);
        case 21: return count(a[0]);
        default: return digest();
      }
    }

    long answer(int call, int[] a) {
      try {
        boolean changes = call <= 6 || call == 10 || call == 18 || call == 19;
        return changes ? change(call, a) : ask(call, a);
      } catch (Refused r) {
        if (call == 8) return -1000000;
        boolean wide = call >= 11 && call <= 14 || call == 20;
        return wide ? -9000000000000000000L + r.why + 100 : r.why;
      }
    }
  }

  private static long call(CradleNets x, int call, int[] a) {
    switch (call) {
      case 0: return x.making();
      case 1: return x.out(a[0], a[1]);
      case 2: return x.needs(a[0], a[1], a[2]);
      case 3: return x.by(a[0], a[1], a[2]);
      case 4: return x.emits(a[0], a[1], a[2], a[3], a[4]);
      case 5: return x.good(a[0], a[1], a[2]);
      case 6: return x.rule(a[0], a[1]);
      case 7: return x.told(a[0], a[1]);
      case 8: return x.entry(a[0], a[1]);
      case 9: return x.worth();
      case 10: return x.put(a[0], a[1], a[2]);
      case 11: return x.runs(a[0], a[1]);
      case 12: return x.total(a[0], a[1], a[2], a[3]);
      case 13: return x.share(a[0], a[1], a[2]);
      case 14: return x.way(a[0], a[1], a[2], a[3], a[4]);
      case 15: return x.sure(a[0], a[1], a[2]);
      case 16: return x.most(a[0], a[1]);
      case 17: return x.turned(a[0]);
      case 18: return x.keep();
      case 19: return x.recall(a[0]);
      case 20: return x.blame(a[0], a[1], a[2], a[3]);
      case 21: return x.count(a[0]);
      default: return x.digest();
    }
  }

  // The ends of each argument of each call; the driver goes beyond them now and then.
  private static final int[][] MOSTS = {
    {}, {3, 6}, {3, 3, 6}, {3, 3, 6}, {3, 2, 100, 100, 100}, {3, 5, 5}, {3, 2}, {3, 22}, {3, 3}, {}, {3, 3, 20},
    {3, 3}, {3, 2, 2, 1}, {3, 2, 3}, {3, 2, 3, 3, 3}, {3, 3, 2}, {3, 2}, {3}, {}, {5}, {5, 3, 2, 3}, {3}, {}};
  private static final int[] ODD = {-1, -2, 4, 7, 21, 23, 101, 1000, Integer.MAX_VALUE, Integer.MIN_VALUE};

  // kind: 0 small amounts (many tables without ROUNDS), 1 any, 2 mostly the greatest (the longest numbers)
  private static int[] arguments(Random r, int call, Model m, int kind) {
    int makings = m.now.size();
    int[] a = new int[MOSTS[call].length];
    for (int p = 0; p < a.length; p++) {
      int most = MOSTS[call][p];
      if (most == 3 && makings > 0 && makings < 4 && r.nextInt(8) != 0) most = makings - 1;
      boolean amount = p == a.length - 1 && (call >= 1 && call <= 3 || call == 10) || p > 0 && call == 5 || p > 1 && call == 4;
      if (kind == 0 && amount && call <= 3) most = 2;
      if (most == 5 && !amount && m.versions.size() > 0) most = m.versions.size() - 1;
      a[p] = kind == 2 && amount && r.nextInt(3) != 0 ? most : r.nextInt(most + 1);
      if (call == 5 && p > 0 || call == 1 && p == 1) a[p] = Math.max(a[p], r.nextInt(30) == 0 ? 0 : 1);
      if (r.nextInt(60) == 0) a[p] = ODD[r.nextInt(ODD.length)];
      if (r.nextInt(60) == 0) a[p] = most + 1;
    }
    if (call == 4 && r.nextInt(10) != 0) java.util.Arrays.sort(a, 2, 5);
    if (call == 14 && r.nextInt(3) != 0) {
      a[4] = -1;
      if (r.nextInt(2) == 0) a[3] = -1;
    }
    return a;
  }

  private static int chosen(Random r, int made, int until) {
    if (made < until && r.nextInt(6) == 0) return 0;
    // making() and keep() stay rare, or each run would soon be full.
    int call = r.nextInt(NAMES.length);
    while ((call == 0 || call == 18 || call == 19) && r.nextInt(8) != 0) call = r.nextInt(NAMES.length);
    return call;
  }

  private static boolean runAgrees(int seed, TreeMap<String, Integer> seen) {
    Random r = new Random(seed);
    CradleNets x = new CradleNets();
    Model m = new Model();
    StringBuilder story = new StringBuilder();
    int until = r.nextInt(5);
    int kind = r.nextInt(3);
    for (int c = 0; c < CALLS; c++) {
      int call = chosen(r, m.now.size(), until);
      if (call == 18 && c < 60 && r.nextInt(4) != 0) call = 2;
      int[] a = arguments(r, call, m, kind);
      story.append(NAMES[call]).append(java.util.Arrays.toString(a)).append(' ');
      long want = m.answer(call, a);
      long got = call(x, call, a);
      String end = want <= -9000000000000000000L || want == -1000000 || want <= -101 && want >= -105 && call != 8
          ? " " + (want == -1000000 ? "-1" : want % 10) : " answered";
      seen.merge(NAMES[call] + end, 1, Integer::sum);
      if (got != want) {
        System.out.println("seed " + seed + ", call " + c + ": " + NAMES[call] + java.util.Arrays.toString(a)
            + " answered " + got + ", due is " + want + "; the run: " + story);
        return false;
      }
    }
    return true;
  }

  // Each of these must have come up, or the runs prove less than they seem to.
  private static final String[] MUST_BE_SEEN = {
    "making -3", "making -5", "out -1", "out -2", "needs -1", "needs -2", "by -1", "by -2", "emits -1", "emits -2",
    "good -1", "good -2", "rule -1", "rule -2", "told -1", "told -2", "entry -1", "put -1", "put -2", "runs -1",
    "runs -4", "total -1", "total -2", "total -4", "share -1", "share -4", "way -1", "way -2", "way -4", "sure -1",
    "sure -4", "most -1", "most -4", "turned -1", "turned -4", "keep -5", "recall -1", "blame -1", "blame -4",
    "count -2"};

  public static void main(String[] args) {
    TreeMap<String, Integer> seen = new TreeMap<>();
    int wrong = 0;
    for (int seed = 1; seed <= RUNS && wrong < 5; seed++) if (!runAgrees(seed, seen)) wrong++;
    if (wrong == 0) {
      for (String name : NAMES) if (!seen.containsKey(name + " answered")) { wrong++; System.out.println("never: " + name); }
      for (String kind : MUST_BE_SEEN) if (!seen.containsKey(kind)) { wrong++; System.out.println("never: " + kind); }
    }
    if (args.length > 0) System.out.println(seen);
    System.out.println(wrong == 0 ? RUNS + " runs agree with the model" : wrong + " wrong");
    if (wrong != 0) System.exit(1);
  }
}
