import java.math.BigInteger;
import java.util.ArrayDeque;
import java.util.Deque;
import java.util.regex.Matcher;
import java.util.regex.Pattern;

/**
 * The document once more, written for plainness alone and in other ways than the program: texts by
 * a pattern, shares by great numbers, rest and looking ahead by copies that go on.
 */
final class Model {
  private static final Pattern NUMBERED = Pattern.compile("([1-9][0-9]{0,2})([a-d])(@(1[01]|[0-9]))?");
  private static final Pattern CHARGE = Pattern.compile(NUMBERED + "(\\+" + NUMBERED + ")*");
  private static final int[][] RANGES = {{0, 1000}, {10, 1000}, {0, 50}, {0, 9}};

  private int[] settings = {100, 200, 3, 0};
  private int[] speeds = {40, 20, 10, 5};
  private int[][][] jars = new int[3][12][4];
  private int[] poured = new int[4];
  private int[] drawn = new int[4];
  private int steps;
  private int fallen;
  private String buffer = "";
  private final Deque<Model> saved = new ArrayDeque<>();

  private Model copy() {
    Model copy = new Model();
    copy.settings = settings.clone();
    copy.speeds = speeds.clone();
    for (int jar = 0; jar < 3; jar++) {
      for (int slice = 0; slice < 12; slice++) {
        copy.jars[jar][slice] = jars[jar][slice].clone();
      }
    }
    copy.poured = poured.clone();
    copy.drawn = drawn.clone();
    copy.steps = steps;
    copy.fallen = fallen;
    return copy;
  }

  private void save() {
    saved.addLast(copy());
    if (saved.size() > 6) {
      saved.removeFirst();
    }
  }

  private static void index(boolean right) {
    if (!right) {
      throw new IndexOutOfBoundsException();
    }
  }

  private static void argument(boolean right) {
    if (!right) {
      throw new IllegalArgumentException();
    }
  }

  private static void state(boolean right) {
    if (!right) {
      throw new IllegalStateException();
    }
  }

  private static boolean in(int value, int least, int most) {
    return least <= value && value <= most;
  }

  private static int sum(int[] numbers) {
    int sum = 0;
    for (int number : numbers) {
      sum += number;
    }
    return sum;
  }

  private int inJar(int jar) {
    int sum = 0;
    for (int[] slice : jars[jar]) {
      sum += sum(slice);
    }
    return sum;
  }

  int set(int setting, int value) {
    index(in(setting, 0, 3));
    argument(in(value, RANGES[setting][0], RANGES[setting][1]));
    save();
    int previous = settings[setting];
    settings[setting] = value;
    return previous;
  }

  int setSpeed(int grain, int speed) {
    index(in(grain, 0, 3));
    argument(in(speed, 1, 100));
    save();
    int previous = speeds[grain];
    speeds[grain] = speed;
    return previous;
  }

  int pour(int jar, int slice, int grain, int many) {
    index(in(jar, 0, 2) && in(slice, 0, 11) && in(grain, 0, 3));
    argument(in(many, 1, 999));
    state(inJar(jar) + many <= 5000);
    save();
    jars[jar][slice][grain] += many;
    poured[grain] += many;
    return sum(jars[jar][slice]);
  }

  int stir(int jar, int from, int to) {
    index(in(jar, 0, 2) && in(from, 0, 11) && in(to, 0, 11));
    argument(from <= to);
    save();
    int all = 0;
    for (int grain = 0; grain < 4; grain++) {
      int n = 0;
      int m = 0;
      for (int slice = from; slice <= to; slice++) {
        n += jars[jar][slice][grain];
        m++;
      }
      for (int k = 0; k < m; k++) {
        jars[jar][from + k][grain] = n / m + (k < n % m ? 1 : 0);
      }
      all += n;
    }
    return all;
  }

  int draw(int jar, int slice, int percent) {
    index(in(jar, 0, 2) && in(slice, 0, 11));
    argument(in(percent, 1, 100));
    save();
    int all = 0;
    for (int grain = 0; grain < 4; grain++) {
      int off = jars[jar][slice][grain] * percent / 100;
      jars[jar][slice][grain] -= off;
      drawn[grain] += off;
      all += off;
    }
    return all;
  }

  int decant(int from, int to, int last) {
    index(in(from, 0, 2) && in(to, 0, 2) && in(last, 0, 11));
    argument(from != to);
    int over = 0;
    for (int slice = 0; slice <= last; slice++) {
      over += sum(jars[from][slice]);
    }
    state(inJar(to) + over <= 5000);
    save();
    for (int slice = 0; slice <= last; slice++) {
      for (int grain = 0; grain < 4; grain++) {
        jars[to][slice][grain] += jars[from][slice][grain];
      }
      jars[from][slice] = new int[4];
    }
    return over;
  }

  int turn(int jar) {
    index(in(jar, 0, 2));
    save();
    int[][] turned = new int[12][];
    int packed = 0;
    for (int slice = 0; slice < 12; slice++) {
      turned[11 - slice] = jars[jar][slice];
      packed += sum(jars[jar][slice]) >= settings[1] ? 1 : 0;
    }
    jars[jar] = turned;
    return packed;
  }

  int settle(int many) {
    argument(in(many, 1, 100));
    state(steps + many <= 10000);
    save();
    int fell = 0;
    for (int k = 0; k < many; k++) {
      fell += step();
    }
    steps += many;
    fallen += fell;
    return fell;
  }

  private int step() {
    int fell = 0;
    for (int jar = 0; jar < 3; jar++) {
      for (int slice = 10; slice >= 0; slice--) {
        int g = sum(jars[jar][slice]);
        for (int grain = 0; grain < 4; grain++) {
          int falling = falling(jar, slice, grain, g);
          jars[jar][slice][grain] -= falling;
          jars[jar][slice + 1][grain] += falling;
          fell += falling;
        }
      }
    }
    return fell;
  }

  private int wanting(int jar, int slice, int grain, int g) {
    int n = jars[jar][slice][grain];
    long want = (long) n * speeds[grain] * factor(g) / 100000;
    if (want == 0 && n > settings[3]) {
      want = 1;
    }
    return (int) (want > n ? n : want);
  }

  private int falling(int jar, int slice, int grain, int g) {
    int want = wanting(jar, slice, grain, g);
    int room = settings[1] - sum(jars[jar][slice + 1]);
    return room < 0 ? 0 : want < room ? want : room;
  }

  private int factor(int g) {
    return 1000 * 1000 / (1000 + g * settings[0] / 10);
  }

  int append(int code) {
    argument(in(code, 33, 126));
    state(buffer.length() < 60);
    buffer += (char) code;
    return buffer.length();
  }

  int clearBuffer() {
    int length = buffer.length();
    buffer = "";
    return length;
  }

  int firstError() {
    for (int k = 1; k <= buffer.length(); k++) {
      Matcher matcher = CHARGE.matcher(buffer.substring(0, k));
      if (!matcher.matches() && !matcher.hitEnd()) {
        return k - 1;
      }
    }
    return buffer.length();
  }

  int load(int jar) {
    index(in(jar, 0, 2));
    argument(CHARGE.matcher(buffer).matches());
    int more = 0;
    for (String portion : buffer.split("\\+")) {
      more += Integer.parseInt(portion.replaceAll("[a-d].*", ""));
    }
    state(inJar(jar) + more <= 5000);
    save();
    for (String portion : buffer.split("\\+")) {
      Matcher matcher = NUMBERED.matcher(portion);
      argument(matcher.matches());
      int grain = "abcd".indexOf(matcher.group(2));
      int slice = matcher.group(4) == null ? 0 : Integer.parseInt(matcher.group(4));
      jars[jar][slice][grain] += Integer.parseInt(matcher.group(1));
      poured[grain] += Integer.parseInt(matcher.group(1));
    }
    buffer = "";
    return inJar(jar);
  }

  int undo() {
    state(!saved.isEmpty());
    Model last = saved.removeLast();
    settings = last.settings;
    speeds = last.speeds;
    jars = last.jars;
    poured = last.poured;
    drawn = last.drawn;
    steps = last.steps;
    fallen = last.fallen;
    return saved.size();
  }

  int slice(int jar, int slice, int what) {
    index(in(jar, 0, 2) && in(slice, 0, 11));
    argument(in(what, 0, 9));
    int[] there = jars[jar][slice];
    int all = sum(there);
    int[] properties = {there[0], there[1], there[2], there[3], all, all >= settings[1] ? 1 : 0,
        all <= settings[2] ? 1 : 0, leader(there), factor(all),
        all > settings[1] ? 0 : settings[1] - all};
    return properties[what];
  }

  private static int leader(int[] there) {
    int leader = 0;
    for (int grain = 3; grain >= 0; grain--) {
      leader = there[grain] >= there[leader] ? grain : leader;
    }
    return sum(there) == 0 ? -1 : leader;
  }

  int jar(int jar, int what) {
    index(in(jar, 0, 2));
    argument(in(what, 0, 9));
    int bed = 0;
    int inBed = 0;
    for (int slice = 11; slice >= 0 && slice(jar, slice, 5) == 1; slice--) {
      bed++;
      inBed += slice(jar, slice, 4);
    }
    int clear = 0;
    for (int slice = 0; slice <= 11 && slice(jar, slice, 6) == 1; slice++) {
      clear++;
    }
    int[] classes = new int[4];
    StringBuilder leaders = new StringBuilder();
    for (int slice = 0; slice < 12; slice++) {
      for (int grain = 0; grain < 4; grain++) {
        classes[grain] += jars[jar][slice][grain];
      }
      leaders.append(slice(jar, slice, 7) == -1 ? "" : slice(jar, slice, 7));
    }
    int changes = Math.max(0, leaders.toString().replaceAll("(.)\\1*", "x").length() - 1);
    int[] properties = {inJar(jar), classes[0], classes[1], classes[2], classes[3], bed, clear,
        inBed, changes, alone(jar).step() == 0 ? 1 : 0};
    return properties[what];
  }

  /** A copy in which this jar alone has grains. */
  private Model alone(int jar) {
    Model copy = copy();
    for (int other = 0; other < 3; other++) {
      if (other != jar) {
        copy.jars[other] = new int[12][4];
      }
    }
    return copy;
  }

  int grains(int grain, int what) {
    index(in(grain, 0, 3));
    argument(in(what, 0, 3));
    int there = 0;
    for (int jar = 0; jar < 3; jar++) {
      there += jar(jar, grain + 1);
    }
    return new int[] {poured[grain], drawn[grain], there, speeds[grain]}[what];
  }

  int count(int what) {
    argument(in(what, 0, 5));
    int packed = 0;
    int clear = 0;
    for (int k = 0; k < 36; k++) {
      packed += slice(k / 12, k % 12, 5);
      clear += slice(k / 12, k % 12, 6);
    }
    int all = inJar(0) + inJar(1) + inJar(2);
    return new int[] {steps, all, packed, clear, fallen, saved.size()}[what];
  }

  int setting(int setting) {
    index(in(setting, 0, 3));
    return settings[setting];
  }

  int why(int jar, int slice, int grain) {
    index(in(jar, 0, 2) && in(slice, 0, 11) && in(grain, 0, 3));
    int g = sum(jars[jar][slice]);
    if (slice < 11 && falling(jar, slice, grain, g) > 0) {
      return 0;
    }
    return slice == 11 ? 1 : jars[jar][slice][grain] == 0 ? 2 : slice(jar, slice + 1, 9) == 0 ? 3 : 4;
  }

  int ifSettled(int jar, int many, int what) {
    index(in(jar, 0, 2));
    argument(in(many, 1, 100) && in(what, 0, 8));
    Model copy = alone(jar);
    for (int k = 0; k < many; k++) {
      copy.step();
    }
    return copy.jar(jar, what);
  }

  int clearIn(int jar, int slices) {
    index(in(jar, 0, 2));
    argument(in(slices, 1, 12));
    Model copy = alone(jar);
    for (int k = 0; k <= 300; k++) {
      int clear = 0;
      while (clear < 12 && sum(copy.jars[jar][clear]) <= settings[2]) {
        clear++;
      }
      if (clear >= slices) {
        return k;
      }
      copy.step();
    }
    return -1;
  }

  int restIn(int jar) {
    index(in(jar, 0, 2));
    Model copy = alone(jar);
    for (int k = 0; k <= 600; k++) {
      if (copy.step() == 0) {
        return k;
      }
    }
    return -1;
  }

  int purest(int jar, int grain) {
    index(in(jar, 0, 2) && in(grain, 0, 3));
    int best = -1;
    for (int slice = 11; slice >= 0; slice--) {
      int[] there = jars[jar][slice];
      if (there[grain] > 0 && (best < 0 || atLeast(there, jars[jar][best], grain))) {
        best = slice;
      }
    }
    return best;
  }

  private static boolean atLeast(int[] one, int[] other, int grain) {
    BigInteger left = BigInteger.valueOf(one[grain]).multiply(BigInteger.valueOf(sum(other)));
    BigInteger right = BigInteger.valueOf(other[grain]).multiply(BigInteger.valueOf(sum(one)));
    return left.compareTo(right) >= 0;
  }

  double meanDepth(int jar) {
    index(in(jar, 0, 2));
    double sum = 0;
    for (int slice = 0; slice < 12; slice++) {
      sum += slice * sum(jars[jar][slice]);
    }
    return inJar(jar) == 0 ? 0.0 : sum / inJar(jar);
  }

  long digest() {
    long hash = 2207;
    for (int what = 0; what < 6; what++) {
      hash = 31 * hash + count(what);
    }
    for (int setting : settings) {
      hash = 31 * hash + setting;
    }
    for (int k = 0; k < 16; k++) {
      hash = 31 * hash + grains(k / 4, k % 4);
    }
    for (int jar = 0; jar < 3; jar++) {
      for (int what = 0; what < 10; what++) {
        hash = 31 * hash + jar(jar, what);
      }
      for (int k = 0; k < 120; k++) {
        hash = 31 * hash + slice(jar, k / 10, k % 10);
      }
      for (int grain = 0; grain < 4; grain++) {
        hash = 31 * hash + purest(jar, grain);
      }
      hash = 31 * hash + clearIn(jar, 3);
      hash = 31 * hash + restIn(jar);
      hash = 31 * hash + Double.doubleToLongBits(meanDepth(jar));
    }
    hash = 31 * hash + buffer.length();
    for (int k = 0; k < buffer.length(); k++) {
      hash = 31 * hash + buffer.charAt(k);
    }
    return hash;
  }
}
