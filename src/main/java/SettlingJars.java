/**
 * Settling jars: grains of several classes in water, poured and stirred; they fall the slower the
 * more grains are about them, come to lie in layers, are stirred up again and drawn off by depth.
 *
 * <p>All rows are made in the constructors and used again, so that no call but a throwing one makes
 * an object: a run of calls has one room for all that it makes.
 */
public final class SettlingJars {
  public static final int NONE = -1;

  private static final int JARS = 3;
  private static final int SLICES = 12;
  private static final int BOTTOM = SLICES - 1;
  private static final int CLASSES = 4;
  private static final int SETTINGS = 4;
  private static final int MOST_POURED = 999;
  private static final int MOST_IN_JAR = 5000;
  private static final int MOST_STEPS = 10000;
  private static final int MOST_STEPS_AT_ONCE = 100;
  private static final int MOST_STEPS_TO_CLEAR = 300;
  private static final int MOST_STEPS_TO_REST = 600;
  private static final int TOP_SPEED = 100;
  private static final int SLICE_PROPERTIES = 10;
  private static final int JAR_PROPERTIES = 10;
  private static final int ACCOUNTS = 4;
  private static final int COUNTS = 6;

  private final State now = new State();
  private final History history = new History();
  private final Charge charge = new Charge();
  /** What may be spoilt by looking ahead or reading a charge; no call relies on what it held. */
  private final Jar spare = new Jar();

  public SettlingJars() {
  }

  // ---- settings

  public int set(int setting, int value)
      throws IndexOutOfBoundsException, IllegalArgumentException {
    needIndex(setting, SETTINGS);
    needRange(value, Settings.LEAST[setting], Settings.GREATEST[setting]);
    history.keep(now);
    int previous = now.settings.values[setting];
    now.settings.values[setting] = value;
    return previous;
  }

  public int setSpeed(int grain, int speed)
      throws IndexOutOfBoundsException, IllegalArgumentException {
    needIndex(grain, CLASSES);
    needRange(speed, 1, TOP_SPEED);
    history.keep(now);
    int previous = now.settings.speeds[grain];
    now.settings.speeds[grain] = speed;
    return previous;
  }

  // ---- what is done

  public int pour(int jar, int slice, int grain, int many)
      throws IndexOutOfBoundsException, IllegalArgumentException, IllegalStateException {
    needSlice(jar, slice);
    needIndex(grain, CLASSES);
    needRange(many, 1, MOST_POURED);
    Jar filled = now.jars[jar];
    needRoom(filled, many);
    history.keep(now);
    filled.put(slice, grain, many);
    now.poured[grain] += many;
    return filled.allIn(slice);
  }

  public int stir(int jar, int from, int to)
      throws IndexOutOfBoundsException, IllegalArgumentException {
    needSlice(jar, from);
    needIndex(to, SLICES);
    needRange(from, 0, to);
    history.keep(now);
    int stirred = 0;
    for (int grain = 0; grain < CLASSES; grain++) {
      stirred += now.jars[jar].spread(from, to, grain);
    }
    return stirred;
  }

  public int draw(int jar, int slice, int percent)
      throws IndexOutOfBoundsException, IllegalArgumentException {
    needSlice(jar, slice);
    needRange(percent, 1, 100);
    history.keep(now);
    Jar tapped = now.jars[jar];
    int all = 0;
    for (int grain = 0; grain < CLASSES; grain++) {
      int many = tapped.many(slice, grain) * percent / 100;
      tapped.put(slice, grain, -many);
      now.drawn[grain] += many;
      all += many;
    }
    return all;
  }

  public int decant(int from, int to, int last)
      throws IndexOutOfBoundsException, IllegalArgumentException, IllegalStateException {
    needIndex(from, JARS);
    needSlice(to, last);
    if (from == to) {
      throw new IllegalArgumentException("a jar is not poured into itself");
    }
    int over = now.jars[from].allDownTo(last);
    needRoom(now.jars[to], over);
    history.keep(now);
    now.jars[from].pourInto(now.jars[to], last);
    return over;
  }

  public int turn(int jar) throws IndexOutOfBoundsException {
    needIndex(jar, JARS);
    history.keep(now);
    now.jars[jar].turnOver();
    return now.jars[jar].packedSlices(now.settings);
  }

  public int settle(int steps) throws IllegalArgumentException, IllegalStateException {
    needRange(steps, 1, MOST_STEPS_AT_ONCE);
    if (now.steps + steps > MOST_STEPS) {
      throw new IllegalStateException("no more steps are left");
    }
    history.keep(now);
    int fell = 0;
    for (int jar = 0; jar < JARS; jar++) {
      fell += now.jars[jar].goOn(steps, now.settings);
    }
    now.steps += steps;
    now.fallen += fell;
    return fell;
  }

  // ---- texts

  public int append(int code) throws IllegalArgumentException, IllegalStateException {
    needRange(code, Charge.FIRST_CODE, Charge.LAST_CODE);
    if (charge.isFull()) {
      throw new IllegalStateException("the buffer is full");
    }
    charge.write((char) code);
    return charge.size();
  }

  public int clearBuffer() {
    int previous = charge.size();
    charge.wipe();
    return previous;
  }

  public int firstError() {
    return charge.firstWrong();
  }

  public int load(int jar)
      throws IndexOutOfBoundsException, IllegalArgumentException, IllegalStateException {
    needIndex(jar, JARS);
    if (!charge.isComplete()) {
      throw new IllegalArgumentException("the buffer is not a complete charge");
    }
    Jar filled = now.jars[jar];
    spare.empty();
    charge.readInto(spare);
    needRoom(filled, spare.all());
    history.keep(now);
    for (int grain = 0; grain < CLASSES; grain++) {
      now.poured[grain] += spare.allOf(grain);
    }
    spare.pourInto(filled, BOTTOM);
    charge.wipe();
    return filled.all();
  }

  public int undo() throws IllegalStateException {
    if (history.size() == 0) {
      throw new IllegalStateException("there is no saved state");
    }
    history.giveBack(now);
    return history.size();
  }

  // ---- what there is

  public int slice(int jar, int slice, int what)
      throws IndexOutOfBoundsException, IllegalArgumentException {
    needSlice(jar, slice);
    needRange(what, 0, SLICE_PROPERTIES - 1);
    return now.jars[jar].sliceProperty(slice, what, now.settings);
  }

  public int jar(int jar, int what) throws IndexOutOfBoundsException, IllegalArgumentException {
    needIndex(jar, JARS);
    needRange(what, 0, JAR_PROPERTIES - 1);
    return now.jars[jar].property(what, now.settings);
  }

  public int grains(int grain, int what)
      throws IndexOutOfBoundsException, IllegalArgumentException {
    needIndex(grain, CLASSES);
    needRange(what, 0, ACCOUNTS - 1);
    switch (what) {
      case 0:
        return now.poured[grain];
      case 1:
        return now.drawn[grain];
      case 2:
        return now.allOf(grain);
      default:
        return now.settings.speeds[grain];
    }
  }

  public int count(int what) throws IllegalArgumentException {
    needRange(what, 0, COUNTS - 1);
    switch (what) {
      case 0:
        return now.steps;
      case 1:
        return now.all();
      case 2:
        return now.packedSlices();
      case 3:
        return now.clearSlices();
      case 4:
        return now.fallen;
      default:
        return history.size();
    }
  }

  public int setting(int setting) throws IndexOutOfBoundsException {
    needIndex(setting, SETTINGS);
    return now.settings.values[setting];
  }

  // ---- what would be; nothing is changed

  public int why(int jar, int slice, int grain) throws IndexOutOfBoundsException {
    needSlice(jar, slice);
    needIndex(grain, CLASSES);
    return now.jars[jar].reasonToStay(slice, grain, now.settings);
  }

  public int ifSettled(int jar, int steps, int what)
      throws IndexOutOfBoundsException, IllegalArgumentException {
    needIndex(jar, JARS);
    needRange(steps, 1, MOST_STEPS_AT_ONCE);
    needRange(what, 0, JAR_PROPERTIES - 2);
    spare.copyFrom(now.jars[jar]);
    spare.goOn(steps, now.settings);
    return spare.property(what, now.settings);
  }

  public int clearIn(int jar, int slices)
      throws IndexOutOfBoundsException, IllegalArgumentException {
    needIndex(jar, JARS);
    needRange(slices, 1, SLICES);
    spare.copyFrom(now.jars[jar]);
    for (int steps = 0; steps <= MOST_STEPS_TO_CLEAR; steps++) {
      if (spare.clearWater(now.settings) >= slices) {
        return steps;
      }
      // A jar in which nothing falls stays as it is.
      if (spare.goOneStep(now.settings) == 0) {
        return NONE;
      }
    }
    return NONE;
  }

  public int restIn(int jar) throws IndexOutOfBoundsException {
    needIndex(jar, JARS);
    spare.copyFrom(now.jars[jar]);
    for (int steps = 0; steps <= MOST_STEPS_TO_REST; steps++) {
      if (spare.goOneStep(now.settings) == 0) {
        return steps;
      }
    }
    return NONE;
  }

  public int purest(int jar, int grain) throws IndexOutOfBoundsException {
    needIndex(jar, JARS);
    needIndex(grain, CLASSES);
    return now.jars[jar].purestSlice(grain);
  }

  public double meanDepth(int jar) throws IndexOutOfBoundsException {
    needIndex(jar, JARS);
    int all = now.jars[jar].all();
    return all == 0 ? 0.0 : (double) now.jars[jar].sumOfDepths() / all;
  }

  public long digest() {
    long hash = 2207L;
    for (int what = 0; what < COUNTS; what++) {
      hash = 31 * hash + count(what);
    }
    for (int setting = 0; setting < SETTINGS; setting++) {
      hash = 31 * hash + setting(setting);
    }
    for (int grain = 0; grain < CLASSES; grain++) {
      for (int what = 0; what < ACCOUNTS; what++) {
        hash = 31 * hash + grains(grain, what);
      }
    }
    for (int jar = 0; jar < JARS; jar++) {
      hash = hashWithJar(hash, jar);
    }
    return charge.hashWithCodes(hash);
  }

  private long hashWithJar(long before, int jar) {
    long hash = before;
    Jar seen = now.jars[jar];
    for (int what = 0; what < JAR_PROPERTIES; what++) {
      hash = 31 * hash + seen.property(what, now.settings);
    }
    for (int slice = 0; slice < SLICES; slice++) {
      for (int what = 0; what < SLICE_PROPERTIES; what++) {
        hash = 31 * hash + seen.sliceProperty(slice, what, now.settings);
      }
    }
    for (int grain = 0; grain < CLASSES; grain++) {
      hash = 31 * hash + seen.purestSlice(grain);
    }
    hash = 31 * hash + clearIn(jar, 3);
    hash = 31 * hash + restIn(jar);
    return 31 * hash + bitsOf(meanDepth(jar));
  }

  /**
   * The bits of a mean depth: 0.0, or from 1 / MOST_IN_JAR to BOTTOM. They are put together here,
   * as LANGUAGE.md leaves no function of Double; doubling and halving are exact.
   */
  private static long bitsOf(double depth) {
    if (!(depth > 0.0)) {
      return 0L;
    }
    double part = depth;
    long exponent = 1023;
    for (int k = 0; k < 64 && part >= 2.0; k++) {
      part = part / 2.0;
      exponent++;
    }
    for (int k = 0; k < 64 && part < 1.0; k++) {
      part = part * 2.0;
      exponent--;
    }
    return (exponent << 52) + (long) ((part - 1.0) * 4503599627370496.0);
  }

  private static void needIndex(int index, int many) {
    if (index < 0 || index >= many) {
      throw new IndexOutOfBoundsException("there is no such jar, slice, class or setting");
    }
  }

  private static void needSlice(int jar, int slice) {
    needIndex(jar, JARS);
    needIndex(slice, SLICES);
  }

  private static void needRange(int value, int least, int greatest) {
    if (value < least || value > greatest) {
      throw new IllegalArgumentException("an argument is out of range");
    }
  }

  private static void needRoom(Jar jar, int more) {
    if (jar.all() + more > MOST_IN_JAR) {
      throw new IllegalStateException("the jar would hold too many grains");
    }
  }

  /** What holds in all jars: the settings, and the speeds of the classes. */
  private static final class Settings {
    static final int HINDRANCE = 0;
    static final int PACKING = 1;
    static final int CLARITY = 2;
    static final int RESIDUE = 3;
    static final int[] LEAST = {0, 10, 0, 0};
    static final int[] GREATEST = {1000, 1000, 50, 9};

    final int[] values = {100, 200, 3, 0};
    final int[] speeds = {40, 20, 10, 5};

    void copyFrom(Settings other) {
      System.arraycopy(other.values, 0, values, 0, SETTINGS);
      System.arraycopy(other.speeds, 0, speeds, 0, CLASSES);
    }

    int factorOf(int all) {
      return 1000 * 1000 / Math.max(1, 1000 + all * values[HINDRANCE] / 10);
    }

    int roomOver(int all) {
      return Math.max(0, values[PACKING] - all);
    }

    boolean isPacked(int all) {
      return all >= values[PACKING];
    }

    boolean isClear(int all) {
      return all <= values[CLARITY];
    }

    int wantingToFall(int grain, int many, int factor) {
      int wanting = many * speeds[grain] * factor / 100000;
      if (wanting == 0 && many > values[RESIDUE]) {
        return 1;
      }
      return Math.min(wanting, many);
    }
  }

  /** The grains of one jar; whoever calls has looked at the numbers of slice and class. */
  private static final class Jar {
    private final int[] grains = new int[SLICES * CLASSES];

    void copyFrom(Jar other) {
      System.arraycopy(other.grains, 0, grains, 0, grains.length);
    }

    void empty() {
      for (int k = 0; k < grains.length; k++) {
        grains[k] = 0;
      }
    }

    int many(int slice, int grain) {
      return grains[slice * CLASSES + grain];
    }

    void put(int slice, int grain, int many) {
      grains[slice * CLASSES + grain] += many;
    }

    int allIn(int slice) {
      int all = 0;
      for (int grain = 0; grain < CLASSES; grain++) {
        all += many(slice, grain);
      }
      return all;
    }

    int allOf(int grain) {
      int all = 0;
      for (int slice = 0; slice < SLICES; slice++) {
        all += many(slice, grain);
      }
      return all;
    }

    int allDownTo(int last) {
      int all = 0;
      for (int slice = 0; slice <= last; slice++) {
        all += allIn(slice);
      }
      return all;
    }

    int all() {
      return allDownTo(BOTTOM);
    }

    int sumOfDepths() {
      int sum = 0;
      for (int slice = 0; slice < SLICES; slice++) {
        sum += slice * allIn(slice);
      }
      return sum;
    }

    /** Spreads one class evenly and returns how many grains of it there are. */
    int spread(int from, int to, int grain) {
      int all = 0;
      for (int slice = from; slice <= to; slice++) {
        all += many(slice, grain);
      }
      int left = all;
      for (int slice = from; slice <= to; slice++) {
        // Rounding up what is left gives the odd grains to the upper slices.
        int below = to - slice;
        int share = (left + below) / (below + 1);
        put(slice, grain, share - many(slice, grain));
        left -= share;
      }
      return all;
    }

    void pourInto(Jar other, int last) {
      for (int slice = 0; slice <= last; slice++) {
        for (int grain = 0; grain < CLASSES; grain++) {
          int many = many(slice, grain);
          other.put(slice, grain, many);
          put(slice, grain, -many);
        }
      }
    }

    void turnOver() {
      for (int slice = 0; slice < BOTTOM - slice; slice++) {
        for (int grain = 0; grain < CLASSES; grain++) {
          int more = many(BOTTOM - slice, grain) - many(slice, grain);
          put(slice, grain, more);
          put(BOTTOM - slice, grain, -more);
        }
      }
    }

    /** Lets steps pass and returns how many grains fell. */
    int goOn(int steps, Settings settings) {
      int all = 0;
      for (int k = 0; k < steps; k++) {
        int fell = goOneStep(settings);
        if (fell == 0) {
          return all;
        }
        all += fell;
      }
      return all;
    }

    int goOneStep(Settings settings) {
      int fell = 0;
      for (int slice = BOTTOM - 1; slice >= 0; slice--) {
        fell += fallFrom(slice, settings);
      }
      return fell;
    }

    private int fallFrom(int slice, Settings settings) {
      int factor = settings.factorOf(allIn(slice));
      int room = settings.roomOver(allIn(slice + 1));
      int fell = 0;
      for (int grain = 0; grain < CLASSES; grain++) {
        int wanting = settings.wantingToFall(grain, many(slice, grain), factor);
        int falling = Math.min(wanting, room - fell);
        put(slice, grain, -falling);
        put(slice + 1, grain, falling);
        fell += falling;
      }
      return fell;
    }

    /** Why no grain of a class would fall now, by the numbers of promise 20; 0 if one would. */
    int reasonToStay(int slice, int grain, Settings settings) {
      if (slice == BOTTOM) {
        return 1;
      }
      int many = many(slice, grain);
      if (many == 0) {
        return 2;
      }
      if (settings.roomOver(allIn(slice + 1)) == 0) {
        return 3;
      }
      int factor = settings.factorOf(allIn(slice));
      return settings.wantingToFall(grain, many, factor) == 0 ? 4 : 0;
    }

    /** A step's first fall is from slices as they are, so looking at each class alone is enough. */
    private boolean isAtRest(Settings settings) {
      for (int slice = 0; slice < BOTTOM; slice++) {
        for (int grain = 0; grain < CLASSES; grain++) {
          if (reasonToStay(slice, grain, settings) == 0) {
            return false;
          }
        }
      }
      return true;
    }

    int sliceProperty(int slice, int what, Settings settings) {
      switch (what) {
        case 4:
          return allIn(slice);
        case 5:
          return settings.isPacked(allIn(slice)) ? 1 : 0;
        case 6:
          return settings.isClear(allIn(slice)) ? 1 : 0;
        case 7:
          return leadingClass(slice);
        case 8:
          return settings.factorOf(allIn(slice));
        case 9:
          return settings.roomOver(allIn(slice));
        default:
          return many(slice, what);
      }
    }

    int property(int what, Settings settings) {
      switch (what) {
        case 0:
          return all();
        case 5:
          return bedSlices(settings);
        case 6:
          return clearWater(settings);
        case 7:
          return all() - allDownTo(BOTTOM - bedSlices(settings));
        case 8:
          return changesOfLeader();
        case 9:
          return isAtRest(settings) ? 1 : 0;
        default:
          return allOf(what - 1);
      }
    }

    private int bedSlices(Settings settings) {
      int bed = 0;
      while (bed < SLICES && settings.isPacked(allIn(BOTTOM - bed))) {
        bed++;
      }
      return bed;
    }

    int clearWater(Settings settings) {
      int clear = 0;
      while (clear < SLICES && settings.isClear(allIn(clear))) {
        clear++;
      }
      return clear;
    }

    int packedSlices(Settings settings) {
      int packed = 0;
      for (int slice = 0; slice < SLICES; slice++) {
        if (settings.isPacked(allIn(slice))) {
          packed++;
        }
      }
      return packed;
    }

    int clearSlices(Settings settings) {
      int clear = 0;
      for (int slice = 0; slice < SLICES; slice++) {
        if (settings.isClear(allIn(slice))) {
          clear++;
        }
      }
      return clear;
    }

    private int leadingClass(int slice) {
      int leader = NONE;
      int most = 0;
      for (int grain = 0; grain < CLASSES; grain++) {
        if (many(slice, grain) > most) {
          leader = grain;
          most = many(slice, grain);
        }
      }
      return leader;
    }

    private int changesOfLeader() {
      int changes = 0;
      int previous = NONE;
      for (int slice = 0; slice < SLICES; slice++) {
        int leader = leadingClass(slice);
        if (leader != NONE && previous != NONE && leader != previous) {
          changes++;
        }
        if (leader != NONE) {
          previous = leader;
        }
      }
      return changes;
    }

    int purestSlice(int grain) {
      int purest = NONE;
      int most = 0;
      int amongAll = 1;
      for (int slice = 0; slice < SLICES; slice++) {
        int many = many(slice, grain);
        int all = allIn(slice);
        // Shares are compared crosswise, as a division would round.
        if (many * amongAll > most * all) {
          purest = slice;
          most = many;
          amongAll = all;
        }
      }
      return purest;
    }
  }

  /** All that undo brings back. */
  private static final class State {
    final Settings settings = new Settings();
    final Jar[] jars = new Jar[JARS];
    final int[] poured = new int[CLASSES];
    final int[] drawn = new int[CLASSES];
    int steps;
    int fallen;

    State() {
      for (int jar = 0; jar < JARS; jar++) {
        jars[jar] = new Jar();
      }
    }

    void copyFrom(State other) {
      settings.copyFrom(other.settings);
      for (int jar = 0; jar < JARS; jar++) {
        jars[jar].copyFrom(other.jars[jar]);
      }
      System.arraycopy(other.poured, 0, poured, 0, CLASSES);
      System.arraycopy(other.drawn, 0, drawn, 0, CLASSES);
      steps = other.steps;
      fallen = other.fallen;
    }

    int all() {
      int all = 0;
      for (int jar = 0; jar < JARS; jar++) {
        all += jars[jar].all();
      }
      return all;
    }

    int allOf(int grain) {
      int all = 0;
      for (int jar = 0; jar < JARS; jar++) {
        all += jars[jar].allOf(grain);
      }
      return all;
    }

    int packedSlices() {
      int packed = 0;
      for (int jar = 0; jar < JARS; jar++) {
        packed += jars[jar].packedSlices(settings);
      }
      return packed;
    }

    int clearSlices() {
      int clear = 0;
      for (int jar = 0; jar < JARS; jar++) {
        clear += jars[jar].clearSlices(settings);
      }
      return clear;
    }
  }

  /** The saved states, in a ring, so that dropping the oldest one moves nothing. */
  private static final class History {
    private static final int MOST_SAVED = 6;

    private final State[] saved = new State[MOST_SAVED];
    private int oldest;
    private int size;

    History() {
      for (int k = 0; k < MOST_SAVED; k++) {
        saved[k] = new State();
      }
    }

    int size() {
      return size;
    }

    void keep(State state) {
      saved[(oldest + size) % MOST_SAVED].copyFrom(state);
      if (size < MOST_SAVED) {
        size++;
      } else {
        oldest = (oldest + 1) % MOST_SAVED;
      }
    }

    /** Puts the latest saved state back and drops it; there must be one. */
    void giveBack(State state) {
      size--;
      state.copyFrom(saved[(oldest + size) % MOST_SAVED]);
    }
  }

  /** The buffer, read as a charge by an automaton: each sign leads from one place to the next. */
  private static final class Charge {
    static final int FIRST_CODE = 33;
    static final int LAST_CODE = 126;
    private static final int CAPACITY = 60;

    private static final int WRONG = -1;
    private static final int AT_PORTION = 0;
    private static final int AFTER_ONE_DIGIT = 1;
    private static final int AFTER_TWO_DIGITS = 2;
    private static final int AFTER_THREE_DIGITS = 3;
    private static final int AFTER_CLASS = 4;
    private static final int AT_SLICE = 5;
    private static final int AFTER_SLICE_ONE = 6;
    private static final int AFTER_SLICE = 7;

    private final char[] signs = new char[CAPACITY];
    private int length;

    int size() {
      return length;
    }

    boolean isFull() {
      return length >= CAPACITY;
    }

    /** The buffer must not be full. */
    void write(char sign) {
      signs[length] = sign;
      length++;
    }

    void wipe() {
      length = 0;
    }

    int firstWrong() {
      int place = AT_PORTION;
      for (int k = 0; k < length; k++) {
        place = placeBehind(place, signs[k]);
        if (place == WRONG) {
          return k;
        }
      }
      return length;
    }

    boolean isComplete() {
      int place = AT_PORTION;
      for (int k = 0; k < length; k++) {
        place = placeBehind(place, signs[k]);
      }
      return place == AFTER_CLASS || place == AFTER_SLICE_ONE || place == AFTER_SLICE;
    }

    /** The charge must be complete. */
    void readInto(Jar jar) {
      int start = 0;
      for (int k = 0; k < length; k++) {
        if (signs[k] == '+') {
          readPortion(start, k, jar);
          start = k + 1;
        }
      }
      readPortion(start, length, jar);
    }

    private void readPortion(int start, int end, Jar jar) {
      int many = 0;
      int k = start;
      while (k < end && isDigit(signs[k])) {
        many = many * 10 + (signs[k] - '0');
        k++;
      }
      int grain = k < end ? signs[k] - 'a' : 0;
      int slice = 0;
      for (k = k + 2; k < end; k++) {
        slice = slice * 10 + (signs[k] - '0');
      }
      // So it is in each complete charge; it is looked at here as it becomes an index.
      if (slice < SLICES && grain >= 0 && grain < CLASSES) {
        jar.put(slice, grain, many);
      }
    }

    long hashWithCodes(long before) {
      long hash = 31 * before + length;
      for (int k = 0; k < length; k++) {
        hash = 31 * hash + signs[k];
      }
      return hash;
    }

    private static int placeBehind(int place, char sign) {
      switch (place) {
        case AT_PORTION:
          return isDigit(sign) && sign != '0' ? AFTER_ONE_DIGIT : WRONG;
        case AFTER_ONE_DIGIT:
          return isDigit(sign) ? AFTER_TWO_DIGITS : placeBehindNumber(sign);
        case AFTER_TWO_DIGITS:
          return isDigit(sign) ? AFTER_THREE_DIGITS : placeBehindNumber(sign);
        case AFTER_THREE_DIGITS:
          return placeBehindNumber(sign);
        case AFTER_CLASS:
          return sign == '@' ? AT_SLICE : placeBehindPortion(sign);
        case AT_SLICE:
          return sign == '1' ? AFTER_SLICE_ONE : isDigit(sign) ? AFTER_SLICE : WRONG;
        case AFTER_SLICE_ONE:
          return sign == '0' || sign == '1' ? AFTER_SLICE : placeBehindPortion(sign);
        case AFTER_SLICE:
          return placeBehindPortion(sign);
        default:
          return WRONG;
      }
    }

    private static int placeBehindNumber(char sign) {
      return sign >= 'a' && sign < 'a' + CLASSES ? AFTER_CLASS : WRONG;
    }

    private static int placeBehindPortion(char sign) {
      return sign == '+' ? AT_PORTION : WRONG;
    }

    private static boolean isDigit(char sign) {
      return sign >= '0' && sign <= '9';
    }
  }
}
