import java.util.ArrayDeque;
import java.util.ArrayList;
import java.util.Comparator;
import java.util.Deque;
import java.util.List;
import java.util.regex.Matcher;
import java.util.regex.Pattern;

/**
 * The document once more, written for nothing but to be plain: no occupied levels, no forecasts and no sums are held
 * that can be found anew, each question lets minutes pass on a copy of its own, and texts are read by patterns.
 */
final class PlainStack {
  private static final int[] RATE = {4, 9, 18}, RESERVE = {40, 100, 220}, WAKE = {2, 3, 4};
  private static final String NUMBER = "(0|[1-9][0-9]{0,3})";
  private static final Pattern STRIP =
      Pattern.compile("\\+([lmh])" + NUMBER + "@" + NUMBER + ";|c" + NUMBER + ";|t" + NUMBER + ";|o;|x;");
  private static final Pattern FORM = Pattern.compile("(" + STRIP.pattern() + ")*");
  private static final Pattern DIGITS = Pattern.compile("(?<=([lmh@ct]))" + NUMBER);

  private static final class Plane {
    int number, kind, entered, fuel, status, level, place = 1, end;
    boolean called;

    Plane copy() {
      Plane p = new Plane();
      p.number = number;
      p.kind = kind;
      p.entered = entered;
      p.fuel = fuel;
      p.status = status;
      p.level = level;
      p.place = place;
      p.end = end;
      p.called = called;
      return p;
    }

    boolean isShort() {
      return fuel <= RESERVE[kind];
    }

    int burn() {
      return RATE[kind] - (int) Math.floor(RATE[kind] * level / 40.0);
    }
  }

  private static final class State {
    int n = 10, lap = 4, limit = 16, wait, time, reason, steps;
    boolean open = true, automatic = true;
    List<Plane> planes = new ArrayList<>();

    State copy() {
      State s = new State();
      s.n = n;
      s.lap = lap;
      s.limit = limit;
      s.wait = wait;
      s.time = time;
      s.reason = reason;
      s.steps = steps;
      s.open = open;
      s.automatic = automatic;
      planes.forEach(p -> s.planes.add(p.copy()));
      return s;
    }

    List<Plane> with(int status) {
      return planes.stream().filter(p -> p.status == status).toList();
    }

    Plane on(int level) {
      return with(0).stream().filter(p -> p.level == level).findFirst().orElse(null);
    }

    int refusal(int kind, int fuel, int level) {
      return on(level) != null ? 1 : fuel <= RESERVE[kind] ? 2 : with(0).size() >= limit ? 3 : 0;
    }

    int admit(int kind, int fuel, int level) {
      Plane p = new Plane();
      p.number = planes.size();
      p.kind = kind;
      p.entered = fuel;
      p.fuel = fuel;
      p.level = level;
      planes.add(p);
      reason = 0;
      return p.number;
    }

    /** The aircraft that landed, or -1. */
    int minute() {
      for (Plane p : with(0)) {
        p.fuel -= Math.min(p.fuel, p.burn());
        p.place = (p.place + 1) % lap;
      }
      for (Plane p : with(0)) {
        if (p.fuel < RESERVE[p.kind] / 2.0) {
          p.status = 2;
          p.end = time;
        }
      }
      wait = Math.max(0, wait - 1);
      int landed = -1;
      if (open && wait == 0) {
        Plane p = with(0).stream().filter(q -> q.place == 0 && q.isShort())
            .min(Comparator.<Plane>comparingInt(q -> q.fuel).thenComparingInt(q -> q.level))
            .orElse(with(0).stream().filter(q -> q.place == 0 && q.level == 0).findFirst().orElse(null));
        if (p != null) {
          p.status = 1;
          p.end = time;
          wait = WAKE[p.kind];
          landed = p.number;
        }
      }
      for (int level = 1; level < n; level++) {
        Plane p = on(level);
        if (p != null && p.place == 0 && on(level - 1) == null && (automatic || p.called)) {
          p.level--;
          p.called = false;
          steps++;
        }
      }
      time++;
      return landed;
    }
  }

  private State now = new State();
  private final Deque<State> history = new ArrayDeque<>();
  private final State[] slots = new State[2];
  private String text = "";
  private boolean inRun;

  private void record() {
    if (!inRun) {
      history.addLast(now.copy());
      if (history.size() > 5) {
        history.removeFirst();
      }
    }
  }

  private boolean unknown(int aircraft) {
    return aircraft < 0 || aircraft >= now.planes.size();
  }

  int begin(int levels) {
    if (levels < 4 || levels > 16) return -2;
    record();
    State s = new State();
    s.n = levels;
    s.lap = now.lap;
    s.limit = now.limit;
    s.open = now.open;
    s.automatic = now.automatic;
    int previous = now.n;
    now = s;
    return previous;
  }

  int setLap(int minutes) {
    if (minutes < 2 || minutes > 8) return -2;
    record();
    int previous = now.lap;
    now.lap = minutes;
    now.planes.forEach(p -> p.place = p.place >= minutes ? 0 : p.place);
    return previous;
  }

  int setLimit(int limit) {
    if (limit < 1 || limit > 16) return -2;
    record();
    int previous = now.limit;
    now.limit = limit;
    return previous;
  }

  int setRunway(boolean open) {
    record();
    int previous = now.open ? 1 : 0;
    now.open = open;
    return previous;
  }

  int setLadder(boolean automatic) {
    record();
    int previous = now.automatic ? 1 : 0;
    now.automatic = automatic;
    return previous;
  }

  int enter(int kind, int fuel, int level) {
    if (kind < 0 || kind > 2 || level < 0 || level >= now.n) return -1;
    if (fuel < 1 || fuel > 9999) return -2;
    if (now.planes.size() == 20) return -4;
    int refusal = now.refusal(kind, fuel, level);
    if (refusal != 0) {
      now.reason = refusal;
      return -5;
    }
    record();
    return now.admit(kind, fuel, level);
  }

  int call(int aircraft) {
    if (unknown(aircraft)) return -1;
    Plane p = now.planes.get(aircraft);
    if (p.status != 0 || p.level == 0 || p.called) return -3;
    record();
    now.planes.get(aircraft).called = true;
    return p.level;
  }

  int pass(int minutes) {
    if (minutes < 1 || minutes > 99) return -2;
    record();
    int before = now.with(1).size();
    for (int i = 0; i < minutes; i++) now.minute();
    return now.with(1).size() - before;
  }

  int level(int level) {
    if (level < 0 || level >= now.n) return -1;
    return now.on(level) == null ? -6 : now.on(level).number;
  }

  int aircraft(int aircraft, int what) {
    if (unknown(aircraft) || what < 0 || what > 7) return -1;
    Plane p = now.planes.get(aircraft);
    if (what >= 3 && what <= 5 && p.status != 0 || what == 7 && p.status == 0) return -6;
    return new int[] {p.kind, p.fuel, p.status, p.level, p.place, p.called ? 1 : 0, p.isShort() ? 1 : 0, p.end}[what];
  }

  private static int fuelOf(List<Plane> planes) {
    return planes.stream().mapToInt(p -> p.fuel).sum();
  }

  int tell(int what) {
    if (what < 0 || what > 17) return -1;
    int entered = now.planes.stream().mapToInt(p -> p.entered).sum();
    return new int[] {now.time, now.n, now.lap, now.planes.size(), now.with(0).size(), now.with(1).size(),
        now.with(2).size(), now.steps, now.wait, now.open ? 1 : 0, now.automatic ? 1 : 0, now.limit, entered,
        entered - fuelOf(now.planes), fuelOf(now.with(1)), fuelOf(now.with(2)), now.reason, history.size()}[what];
  }

  int why(int aircraft) {
    if (unknown(aircraft)) return -1;
    Plane p = now.planes.get(aircraft);
    boolean toLand = p.level == 0 || p.isShort();
    if (p.status != 0) return 1;
    if (p.place != 0) return 2;
    if (toLand && (!now.open || now.wait > 0)) return 3;
    if (!toLand && now.on(p.level - 1) != null) return 4;
    if (!toLand && !p.called && !now.automatic) return 5;
    return 0;
  }

  private static int minutesUntilLanded(State start, int aircraft) {
    State s = start.copy();
    for (int minutes = 0; minutes <= 600; minutes++) {
      if (s.planes.get(aircraft).status == 1) return minutes;
      // One that is DIVERTED stays so; without this line the comparison takes far longer.
      if (s.planes.get(aircraft).status == 2) return -6;
      s.minute();
    }
    return -6;
  }

  int minutesLeft(int aircraft) {
    return unknown(aircraft) ? -1 : minutesUntilLanded(now, aircraft);
  }

  int landsWith(int aircraft) {
    if (unknown(aircraft)) return -1;
    State s = now.copy();
    for (int minutes = 0; minutes < 600; minutes++) s.minute();
    return s.planes.get(aircraft).status == 1 ? s.planes.get(aircraft).fuel : -6;
  }

  int endurance(int aircraft) {
    if (unknown(aircraft)) return -1;
    Plane p = now.planes.get(aircraft).copy();
    if (p.status != 0) return -3;
    int minutes = 0;
    for (; !p.isShort(); minutes++) p.fuel -= p.burn();
    return minutes;
  }

  int bestLevel(int kind, int fuel) {
    if (kind < 0 || kind > 2) return -1;
    if (fuel < 1 || fuel > 9999) return -2;
    if (now.planes.size() == 20) return -4;
    int best = -6;
    int soonest = 601;
    for (int level = 0; level < now.n; level++) {
      if (now.refusal(kind, fuel, level) != 0) continue;
      State s = now.copy();
      int minutes = minutesUntilLanded(s, s.admit(kind, fuel, level));
      if (minutes >= 0 && minutes < soonest) {
        soonest = minutes;
        best = level;
      }
    }
    return best;
  }

  int lands(int index) {
    if (index < 0) return -1;
    State s = now.copy();
    List<Integer> order = new ArrayList<>();
    for (int minutes = 0; minutes < 600; minutes++) {
      int landed = s.minute();
      if (landed >= 0) order.add(landed);
    }
    return index < order.size() ? order.get(index) : -6;
  }

  int append(int character) {
    if (character < 32 || character > 126) return -2;
    if (text.length() == 80) return -4;
    text += (char) character;
    return text.length();
  }

  int clearText() {
    int previous = text.length();
    text = "";
    return previous;
  }

  private int faultOfForm() {
    for (int end = 0; end <= text.length(); end++) {
      Matcher m = FORM.matcher(text.substring(0, end));
      boolean whole = m.matches();
      if (!whole && !m.hitEnd()) return end - 1;
      if (!whole && end == text.length()) return end;
    }
    return -6;
  }

  int faultPosition() {
    int form = faultOfForm();
    String sound = form < 0 ? text : text.substring(0, form);
    Matcher m = DIGITS.matcher(sound);
    while (m.find()) {
      int value = Integer.parseInt(m.group(2));
      char before = m.group(1).charAt(0);
      boolean fits = switch (before) {
        case '@' -> value <= 15;
        case 'c' -> value <= 19;
        case 't' -> value >= 1 && value <= 99;
        default -> value >= 1;
      };
      if (!fits) return m.start(2);
    }
    return form;
  }

  int run() {
    if (faultPosition() >= 0) return -3;
    record();
    inRun = true;
    int done = 0;
    Matcher m = STRIP.matcher(text);
    while (m.find() && carryOut(m) >= 0) done++;
    inRun = false;
    return done;
  }

  private int carryOut(Matcher m) {
    switch (m.group().charAt(0)) {
      case '+': return enter("lmh".indexOf(m.group(1)), Integer.parseInt(m.group(2)), Integer.parseInt(m.group(3)));
      case 'c': return call(Integer.parseInt(m.group(4)));
      case 't': return pass(Integer.parseInt(m.group(5)));
      default: return setRunway(m.group().equals("o;"));
    }
  }

  int undo() {
    if (history.isEmpty()) return -3;
    now = history.removeLast();
    return history.size();
  }

  int keep(int slot) {
    if (slot != 0 && slot != 1) return -1;
    slots[slot] = now.copy();
    return now.time;
  }

  int restore(int slot) {
    if (slot != 0 && slot != 1) return -1;
    if (slots[slot] == null) return -3;
    record();
    now = slots[slot].copy();
    return now.time;
  }

  long checksum() {
    long h = 157;
    for (int what = 0; what < 18; what++) h = 31 * h + tell(what);
    for (int i = 0; i < now.planes.size(); i++) {
      for (int what = 0; what < 8; what++) h = 31 * h + aircraft(i, what);
      h = 31 * (31 * h + why(i)) + minutesLeft(i);
    }
    for (int level = 0; level < now.n; level++) h = 31 * h + level(level);
    return h;
  }
}
