import java.lang.reflect.Array;
import java.util.ArrayList;
import java.util.Comparator;
import java.util.HashMap;
import java.util.List;
import java.util.Map;
import java.util.regex.Matcher;
import java.util.regex.Pattern;

/**
 * The document once more, in the slowest and plainest way that the Java library allows: lists that are sorted, all
 * subsets tried, heat counted quarter by quarter. RandomRunsTest holds the class to it.
 */
final class Model {
    static final int NONE = -1000000, BAD = -1000001, STATE = -1000002, FULL = -1000003;
    private static final List<String> USES = List.of("regular", "party", "club", "funeral", "school");

    static final class Place {
        final int[] numbers = {2, 12, 7, 50, 100, 100};
        final int[] rate = {10, 10, 10, 10, 10};
        List<Integer> order = new ArrayList<>(List.of(0, 1, 2, 3, 4));
    }

    record Hire(int number, int[] items) {
        int hall() { return items[0]; }
        int floor() { return items[1]; }
        int day() { return items[2]; }
        int from() { return items[3]; }
        int to() { return items[4]; }
        int people() { return items[5]; }
        int use() { return items[6]; }
        boolean licence() { return items[7] == 1; }
        int came() { return items[8]; }

        Hire at(int hall, int floor) {
            int[] moved = items.clone();
            moved[0] = hall;
            moved[1] = floor;
            return new Hire(number, moved);
        }
    }

    private final Object[] sheets = new Object[8];
    private final Place[] places = {new Place(), new Place(), new Place(), new Place()};
    private final StringBuilder tape = new StringBuilder();
    private final List<Hire> hires = new ArrayList<>();
    private final Map<Integer, Integer> cancelled = new HashMap<>();
    private final List<int[]> coins = new ArrayList<>();
    private final List<int[]> gifts = new ArrayList<>();
    private final List<int[]> looks = new ArrayList<>();
    private final List<int[]> meetings = new ArrayList<>();
    private List<Integer> trace = new ArrayList<>();
    private int fault = 0;
    private int today = 0;
    private int status = 0;

    private int finding(int n) {
        status = n;
        return -1000010 - n;
    }

    private int fine(int answer) {
        status = 0;
        return answer;
    }

    private static boolean in(long v, long a, long b) {
        return a <= v && v <= b;
    }

    public int sheet(int sheet, int lane, int n) {
        if (!in(sheet, 0, 7) || !in(lane, 0, 2) || n > 60) return BAD;
        if (n < 0) return finding(4);
        sheets[sheet] = lane == 0 ? new byte[n] : lane == 1 ? new short[n] : (Object) new int[n];
        return fine(n);
    }

    public int set(int sheet, int i, int v) {
        if (!in(sheet, 0, 7)) return BAD;
        if (sheets[sheet] == null) return finding(1);
        if (!in(i, 0, Array.getLength(sheets[sheet]) - 1)) return finding(2);
        if (sheets[sheet] instanceof byte[] b) return fine(b[i] = (byte) v);
        if (sheets[sheet] instanceof short[] s) return fine(s[i] = (short) v);
        return fine(((int[]) sheets[sheet])[i] = v);
    }

    public int copy(int a, int i, int b, int j, int n) {
        if (!in(a, 0, 7) || !in(b, 0, 7)) return BAD;
        try {
            System.arraycopy(sheets[a], i, sheets[b], j, n);
            return fine(n);
        } catch (NullPointerException e) {
            return finding(1);
        } catch (ArrayStoreException e) {
            return finding(5);
        } catch (IndexOutOfBoundsException e) {
            return finding(2);
        }
    }

    public int drop(int sheet) {
        if (!in(sheet, 0, 7)) return BAD;
        if (sheets[sheet] == null) return finding(1);
        int n = Array.getLength(sheets[sheet]);
        sheets[sheet] = null;
        return fine(n);
    }

    public int feed(long w, int n) {
        if (!in(n, 1, 8)) return BAD;
        if (tape.length() + n > 400) return FULL;
        for (int i = n - 1; i >= 0; i--) tape.append((char) (w >> 8 * i & 255));
        return tape.length();
    }

    private record Token(String text, int place) { }

    private static final class Fault extends RuntimeException {
        private static final long serialVersionUID = 1;
        final int number;
        final int place;

        Fault(int number, int place) {
            this.number = number;
            this.place = place;
        }
    }

    private List<Token> tokens;
    private int at;

    private Token take() {
        return tokens.get(at++);
    }

    private int number(int greatest) {
        Token t = take();
        if (!t.text.matches("[0-9]{1,4}")) throw new Fault(1, t.place);
        int v = Integer.parseInt(t.text);
        if (v > greatest) throw new Fault(2, t.place);
        return v;
    }

    private int use() {
        Token t = take();
        if (!USES.contains(t.text)) throw new Fault(1, t.place);
        return USES.indexOf(t.text);
    }

    private Runnable rule(Place place) {
        Token t = take();
        switch (t.text) {
            case "setup": { int v = number(8); return () -> place.numbers[0] = v; }
            case "licences": { int v = number(50); return () -> place.numbers[1] = v; }
            case "rate": { int u = use(); int v = number(1000); return () -> place.rate[u] = v; }
            case "late": { int v = number(60); int w = number(100);
                return () -> { place.numbers[2] = v; place.numbers[3] = w; }; }
            case "fire": { int f = number(1); int v = number(500); return () -> place.numbers[4 + f] = v; }
            case "first": {
                List<Integer> firsts = new ArrayList<>(List.of(use()));
                while (USES.contains(tokens.get(at).text)) {
                    int u = use();
                    if (firsts.contains(u)) throw new Fault(3, tokens.get(at - 1).place);
                    firsts.add(u);
                }
                return () -> { place.order.removeAll(firsts); place.order.addAll(0, firsts); };
            }
            default: throw new Fault(1, t.place);
        }
    }

    public int rules() {
        String text = tape.toString();
        tape.setLength(0);
        tokens = new ArrayList<>();
        at = 0;
        Matcher m = Pattern.compile("[ \n]+|([a-z]+|[0-9]+|[^a-z0-9])", Pattern.DOTALL).matcher(text);
        while (m.find()) {
            if (m.group(1) != null) tokens.add(new Token(m.group(1), m.start()));
        }
        tokens.add(new Token("", text.length()));
        List<Runnable> todo = new ArrayList<>();
        try {
            while (!tokens.get(at).text.isEmpty()) {
                Token t = take();
                if (!t.text.equals("hall")) throw new Fault(1, t.place);
                Place place = places[number(3)];
                do {
                    todo.add(rule(place));
                } while (!tokens.get(at).text.equals(";"));
                at++;
            }
        } catch (Fault f) {
            fault = f.number;
            return -1000100 - f.place;
        }
        todo.forEach(Runnable::run);
        return todo.size();
    }

    public int fault() {
        return fault;
    }

    public int hall(int hall, int what) {
        if (!in(hall, 0, 3)) return BAD;
        if (in(what, 0, 5)) return places[hall].numbers[what];
        if (in(what, 10, 14)) return places[hall].rate[what - 10];
        if (in(what, 20, 24)) return places[hall].order.indexOf(what - 20);
        return BAD;
    }

    public int book(int sheet, int i) {
        if (!in(sheet, 0, 7)) return BAD;
        if (hires.size() == 16) return FULL;
        if (sheets[sheet] == null) return finding(1);
        if (i < 0 || (long) i + 9 > Array.getLength(sheets[sheet])) return finding(2);
        int[] v = new int[9];
        for (int k = 0; k < 9; k++) v[k] = Array.getInt(sheets[sheet], i + k);
        boolean good = in(v[0], 0, 3) && in(v[1], 0, 1) && in(v[2], 0, 364) && in(v[3], 0, 96) && in(v[4], 0, 96)
            && v[3] < v[4] && in(v[5], 1, 999) && in(v[6], 0, 4) && in(v[7], 0, 1) && in(v[8], 0, 364) && v[8] <= v[2];
        if (!good) return BAD;
        hires.add(new Hire(hires.size(), v));
        return fine(hires.size() - 1);
    }

    private boolean is(int booking) {
        return in(booking, 0, hires.size() - 1);
    }

    public int cancel(int booking, int day) {
        if (!is(booking) || day < hires.get(booking).came() || day > hires.get(booking).day()) return BAD;
        return cancelled.putIfAbsent(booking, day) == null ? 1 : STATE;
    }

    private int price(Hire h) {
        Place p = places[h.hall()];
        int full = (h.to() - h.from()) * p.rate[h.use()];
        Integer gone = cancelled.get(h.number());
        if (gone == null) return full;
        return h.day() - gone < p.numbers[2] ? full * p.numbers[3] / 100 : 0;
    }

    public int told(int booking, int what) {
        if (!is(booking) || !in(what, 0, 10)) return BAD;
        if (what == 9) return cancelled.getOrDefault(booking, NONE);
        return what == 10 ? price(hires.get(booking)) : hires.get(booking).items()[what];
    }

    private boolean clashes(Hire a, Hire b) {
        if (a.hall() != b.hall() || a.floor() != b.floor() || a.day() != b.day()) return false;
        int more = a.use() == b.use() ? 0 : places[a.hall()].numbers[0];
        boolean apart = a.to() + more <= b.from() || b.to() + more <= a.from();
        return !apart;
    }

    public int clash(int a, int b) {
        if (!is(a) || !is(b) || a == b) return BAD;
        return clashes(hires.get(a), hires.get(b)) ? 1 : 0;
    }

    private boolean gone(Hire h, int day) {
        return cancelled.getOrDefault(h.number(), 9999) <= day;
    }

    private boolean there(Hire h, int day) {
        return h.came() <= day && !gone(h, day);
    }

    private boolean fits(Hire h) {
        return h.people() <= places[h.hall()].numbers[4 + h.floor()];
    }

    private int rank(Hire h) {
        return places[h.hall()].order.indexOf(h.use());
    }

    private List<Hire> held(int day) {
        List<Hire> line = new ArrayList<>(hires);
        line.removeIf(h -> !there(h, day));
        line.sort(Comparator.comparingInt(this::rank).thenComparingInt(Hire::came).thenComparingInt(Hire::number));
        List<Hire> held = new ArrayList<>();
        for (Hire h : line) {
            long licences = held.stream().filter(o -> o.hall() == h.hall() && o.licence()).count();
            boolean licensed = !h.licence() || licences < places[h.hall()].numbers[1];
            if (fits(h) && licensed && held.stream().noneMatch(o -> clashes(o, h))) held.add(h);
        }
        held.sort(Comparator.comparingInt(Hire::number));
        return held;
    }

    private static int bits(List<Hire> set) {
        return set.stream().mapToInt(h -> 1 << h.number()).sum();
    }

    public int holding(int day, int what) {
        if (!in(day, 0, 364) || !in(what, 0, 2)) return BAD;
        if (what == 0) return bits(held(day));
        if (what == 1) return bits(hires.stream().filter(h -> there(h, day)).toList());
        return held(day).stream().mapToInt(this::price).sum();
    }

    public int most(int hall, int floor, int day, int what) {
        if (!in(hall, 0, 3) || !in(floor, 0, 1) || !in(day, 0, 364) || !in(what, 0, 1)) return BAD;
        List<Hire> may = hires.stream().filter(h -> h.hall() == hall && h.floor() == floor && h.day() == day
            && there(h, today) && fits(h)).toList();
        int[] best = {0, 0};
        tryAll(may, 0, new ArrayList<>(), best);
        return best[what];
    }

    private void tryAll(List<Hire> may, int next, List<Hire> set, int[] best) {
        if (next == may.size()) {
            int prices = set.stream().mapToInt(this::price).sum();
            if (prices > best[1] || prices == best[1] && bits(set) < best[0]) {
                best[0] = bits(set);
                best[1] = prices;
            }
            return;
        }
        tryAll(may, next + 1, set, best);
        Hire h = may.get(next);
        if (set.stream().noneMatch(o -> clashes(o, h))) {
            set.add(h);
            tryAll(may, next + 1, set, best);
            set.remove(set.size() - 1);
        }
    }

    public int funeral(int hall, int day, int from, int to, int people, int what) {
        if (!in(hall, 0, 3) || !in(day, 0, 364) || !in(from, 0, 96) || !in(to, 0, 96) || from >= to) return BAD;
        if (!in(people, 1, 500) || !in(what, 0, 18)) return BAD;
        List<Hire> held = held(today);
        Hire service = null;
        List<Hire> away = List.of();
        for (int floor = 0; floor < 2; floor++) {
            Hire s = new Hire(-1, new int[] {hall, floor, day, from, to, people, 3, 0, 0});
            List<Hire> clashing = held.stream().filter(h -> clashes(h, s)).toList();
            if (fits(s) && (service == null || clashing.size() < away.size())) {
                service = s;
                away = clashing;
            }
        }
        if (service == null) return what == 1 || what == 2 ? 0 : NONE;
        List<Hire> taken = new ArrayList<>(held);
        taken.removeAll(away);
        taken.add(service);
        Map<Integer, Integer> goes = new HashMap<>();
        for (Hire h : away) {
            for (int step = 0; step < 8 && !goes.containsKey(h.number()); step++) {
                Hire there = h.at((h.hall() + step / 2) % 4, step % 2);
                if (fits(there) && taken.stream().noneMatch(o -> clashes(o, there))) {
                    taken.add(there);
                    goes.put(h.number(), 2 * there.hall() + there.floor());
                }
            }
        }
        if (what == 0) return service.floor();
        if (what == 1) return away.size();
        if (what == 2) return away.size() - goes.size();
        return goes.getOrDefault(what - 3, NONE);
    }

    private static int tell(List<int[]> list, int... row) {
        if (list.size() == 40) return FULL;
        list.add(row);
        return list.size();
    }

    private static List<int[]> byTime(List<int[]> list, int thing) {
        List<int[]> rows = new ArrayList<>(list);
        rows.removeIf(r -> r[1] != thing);
        rows.sort(Comparator.comparingInt(r -> r[0]));
        return rows;
    }

    public int coin(int hall, int day, int quarter, int minutes) {
        if (!in(hall, 0, 3) || !in(day, 0, 364) || !in(quarter, 0, 95) || !in(minutes, 1, 600)) return BAD;
        return tell(coins, day * 96 + quarter, hall, minutes);
    }

    public int run(int hall, int day, int quarter) {
        if (!in(hall, 0, 3) || !in(day, 0, 364) || !in(quarter, 0, 96)) return BAD;
        List<int[]> rows = byTime(coins, hall);
        int left = 0;
        int ran = 0;
        int next = 0;
        for (int q = rows.isEmpty() ? 999999 : rows.get(0)[0]; q < day * 96 + quarter; q++) {
            while (next < rows.size() && rows.get(next)[0] == q) left += rows.get(next++)[2];
            int now = Math.min(15, left);
            ran += now;
            left -= now;
        }
        return ran;
    }

    public int meter(int hall, int day, int quarter, int minutes) {
        int ran = run(hall, day, quarter);
        return ran == BAD || !in(minutes, 0, 100000) ? BAD : Math.abs(ran - minutes) <= 15 ? 1 : 0;
    }

    public int give(int key, int from, int to, int day) {
        if (!in(key, 0, 3) || !in(from, 0, 9) || !in(to, 0, 9) || from == to || !in(day, 0, 364)) return BAD;
        return tell(gifts, day, key, from, to);
    }

    public int key(int key, int day, int what) {
        if (!in(key, 0, 3) || !in(day, 0, 364) || !in(what, 0, 1)) return BAD;
        int has = NONE;
        int wrong = 0;
        List<int[]> rows = byTime(gifts, key);
        for (int i = 0; i < rows.size(); i++) {
            int[] r = rows.get(i);
            if (r[0] > day) continue;
            if (i == 0 || r[2] == has) has = r[3];
            else wrong++;
        }
        return what == 0 ? has : wrong;
    }

    public int look(int hall, int day, int quarter, int damage) {
        if (!in(hall, 0, 3) || !in(day, 0, 364) || !in(quarter, 0, 95) || !in(damage, 0, 255)) return BAD;
        return tell(looks, day * 96 + quarter, hall, damage);
    }

    public int home(int hall, int damage) {
        if (!in(hall, 0, 3) || !in(damage, 0, 7)) return BAD;
        List<int[]> rows = byTime(looks, hall);
        int with = 0;
        while (with < rows.size() && (rows.get(with)[2] & 1 << damage) == 0) with++;
        if (with == rows.size() || with == 0) return NONE;
        int a = rows.get(with - 1)[0];
        int b = rows.get(with)[0];
        if (a == b) return NONE;
        List<Hire> between = held(364).stream().filter(h -> h.hall() == hall && h.day() * 96 + h.from() < b
            && a < h.day() * 96 + h.to()).toList();
        return between.size() == 1 ? between.get(0).number() : NONE;
    }

    public int meeting(int members, int yes, int no, int quorum, int hangs) {
        boolean numbers = in(members, 1, 99) && yes >= 0 && no >= 0 && (long) yes + no <= members && in(quorum, 0, 99);
        if (!numbers || hangs != NONE && !in(hangs, 0, meetings.size() - 1)) return BAD;
        if (meetings.size() == 10) return FULL;
        meetings.add(new int[] {yes, no, quorum, hangs});
        return meetings.size() - 1;
    }

    private boolean valid(int m) {
        int[] r = meetings.get(m);
        return r[0] + r[1] >= r[2] && (r[3] == NONE || carried(r[3]));
    }

    private boolean carried(int m) {
        return valid(m) && meetings.get(m)[0] > meetings.get(m)[1];
    }

    private int hanging(int m) {
        int n = 0;
        for (int k = 0; k < meetings.size(); k++) {
            if (meetings.get(k)[3] == m) n += 1 + hanging(k);
        }
        return n;
    }

    public int met(int meeting, int what) {
        if (!in(meeting, 0, meetings.size() - 1) || !in(what, 0, 2)) return BAD;
        return what == 0 ? valid(meeting) ? 1 : 0 : what == 1 ? carried(meeting) ? 1 : 0 : hanging(meeting);
    }

    public int day(int day) {
        if (!in(day, 0, 364)) return BAD;
        int was = today;
        today = day;
        return was;
    }

    public int kind(int booking) {
        if (!is(booking)) return BAD;
        Hire h = hires.get(booking);
        if (gone(h, today)) return 3;
        if (held(today).contains(h)) return rank(h) == 0 ? 2 : 1;
        return there(h, today) ? 4 : 0;
    }

    public int as(int booking, int kind) {
        if (!is(booking) || !in(kind, 0, 4)) return BAD;
        int is = kind(booking);
        boolean right = kind == 0 || is == kind || is == 2 && kind == 1;
        return right ? fine(hires.get(booking).day()) : finding(3);
    }

    private int begin(int booking, int body) {
        Hire h = hires.get(booking);
        trace.add(body);
        switch (body) {
            case 10: return h.people();
            case 11: return begin(booking, 10) + price(h);
            case 12: return 2 * begin(booking, 11);
            case 13: return begin(booking, 10) - dispatch(booking, 1);
            case 20: return h.use();
            case 21: return begin(booking, 20) + h.day();
            case 22: return begin(booking, 21) + dispatch(booking, 0);
            default: return begin(booking, 20) + dispatch(booking, 0);
        }
    }

    private int dispatch(int booking, int what) {
        int[][] bodies = {{10, 11, 12, 13, 10}, {20, 21, 22, 20, 23}};
        return begin(booking, bodies[what][kind(booking)]);
    }

    public int ask(int booking, int what) {
        if (!is(booking) || !in(what, 0, 1)) return BAD;
        trace = new ArrayList<>();
        return dispatch(booking, what);
    }

    public int trace(int i) {
        return in(i, 0, Math.min(16, trace.size()) - 1) ? trace.get(i) : NONE;
    }

    public int count(int what) {
        int n = 0;
        switch (what) {
            case 0:
                for (Object s : sheets) n += s == null ? 0 : 1;
                return n;
            case 1: return hires.size();
            case 2: case 3: case 4: case 5:
                for (int k = 0; k < hires.size(); k++) {
                    int kind = kind(k);
                    n += kind == what - 1 || what == 2 && kind == 2 ? 1 : 0;
                }
                return n;
            case 6: return coins.size();
            case 7: return meetings.size();
            case 8: return tape.length();
            default: return BAD;
        }
    }

    public int status() {
        return status;
    }
}
