import java.util.ArrayDeque;
import java.util.ArrayList;
import java.util.Deque;
import java.util.List;
import java.util.TreeMap;
import java.math.BigInteger;

// Runs of 512 calls, drawn by a fixed seed, against a second program of the same document that copies all at every step.
public final class OnePortraitAgainstModel {
    private static final int RUNS = 400;
    private static final int CALLS = 512;
    private static final long LONGS = 4000000000000000000L;
    private static final int[] ODD = {Integer.MIN_VALUE, Integer.MIN_VALUE + 1, -1000, -10, -3, -2, -1, 0, 1, 2, 3, 6, 7, 8, 9,
        10, 11, 12, 13, 20, 21, 59, 60, 61, 96, 98, 99, 100, 255, 256, 999, Integer.MAX_VALUE - 1, Integer.MAX_VALUE};
    private static long seed = 20261118;

    private record Widow(int kind, int figure, int grief, int day, int met) {
        Widow grieved(int v) {
            return new Widow(kind, figure, Math.max(0, Math.min(99, v)), day, met);
        }

        double[] wearsOf() {
            double weep = Math.floor(grief / 20.0);
            switch (kind) {
                case 0: return new double[] {1, 1, 1};
                case 1: return new double[] {1, 1, 1 + weep};
                case 2: return new double[] {1, 1 + Math.floor(figure / 2.0), 1};
                case 3: return new double[] {1 + Math.floor(figure / 3.0), 1, 1};
                case 4: return new double[] {-2, 1, 1 + weep};
                default: return new double[] {2 + Math.floor(figure / 3.0), 2, 2};
            }
        }

        int comfort(List<Integer> parts, int week) {
            int widow = parts.get(0) / 20 + 1;
            int[] plain = {widow, widow + 2, parts.get(1) / 10, widow * 2, figure, (widow * 2) / 2};
            return plain[kind] + (week % 12 == day ? 10 : 0);
        }
    }

    private record State(List<Widow> widows, List<Integer> parts, List<Integer> rota, int week) {
        int host(int weeks) {
            return rota.isEmpty() ? 9 : rota.get((week + weeks) % rota.size());
        }

        State on(int weeks) {
            State s = this;
            for (int i = 0; i < weeks; i++) {
                s = s.onWith(s.host(0));
            }
            return s;
        }

        private State onWith(int host) {
            List<Widow> after = new ArrayList<>();
            List<Integer> seen = new ArrayList<>(parts);
            for (int w = 0; w < widows.size(); w++) {
                Widow her = widows.get(w);
                if (w != host) {
                    after.add(her.grieved(her.grief + 1));
                    continue;
                }
                Widow eased = her.grieved(her.grief - her.comfort(parts, week));
                if (week % 12 == her.day) {
                    eased = new Widow(eased.kind, eased.figure, eased.grief, eased.day, Math.min(99, eased.met + 1));
                }
                double[] wears = eased.wearsOf();
                for (int part = 0; part < 3; part++) {
                    seen.set(part, (int) Math.min(99, Math.max(0, parts.get(part) - wears[part])));
                }
                after.add(eased);
            }
            return new State(after, seen, rota, week + 1);
        }

        int grief() {
            return widows.stream().mapToInt(w -> w.grief).sum();
        }

        int met() {
            return widows.stream().mapToInt(w -> w.met).sum();
        }

        int sight() {
            return parts.stream().mapToInt(p -> p).sum();
        }

        State rotaIs(List<Integer> other) {
            return new State(widows, parts, List.copyOf(other), week);
        }

        State without(int widow) {
            return rotaIs(rota.stream().map(w -> w == widow ? 9 : w).toList());
        }

        State part(int part, int v) {
            List<Integer> seen = new ArrayList<>(parts);
            seen.set(part, v);
            return new State(widows, seen, rota, week);
        }

        State put(int widow, Widow her) {
            List<Widow> all = new ArrayList<>(widows);
            if (widow == all.size()) {
                all.add(her);
            } else {
                all.set(widow, her);
            }
            return new State(all, parts, rota, week);
        }

        State append(int host) {
            List<Integer> longer = new ArrayList<>(rota);
            longer.add(host);
            return rotaIs(longer);
        }

        boolean has(int widow) {
            return widow >= 0 && widow < widows.size();
        }
    }

    private static final class Model {
        private State now = new State(List.of(), List.of(90, 90, 90), List.of(), 0);
        private State picture = null;
        private final Deque<State> past = new ArrayDeque<>();
        private String text = "";
        private List<Integer> row = new ArrayList<>();
        private final TreeMap<Integer, Integer> refusals = new TreeMap<>();

        private int no(int number) {
            refusals.merge(number, 1, Integer::sum);
            return number;
        }

        private int wants(int v, int least, int greatest) {
            return v < least ? -4 : v > greatest ? -6 : 0;
        }

        private int fits(int v, int greatest) {
            return v < 0 || v > greatest ? -2 : 0;
        }

        private int first(int... faults) {
            for (int fault : faults) {
                if (fault != 0) {
                    return fault;
                }
            }
            return 0;
        }

        private int her(int widow) {
            return now.has(widow) ? 0 : -1;
        }

        private void keep() {
            past.addFirst(now);
            if (past.size() > 8) {
                past.removeLast();
            }
        }

        int feed(int letter) {
            int f = first(wants(letter, 0, 255), text.length() == 96 ? -6 : 0);
            if (f != 0) {
                return no(f);
            }
            text += (char) letter;
            return text.length();
        }

        private int badPlace(String t) {
            // the longest beginning that can go on to a STREET
            String one = "(?:w\\d{6}|r\\d|x|[mg]\\d{3}|k\\d{2});";
            String part = "(?:w\\d{0,6}|r\\d?|x|[mg]\\d{0,3}|k\\d{0,2})?";
            if (t.matches("(?:" + one + ")+")) {
                return -1;
            }
            for (int length = t.length(); length > 0; length--) {
                if (t.substring(0, length).matches("(?:" + one + ")*" + part)) {
                    return length;
                }
            }
            return 0;
        }

        int street() {
            String t = text;
            text = "";
            int bad = badPlace(t);
            if (bad >= 0) {
                return -1000 - bad;
            }
            State s = now;
            int place = 0;
            int statements = 0;
            for (String statement : t.split(";")) {
                s = after(s, statement);
                if (s == null) {
                    return -2000 - place;
                }
                place += statement.length() + 1;
                statements++;
            }
            now = s;
            past.clear();
            return statements;
        }

        private State after(State s, String t) {
            int a = t.length() > 1 ? t.charAt(1) - '0' : -1;
            switch (t.charAt(0)) {
                case 'w': {
                    int day = Integer.parseInt(t.substring(5));
                    if (a > 5 || day > 11 || s.widows.size() == 7) {
                        return null;
                    }
                    return s.put(s.widows.size(), new Widow(a, t.charAt(2) - '0', Integer.parseInt(t.substring(3, 5)), day, 0));
                }
                case 'r':
                    return (a != 9 && !s.has(a)) || s.rota.size() == 12 ? null : s.append(a);
                case 'x':
                    return s.rotaIs(List.of());
                case 'm':
                    return a > 2 ? null : s.part(a, Integer.parseInt(t.substring(2)));
                case 'g':
                    return !s.has(a) ? null : s.put(a, s.widows.get(a).grieved(Integer.parseInt(t.substring(2))));
                default: {
                    int n = Integer.parseInt(t.substring(1));
                    return n < 1 || n > 60 || s.week + n > 999 ? null : s.on(n);
                }
            }
        }

        int widowOf(int widow, int what) {
            int f = first(her(widow), fits(what, 6));
            if (f != 0) {
                return no(f);
            }
            Widow w = now.widows.get(widow);
            int[] all = {w.kind, w.figure, w.grief, w.day, w.met, w.comfort(now.parts, now.week),
                (int) now.rota.stream().filter(h -> h == widow).count()};
            return all[what];
        }

        int wears(int widow, int part) {
            int f = first(her(widow), fits(part, 2));
            return f != 0 ? no(f) : (int) (10 + now.widows.get(widow).wearsOf()[part]);
        }

        int seen(int part) {
            return fits(part, 2) != 0 ? no(-2) : now.parts.get(part);
        }

        int rota(int place) {
            return place < 0 || place >= now.rota.size() ? no(-1) : now.rota.get(place);
        }

        int widow(int kind, int figure, int grief, int day) {
            int f = first(fits(kind, 5), Math.min(figure, Math.min(grief, day)) < 0 ? -4 : 0,
                    figure > 9 || grief > 99 || day > 11 || now.widows.size() > 6 ? -6 : 0);
            if (f != 0) {
                return no(f);
            }
            now = now.put(now.widows.size(), new Widow(kind, figure, grief, day, 0));
            past.clear();
            return now.widows.size() - 1;
        }

        int puts(int place, int widow) {
            int size = now.rota.size();
            int f = first(place < 0 || place > size || (widow != 9 && !now.has(widow)) ? -1 : 0, place == 12 ? -6 : 0);
            if (f != 0) {
                return no(f);
            }
            keep();
            if (place == size) {
                now = now.append(widow);
                return 9;
            }
            List<Integer> other = new ArrayList<>(now.rota);
            int was = other.set(place, widow);
            now = now.rotaIs(other);
            return was;
        }

        int mends(int part, int v) {
            int f = first(fits(part, 2), wants(v, 0, 99));
            if (f != 0) {
                return no(f);
            }
            keep();
            int was = now.parts.get(part);
            now = now.part(part, v);
            return was;
        }

        int grieves(int widow, int v) {
            int f = first(her(widow), wants(v, 0, 99));
            if (f != 0) {
                return no(f);
            }
            keep();
            Widow was = now.widows.get(widow);
            now = now.put(widow, was.grieved(v));
            return was.grief;
        }

        int weeks(int n) {
            int f = first(wants(n, 1, 60), (long) now.week + n > 999 ? -6 : 0);
            if (f != 0) {
                return no(f);
            }
            keep();
            now = now.on(n);
            return now.grief();
        }

        int back() {
            if (past.isEmpty()) {
                return no(-3);
            }
            now = past.removeFirst();
            return past.size();
        }

        int then(int n, int what) {
            int f = first(wants(n, 0, 60), fits(what, 4));
            if (f != 0) {
                return no(f);
            }
            State s = now.on(n);
            return what == 0 ? now.host(n) : what == 1 ? s.grief() : s.parts.get(what - 2);
        }

        int widowIn(int widow, int n, int what) {
            int f = first(her(widow), wants(n, 0, 60), fits(what, 1));
            if (f != 0) {
                return no(f);
            }
            Widow w = now.on(n).widows.get(widow);
            return what == 0 ? w.grief : w.met;
        }

        private int goneOne(int part) {
            State s = now;
            for (int n = 0; n <= 60; n++, s = s.on(1)) {
                if (s.parts.get(part) == 0) {
                    return n;
                }
            }
            return -9;
        }

        int gone(int part) {
            if (part < -1 || part > 2) {
                return no(-2);
            }
            if (part >= 0) {
                return goneOne(part);
            }
            int best = -9;
            for (int p = 2; p >= 0; p--) {
                if (goneOne(p) >= 0 && (best < 0 || goneOne(p) <= goneOne(best))) {
                    best = p;
                }
            }
            return best;
        }

        int dayMet(int widow) {
            if (her(widow) != 0) {
                return no(-1);
            }
            for (int n = 1; n <= 60; n++) {
                if (now.on(n).widows.get(widow).met > now.widows.get(widow).met) {
                    return n;
                }
            }
            return -9;
        }

        int like() {
            int best = -9;
            for (int w = now.widows.size() - 1; w >= 0; w--) {
                if (best < 0 || likeness(w) >= likeness(best)) {
                    best = w;
                }
            }
            return best;
        }

        private int likeness(int w) {
            return now.parts.get(w % 3) + now.widows.get(w).grief;
        }

        int turn(int widow, int n) {
            int f = first(her(widow), wants(n, 0, 60), now.rota.size() == 12 ? -6 : 0);
            if (f != 0) {
                return no(f);
            }
            TreeMap<Integer, Integer> places = new TreeMap<>();
            for (int place = now.rota.size(); place >= 0; place--) {
                List<Integer> other = new ArrayList<>(now.rota);
                other.add(place, widow);
                places.put(now.rotaIs(other).on(n).grief(), place);
            }
            return places.firstEntry().getValue();
        }

        int swap(int n) {
            int f = wants(n, 0, 60);
            if (f != 0) {
                return no(f);
            }
            TreeMap<Integer, Integer> pairs = new TreeMap<>();
            for (int i = 0; i < now.rota.size(); i++) {
                for (int j = i + 1; j < now.rota.size(); j++) {
                    List<Integer> other = new ArrayList<>(now.rota);
                    java.util.Collections.swap(other, i, j);
                    pairs.putIfAbsent(now.rotaIs(other).on(n).grief(), 100 * i + j);
                }
            }
            return pairs.isEmpty() || pairs.firstKey() >= now.on(n).grief() ? -9 : pairs.firstEntry().getValue();
        }

        int leave(int n) {
            int f = wants(n, 0, 60);
            if (f != 0) {
                return no(f);
            }
            TreeMap<Integer, Integer> widows = new TreeMap<>();
            for (int w = 0; w < now.widows.size(); w++) {
                widows.putIfAbsent(now.without(w).on(n).sight(), w);
            }
            return widows.isEmpty() || widows.lastKey() <= now.on(n).sight() ? -9 : widows.lastEntry().getValue();
        }

        int mend(int n) {
            int f = wants(n, 0, 60);
            if (f != 0) {
                return no(f);
            }
            TreeMap<Integer, Integer> parts = new TreeMap<>();
            for (int p = 0; p < 3; p++) {
                parts.putIfAbsent(now.part(p, 90).on(n).grief(), p);
            }
            return parts.firstKey() >= now.on(n).grief() ? -9 : parts.firstEntry().getValue();
        }

        int lasts(int v) {
            int f = wants(v, 0, 99);
            if (f != 0) {
                return no(f);
            }
            int n = 0;
            while (n < 60 && now.on(n + 1).parts.stream().allMatch(p -> p >= v)) {
                n++;
            }
            return n;
        }

        int carry(int n) {
            int f = wants(n, 1, 60);
            if (f != 0) {
                return no(f);
            }
            int sum = 0;
            for (int i = 0; i < n; i++) {
                sum += Math.abs(Math.min(7, now.host(i)) - Math.min(7, now.host(i + 1)));
            }
            return sum;
        }

        int bestRota(int i) {
            int f = wants(i, -1, 11);
            if (f != 0) {
                return no(f);
            }
            if (i == -1) {
                return now.widows.size() - (int) now.widows.stream().map(Widow::day).distinct().count();
            }
            int best = 9;
            for (int w = now.widows.size() - 1; w >= 0; w--) {
                if (now.widows.get(w).day == i && (best == 9 || now.widows.get(w).grief >= now.widows.get(best).grief)) {
                    best = w;
                }
            }
            return best;
        }

        private boolean isAsRow(State s, int part) {
            for (int i = 0; i < row.size(); i++) {
                if (!s.on(i).parts.get(part).equals(row.get(i))) {
                    return false;
                }
            }
            return true;
        }

        int whoHad(int part) {
            if (fits(part, 2) != 0) {
                return no(-2);
            }
            int bits = 0;
            for (int w = 0; w < now.widows.size(); w++) {
                bits += isAsRow(now.rotaIs(List.of(w)), part) ? 1 << w : 0;
            }
            return bits;
        }

        int whatKind(int widow, int part, int what) {
            int f = first(her(widow), fits(part, 2), fits(what, 1));
            if (f != 0) {
                return no(f);
            }
            Widow w = now.widows.get(widow);
            int bits = 0;
            for (int g = 0; g < (what == 0 ? 6 : 10); g++) {
                Widow other = what == 0 ? new Widow(g, w.figure, w.grief, w.day, w.met) : new Widow(w.kind, g, w.grief, w.day, w.met);
                bits += isAsRow(now.put(widow, other), part) ? 1 << g : 0;
            }
            return bits;
        }

        int two(int one, int other, int n) {
            int f = first(her(one), her(other), one == other ? -1 : 0, wants(n, 0, 60));
            if (f != 0) {
                return no(f);
            }
            int[][][] want = new int[2][2][2];
            for (int a = 0; a < 2; a++) {
                for (int b = 0; b < 2; b++) {
                    State s = a == 1 ? now.without(one) : now;
                    s = (b == 1 ? s.without(other) : s).on(n);
                    want[a][b] = new int[] {s.widows.get(one).grief - 3 * a, s.widows.get(other).grief - 3 * b};
                }
            }
            for (int pair : new int[] {0, 1, 10, 11}) {
                int a = pair / 10;
                int b = pair % 10;
                if (!(want[1 - a][b][0] < want[a][b][0]) && !(want[a][1 - b][1] < want[a][b][1])) {
                    return pair;
                }
            }
            return -9;
        }

        long gales(int widow, int n, int t, int v, int part) {
            int f = first(her(widow), n < 0 || v < 0 || t < 2 ? -4 : 0, n > 7 || t > 20 || v > 99 ? -6 : 0, fits(part, 1));
            if (f != 0) {
                return LONGS - no(f);
            }
            BigInteger above = sky(now, widow, n, t, v);
            BigInteger below = BigInteger.valueOf(t).pow(n);
            BigInteger divisor = above.gcd(below);
            return (part == 0 ? above : below).divide(divisor).longValueExact();
        }

        private BigInteger sky(State s, int widow, int n, int t, int v) {
            if (n == 0) {
                return s.widows.get(widow).grief <= v ? BigInteger.ONE : BigInteger.ZERO;
            }
            return sky(s.onWith(9), widow, n - 1, t, v)
                    .add(sky(s.on(1), widow, n - 1, t, v).multiply(BigInteger.valueOf(t - 1)));
        }

        int worst(int what) {
            if (fits(what, 2) != 0) {
                return no(-2);
            }
            int best = -9;
            int never = 0;
            int same = 0;
            for (int w = now.widows.size() - 1; w >= 0; w--) {
                Widow her = now.widows.get(w);
                best = best < 0 || her.grief >= now.widows.get(best).grief ? w : best;
                never += now.rota.contains(w) ? 0 : 1 << w;
                for (int v = 0; v < w; v++) {
                    same += now.widows.get(v).day == her.day ? 1 : 0;
                }
            }
            return what == 0 ? best : what == 1 ? never : same;
        }

        long mean(int part) {
            if (fits(part, 1) != 0) {
                return LONGS - no(-2);
            }
            if (now.widows.isEmpty()) {
                return part;
            }
            BigInteger above = BigInteger.valueOf(now.grief());
            BigInteger below = BigInteger.valueOf(now.widows.size());
            return (part == 0 ? above : below).divide(above.gcd(below)).longValueExact();
        }

        int face(int what) {
            if (fits(what, 1) != 0) {
                return no(-2);
            }
            return what == 0 ? now.sight() : now.parts.indexOf(java.util.Collections.max(now.parts));
        }

        int next(int widow) {
            if (her(widow) != 0) {
                return no(-1);
            }
            int n = 0;
            while (n <= 60 && now.host(n) != widow) {
                n++;
            }
            return n == 61 ? -9 : n;
        }

        int gap(int widow) {
            if (her(widow) != 0) {
                return no(-1);
            }
            StringBuilder weeks = new StringBuilder();
            for (int i = 0; i < 60; i++) {
                weeks.append(now.host(i) == widow ? ' ' : '-');
            }
            int longest = 0;
            for (String run : weeks.toString().split(" ")) {
                longest = Math.max(longest, run.length());
            }
            return longest;
        }

        int eased(int widow, int n) {
            int f = first(her(widow), wants(n, 0, 60));
            return f != 0 ? 1000000000 - no(f) : now.widows.get(widow).grief - now.on(n).widows.get(widow).grief;
        }

        private int stays(int host, int n) {
            int sum = 0;
            for (State s = now; s.week < now.week + n; s = s.on(1)) {
                sum += s.host(0) == host ? 1 : 0;
            }
            return sum;
        }

        int sundays(int n) {
            int f = wants(n, 0, 60);
            return f != 0 ? no(f) : stays(9, n);
        }

        int kept() {
            int best = -9;
            for (int w = now.widows.size() - 1; w >= 0; w--) {
                if (stays(w, 60) > 0 && (best < 0 || stays(w, 60) >= stays(best, 60))) {
                    best = w;
                }
            }
            return best;
        }

        int row(int v) {
            int f = first(wants(v, 0, 99), row.size() == 12 ? -6 : 0);
            if (f != 0) {
                return no(f);
            }
            row.add(v);
            return row.size();
        }

        int judge() {
            List<Integer> griefs = now.widows.stream().map(Widow::grief).toList();
            int i = 0;
            while (i < row.size() && i < griefs.size() && row.get(i).equals(griefs.get(i))) {
                i++;
            }
            int answer = i == row.size() ? -9 : i;
            row = new ArrayList<>();
            return answer;
        }

        int clear() {
            int had = row.size();
            row = new ArrayList<>();
            return had;
        }

        int lots(int n, int z, int what) {
            int f = first(wants(n, 1, 20), fits(what, 1), now.widows.isEmpty() ? -3 : 0);
            if (f != 0) {
                return no(f);
            }
            int sum = 0;
            BigInteger wrap = BigInteger.ONE.shiftLeft(32);
            BigInteger seed = BigInteger.valueOf(z);
            for (int year = 0; year < n; year++) {
                List<Integer> hosts = new ArrayList<>();
                while (hosts.size() < now.rota.size()) {
                    seed = seed.multiply(BigInteger.valueOf(1103515245)).add(BigInteger.valueOf(12345)).mod(wrap);
                    hosts.add(seed.clearBit(31).shiftRight(16).intValueExact() % now.widows.size());
                }
                State s = now.rotaIs(hosts).on(12);
                sum += what == 0 ? s.grief() : s.met() - now.met();
            }
            return sum;
        }

        int image() {
            picture = now;
            return now.week;
        }

        int restore() {
            if (picture == null) {
                return no(-3);
            }
            now = picture;
            past.clear();
            return now.week;
        }

        int count(int what) {
            if (what >= 11 && what <= 16) {
                return refusals.getOrDefault(10 - what, 0);
            }
            int[] all = {now.widows.size(), now.week, now.rota.size(), now.host(0), now.grief(), now.met(), text.length(),
                row.size(), past.size()};
            return what >= 0 && what < all.length ? all[what] : -9;
        }
    }

    private static int draw(int below) {
        seed = seed * 6364136223846793005L + 1442695040888963407L;
        return (int) ((seed >>> 33) % below);
    }

    /** Mostly a number that fits, at times one that may not. */
    private static int about(int least, int greatest) {
        int luck = draw(40);
        if (luck == 0) {
            return ODD[draw(ODD.length)];
        }
        if (luck == 1) {
            return draw(2) == 0 ? least - 1 : greatest + 1;
        }
        if (luck < 6) {
            return draw(2) == 0 ? least : greatest;
        }
        return least + draw(greatest - least + 1);
    }

    private static String statement(Model m) {
        int widows = Math.max(1, m.now.widows.size());
        switch (draw(9)) {
            case 0: case 1:
                return "w" + draw(draw(9) == 0 ? 10 : 6) + draw(10) + two(draw(100)) + two(draw(draw(9) == 0 ? 14 : 12)) + ";";
            case 2: case 3: case 4:
                return "r" + (draw(5) == 0 ? draw(10) : draw(widows)) + ";";
            case 5:
                return draw(4) == 0 ? "x;" : "m" + draw(draw(6) == 0 ? 5 : 3) + two(draw(100)) + ";";
            case 6:
                return "g" + draw(draw(6) == 0 ? 10 : widows) + two(draw(100)) + ";";
            default:
                return "k" + two(draw(draw(7) == 0 ? 100 : 9)) + ";";
        }
    }

    private static String two(int n) {
        return (n < 10 ? "0" : "") + n;
    }

    private static String text(Model m) {
        StringBuilder text = new StringBuilder();
        int statements = draw(draw(5) == 0 ? 20 : 5);
        for (int i = 0; i < statements; i++) {
            text.append(statement(m));
        }
        int luck = draw(8);
        if (luck == 0 && text.length() > 0) {
            text.setCharAt(draw(text.length()), "wrxmgk;059:/a ".charAt(draw(14)));
        } else if (luck == 1 && text.length() > 0) {
            text.setLength(draw(text.length()));
        }
        return text.toString();
    }

    private static int widowNumber(Model m) {
        return about(0, Math.max(0, m.now.widows.size() - 1));
    }

    private static String call = "";
    private static long got;
    private static long want;

    private static void answer(String name, long program, long model) {
        call = name;
        got = program;
        want = model;
    }

    private static void change(OnePortrait x, Model m) {
        int a = widowNumber(m);
        int v = about(0, 99);
        switch (draw(12)) {
            case 0: {
                int k = about(0, 5);
                int f = about(0, 9);
                int d = about(0, 11);
                answer("widow(" + k + ", " + f + ", " + v + ", " + d + ")", x.widow(k, f, v, d), m.widow(k, f, v, d));
                break;
            }
            case 1: case 2: case 3: {
                int p = about(0, m.now.rota.size());
                int h = draw(5) == 0 ? 9 : a;
                answer("puts(" + p + ", " + h + ")", x.puts(p, h), m.puts(p, h));
                break;
            }
            case 4: {
                int p = about(0, 2);
                answer("mends(" + p + ", " + v + ")", x.mends(p, v), m.mends(p, v));
                break;
            }
            case 5:
                answer("grieves(" + a + ", " + v + ")", x.grieves(a, v), m.grieves(a, v));
                break;
            case 6: case 7: {
                int n = draw(3) == 0 ? about(1, 60) : about(1, 9);
                answer("weeks(" + n + ")", x.weeks(n), m.weeks(n));
                break;
            }
            case 8: case 9:
                answer("back()", x.back(), m.back());
                break;
            case 10:
                answer("image()", x.image(), m.image());
                break;
            default:
                answer("restore()", draw(2) == 0 ? 0 : x.restore() - m.restore(), 0);
                break;
        }
    }

    private static void tellIt(OnePortrait x, Model m) {
        if (draw(6) == 0) {
            int letter = about(0, 255);
            answer("feed(" + letter + ")", x.feed(letter), m.feed(letter));
            return;
        }
        if (m.text.isEmpty()) {
            String text = text(m);
            for (int i = 0; i < text.length(); i++) {
                if (x.feed(text.charAt(i)) != m.feed(text.charAt(i))) {
                    answer("feed in " + text, 0, 1);
                    return;
                }
            }
        }
        answer("street() of " + m.text, x.street(), m.street());
    }

    private static void rows(OnePortrait x, Model m) {
        int luck = draw(10);
        if (luck == 0) {
            answer("judge()", x.judge(), m.judge());
        } else if (luck == 1) {
            answer("clear()", x.clear(), m.clear());
        } else if (luck < 4) {
            int v = about(0, 99);
            answer("row(" + v + ")", x.row(v), m.row(v));
        } else if (luck < 7) {
            // griefs as they are, nearly all
            int i = m.row.size();
            int v = m.now.has(i) && draw(9) > 0 ? m.now.widows.get(i).grief() : 50;
            answer("row(" + v + ")", x.row(v), m.row(v));
        } else {
            wornRow(x, m);
        }
    }

    /** A ROW of a PART as it wears by a guess of a widow, so that WHO HAD HIM and WHAT KIND have something to find. */
    private static void wornRow(OnePortrait x, Model m) {
        x.clear();
        m.clear();
        int part = draw(3);
        State s = m.now;
        int widow = draw(Math.max(1, s.widows().size()));
        if (s.has(widow)) {
            Widow w = s.widows().get(widow);
            s = s.put(widow, new Widow(draw(6), draw(2) == 0 ? w.figure() : draw(10), w.grief(), w.day(), w.met()));
            s = draw(2) == 0 ? s : s.rotaIs(List.of(widow));
        }
        int length = 1 + draw(12);
        for (int i = 0; i < length; i++) {
            int v = s.on(i).parts().get(part);
            if (x.row(v) != m.row(v)) {
                answer("row(" + v + ")", 0, 1);
                return;
            }
        }
        answer("whoHad(" + part + ") by a worn row", x.whoHad(part), m.whoHad(part));
        if (got == want && s.has(widow)) {
            int what = draw(2);
            answer("whatKind(" + widow + ", " + part + ", " + what + ") by a worn row", x.whatKind(widow, part, what),
                    m.whatKind(widow, part, what));
        }
    }

    private static void look(OnePortrait x, Model m) {
        int a = widowNumber(m);
        int p = about(0, 2);
        int w = about(0, 1);
        switch (draw(15)) {
            case 0: {
                int what = about(0, 6);
                answer("widowOf(" + a + ", " + what + ")", x.widowOf(a, what), m.widowOf(a, what));
                break;
            }
            case 1: answer("wears(" + a + ", " + p + ")", x.wears(a, p), m.wears(a, p)); break;
            case 2: answer("seen(" + p + ")", x.seen(p), m.seen(p)); break;
            case 3: {
                int place = about(0, m.now.rota.size());
                answer("rota(" + place + ")", x.rota(place), m.rota(place));
                break;
            }
            case 4: answer("like()", x.like(), m.like()); break;
            case 5: answer("worst(" + p + ")", x.worst(p), m.worst(p)); break;
            case 6: answer("mean(" + w + ")", x.mean(w), m.mean(w)); break;
            case 7: answer("face(" + w + ")", x.face(w), m.face(w)); break;
            case 8: answer("next(" + a + ")", x.next(a), m.next(a)); break;
            case 9: answer("gap(" + a + ")", x.gap(a), m.gap(a)); break;
            case 10: answer("kept()", x.kept(), m.kept()); break;
            case 11: {
                int i = about(-1, 11);
                answer("bestRota(" + i + ")", x.bestRota(i), m.bestRota(i));
                break;
            }
            case 12: answer("whoHad(" + p + ")", x.whoHad(p), m.whoHad(p)); break;
            case 13: answer("whatKind(" + a + ", " + p + ", " + w + ")", x.whatKind(a, p, w), m.whatKind(a, p, w)); break;
            default: {
                int what = about(0, 16);
                answer("count(" + what + ")", x.count(what), m.count(what));
                break;
            }
        }
    }

    private static void think(OnePortrait x, Model m) {
        int a = widowNumber(m);
        int b = widowNumber(m);
        int n = draw(3) == 0 ? about(0, 60) : about(0, 12);
        int w = about(0, 1);
        switch (draw(15)) {
            case 0: {
                int what = about(0, 4);
                answer("then(" + n + ", " + what + ")", x.then(n, what), m.then(n, what));
                break;
            }
            case 1: answer("widowIn(" + a + ", " + n + ", " + w + ")", x.widowIn(a, n, w), m.widowIn(a, n, w)); break;
            case 2: {
                int p = about(-1, 2);
                answer("gone(" + p + ")", x.gone(p), m.gone(p));
                break;
            }
            case 3: answer("dayMet(" + a + ")", x.dayMet(a), m.dayMet(a)); break;
            case 4: answer("turn(" + a + ", " + n + ")", x.turn(a, n), m.turn(a, n)); break;
            case 5: answer("swap(" + n + ")", x.swap(n), m.swap(n)); break;
            case 6: answer("leave(" + n + ")", x.leave(n), m.leave(n)); break;
            case 7: answer("mend(" + n + ")", x.mend(n), m.mend(n)); break;
            case 8: {
                int v = about(0, 99);
                answer("lasts(" + v + ")", x.lasts(v), m.lasts(v));
                break;
            }
            case 9: answer("carry(" + n + ")", x.carry(n), m.carry(n)); break;
            case 10: answer("two(" + a + ", " + b + ", " + n + ")", x.two(a, b, n), m.two(a, b, n)); break;
            case 11: {
                int k = about(0, 7);
                int t = about(2, 20);
                int v = about(0, 99);
                answer("gales(" + a + ", " + k + ", " + t + ", " + v + ", " + w + ")", x.gales(a, k, t, v, w),
                        m.gales(a, k, t, v, w));
                break;
            }
            case 12: answer("eased(" + a + ", " + n + ")", x.eased(a, n), m.eased(a, n)); break;
            case 13: answer("sundays(" + n + ")", x.sundays(n), m.sundays(n)); break;
            default: {
                int years = about(1, 20);
                int z = draw(2) == 0 ? about(0, 99) : (int) (seed >>> 16);
                answer("lots(" + years + ", " + z + ", " + w + ")", x.lots(years, z, w), m.lots(years, z, w));
                break;
            }
        }
    }

    private static boolean allCountsSame(OnePortrait x, Model m) {
        for (int what = -1; what <= 17; what++) {
            if (x.count(what) != m.count(what)) {
                answer("count(" + what + ") behind " + call, x.count(what), m.count(what));
                return false;
            }
        }
        return true;
    }

    private static boolean run(int run) {
        OnePortrait x = new OnePortrait();
        Model m = new Model();
        for (int i = 0; i < CALLS; i++) {
            int luck = draw(20);
            if (luck < 4) {
                change(x, m);
            } else if (luck < 6) {
                tellIt(x, m);
            } else if (luck < 8) {
                rows(x, m);
            } else if (luck < 13) {
                look(x, m);
            } else {
                think(x, m);
            }
            if (got != want || !allCountsSame(x, m)) {
                System.out.println("run " + run + ", call " + i + ": " + call + " answered " + got + ", due is " + want);
                return false;
            }
        }
        return true;
    }

    public static void main(String[] args) {
        int wrong = 0;
        for (int run = 0; run < RUNS && wrong < 5; run++) {
            if (!run(run)) {
                wrong++;
            }
        }
        System.out.println(wrong == 0 ? "all answers are as due" : wrong + " runs are not as due");
        if (wrong != 0) {
            System.exit(1);
        }
    }
}
