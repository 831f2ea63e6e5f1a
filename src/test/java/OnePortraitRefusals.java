import java.util.ArrayList;
import java.util.List;

// REFUSALS: each bound of each number that a call takes, at the bound, one step inside it and one outside it; which of
// several is told first; that a refused call leaves all as it was, and that count() tells it once and nothing else.
public final class OnePortraitRefusals {
    private static final int MIN = Integer.MIN_VALUE;
    private static final int MAX = Integer.MAX_VALUE;
    private static final int NOBODY = -1;
    private static final int OTHER = -2;
    private static final int STATE = -3;
    private static final int BELOW = -4;
    private static final int ROOM = -6;

    private interface Made { OnePortrait made(); }
    private interface Call { long on(OnePortrait x); }
    private interface With { long on(OnePortrait x, int v); }
    private interface Probe { void of(OnePortrait x, List<Long> seen); }

    private static int wrong = 0;
    private static Made state;
    private static String stateName = "";

    private static void in(String name, Made made) {
        stateName = name;
        state = made;
    }

    private static void due(String what, Object got, Object want) {
        if (!got.equals(want)) {
            wrong++;
            System.out.println(stateName + ": " + what + " answered " + got + ", due is " + want);
        }
    }

    // ---- states ----

    /** Three WIDOWS, four places, WEEK 7; something of all that there is. */
    private static OnePortrait ordinary() {
        OnePortrait x = new OnePortrait();
        x.widow(1, 4, 40, 3);
        x.widow(3, 6, 20, 0);
        x.widow(2, 5, 77, 7);
        feed(x, "r0;r9;r2;r1;");
        x.street();
        x.weeks(5);
        x.image();
        x.mends(1, 44);
        x.grieves(1, 60);
        x.puts(1, 1);
        x.weeks(2);
        for (int v : new int[] {87, 86, 86}) {
            x.row(v);
        }
        feed(x, "m211;g02");
        return x;
    }

    /** So many WIDOWS, places of the ROTA, numbers in the ROW, letters; WEEK as told, the image of WEEK 960. */
    private static OnePortrait filled(int widows, int places, int week, int numbers, String letters) {
        OnePortrait x = new OnePortrait();
        for (int w = 0; w < widows; w++) {
            x.widow(w % 6, (w + 3) % 10, 10 * w + 9, (5 * w) % 12);
        }
        for (int place = 0; place < places; place++) {
            x.puts(place, place % 4 == 3 ? 9 : place % widows);
        }
        for (int i = 0; i < 16; i++) {
            x.weeks(60);
        }
        x.image();
        x.weeks(30);
        x.mends(0, 50);
        x.grieves(3, 9);
        x.puts(4, 2);
        x.mends(2, 70);
        x.weeks(4);
        x.grieves(0, 88);
        x.puts(10, 9);
        x.mends(1, 33);
        x.weeks(week - 994);
        for (int i = 0; i < numbers; i++) {
            x.row(90 - i);
        }
        feed(x, letters);
        return x;
    }

    private static final String LETTERS_95 = "m011;".repeat(19);
    private static final String LETTERS_96 = "m011;".repeat(18) + "x;x;x;";

    private static OnePortrait full() {
        return filled(7, 12, 999, 12, LETTERS_96);
    }

    private static OnePortrait oneBelowFull() {
        return filled(6, 11, 998, 11, LETTERS_95);
    }

    /** WIDOWS, WEEK, places, letters, in the ROW, what can be TAKEN BACK; that nothing on the way there was refused. */
    private static void isSo(int... want) {
        OnePortrait x = state.made();
        int[] what = {0, 1, 2, 6, 7, 8};
        for (int i = 0; i < what.length; i++) {
            due("count(" + what[i] + ")", x.count(what[i]), want[i]);
        }
        for (int refusals : counts(x)) {
            due("refused on the way there", refusals, 0);
        }
    }

    private static void feed(OnePortrait x, String text) {
        for (char letter : text.toCharArray()) {
            x.feed(letter);
        }
    }

    // ---- what can be seen of an object, by more and more calls ----

    private static final Probe[] PROBES = {
        OnePortraitRefusals::look,
        OnePortraitRefusals::takeAllBack,
        (x, seen) -> {
            seen.add((long) x.restore());
            look(x, seen);
        },
        (x, seen) -> {
            if (x.count(6) < 95) {
                feed(x, "9;");
            }
            seen.add((long) x.street());
            look(x, seen);
        },
        (x, seen) -> {
            for (int part = 0; part < 3; part++) {
                seen.add((long) x.whoHad(part));
                seen.add((long) x.whatKind(0, part, 0));
                seen.add((long) x.whatKind(1, part, 1));
            }
            seen.add((long) x.judge());
            seen.add((long) x.clear());
        }};

    private static void look(OnePortrait x, List<Long> seen) {
        for (int widow = 0; widow < x.count(0); widow++) {
            for (int what = 0; what <= 6; what++) {
                seen.add((long) x.widowOf(widow, what));
            }
        }
        for (int place = 0; place < x.count(2); place++) {
            seen.add((long) x.rota(place));
        }
        for (int part = 0; part < 3; part++) {
            seen.add((long) x.seen(part));
        }
        for (int what = 0; what <= 8; what++) {
            seen.add((long) x.count(what));
        }
    }

    private static void takeAllBack(OnePortrait x, List<Long> seen) {
        while (x.count(8) > 0) {
            seen.add((long) x.back());
            for (int part = 0; part < 3; part++) {
                seen.add((long) x.seen(part));
            }
            for (int what = 0; what <= 5; what++) {
                seen.add((long) x.count(what));
            }
            for (int place = 0; place < x.count(2); place++) {
                seen.add((long) x.rota(place));
            }
        }
    }

    // ---- calls that are refused, calls that are not ----

    private static long answerDue(String call, int number) {
        if (call.startsWith("eased")) {
            return 1000000000L - number;
        }
        if (call.startsWith("gales") || call.startsWith("mean")) {
            return 4000000000000000000L - number;
        }
        return number;
    }

    private static int[] counts(OnePortrait x) {
        int[] counts = new int[6];
        for (int i = 0; i < 6; i++) {
            counts[i] = x.count(11 + i);
        }
        return counts;
    }

    private static void refused(String name, int number, Call call) {
        for (Probe probe : PROBES) {
            OnePortrait x = state.made();
            int[] before = counts(x);
            due(name, call.on(x), answerDue(name, number));
            int[] behind = counts(x);
            for (int i = 0; i < 6; i++) {
                due("count(" + (11 + i) + ") behind " + name, behind[i], before[i] + (i == -number - 1 ? 1 : 0));
            }
            List<Long> got = new ArrayList<>();
            List<Long> want = new ArrayList<>();
            probe.of(x, got);
            probe.of(state.made(), want);
            due("all behind the refused " + name, got, want);
        }
    }

    private static void taken(String name, Call call) {
        OnePortrait x = state.made();
        int[] before = counts(x);
        long answer = call.on(x);
        int[] behind = counts(x);
        for (int i = 0; i < 6; i++) {
            due("count(" + (11 + i) + ") behind " + name + ", which is not refused", behind[i], before[i]);
        }
        for (int number = -6; number <= -1; number++) {
            if (!name.startsWith("eased") || answerDue(name, number) == answer) {
                due(name + " is refused", answer == answerDue(name, number), false);
            }
        }
    }

    private static void range(String name, int least, int greatest, int below, int above, With call) {
        for (int v : new int[] {least, Math.min(least + 1, greatest), Math.max(greatest - 1, least), greatest}) {
            taken(name + " with " + v, x -> call.on(x, v));
        }
        for (int v : new int[] {least - 1, least - 2, MIN + 1, MIN}) {
            refused(name + " with " + v, below, x -> call.on(x, v));
        }
        for (int v : new int[] {greatest + 1, greatest + 2, MAX - 1, MAX}) {
            refused(name + " with " + v, above, x -> call.on(x, v));
        }
    }

    // ---- parts I to IV in a street as any ----

    private static void boundsOfPartOne() {
        range("feed(letter)", 0, 255, BELOW, ROOM, (x, v) -> x.feed(v));
        range("widowOf(widow, 0)", 0, 2, NOBODY, NOBODY, (x, v) -> x.widowOf(v, 0));
        range("widowOf(0, what)", 0, 6, OTHER, OTHER, (x, v) -> x.widowOf(0, v));
        range("wears(widow, 0)", 0, 2, NOBODY, NOBODY, (x, v) -> x.wears(v, 0));
        range("wears(0, part)", 0, 2, OTHER, OTHER, (x, v) -> x.wears(0, v));
        range("seen(part)", 0, 2, OTHER, OTHER, (x, v) -> x.seen(v));
        range("rota(place)", 0, 3, NOBODY, NOBODY, (x, v) -> x.rota(v));
        range("widow(kind, 0, 0, 0)", 0, 5, OTHER, OTHER, (x, v) -> x.widow(v, 0, 0, 0));
        range("widow(0, figure, 0, 0)", 0, 9, BELOW, ROOM, (x, v) -> x.widow(0, v, 0, 0));
        range("widow(0, 0, grief, 0)", 0, 99, BELOW, ROOM, (x, v) -> x.widow(0, 0, v, 0));
        range("widow(0, 0, 0, day)", 0, 11, BELOW, ROOM, (x, v) -> x.widow(0, 0, 0, v));
        // the place behind the last is one, too
        range("puts(place, 0)", 0, 4, NOBODY, NOBODY, (x, v) -> x.puts(v, 0));
        range("puts(1, widow)", 0, 2, NOBODY, NOBODY, (x, v) -> x.puts(1, v));
        // 9 is nobody, 8 and 10 are no such
        range("puts(1, nobody)", 9, 9, NOBODY, NOBODY, (x, v) -> x.puts(1, v));
        range("puts(4, nobody)", 9, 9, NOBODY, NOBODY, (x, v) -> x.puts(4, v));
        range("mends(part, 5)", 0, 2, OTHER, OTHER, (x, v) -> x.mends(v, 5));
        range("mends(0, v)", 0, 99, BELOW, ROOM, (x, v) -> x.mends(0, v));
        range("grieves(widow, 5)", 0, 2, NOBODY, NOBODY, (x, v) -> x.grieves(v, 5));
        range("grieves(0, v)", 0, 99, BELOW, ROOM, (x, v) -> x.grieves(0, v));
        range("weeks(n)", 1, 60, BELOW, ROOM, (x, v) -> x.weeks(v));
    }

    private static void boundsOfPartTwo() {
        range("then(n, 0)", 0, 60, BELOW, ROOM, (x, v) -> x.then(v, 0));
        range("then(0, what)", 0, 4, OTHER, OTHER, (x, v) -> x.then(0, v));
        range("widowIn(widow, 0, 0)", 0, 2, NOBODY, NOBODY, (x, v) -> x.widowIn(v, 0, 0));
        range("widowIn(0, n, 0)", 0, 60, BELOW, ROOM, (x, v) -> x.widowIn(0, v, 0));
        range("widowIn(0, 0, what)", 0, 1, OTHER, OTHER, (x, v) -> x.widowIn(0, 0, v));
        range("gone(part)", -1, 2, OTHER, OTHER, (x, v) -> x.gone(v));
        range("dayMet(widow)", 0, 2, NOBODY, NOBODY, (x, v) -> x.dayMet(v));
        range("turn(widow, 5)", 0, 2, NOBODY, NOBODY, (x, v) -> x.turn(v, 5));
        range("turn(0, n)", 0, 60, BELOW, ROOM, (x, v) -> x.turn(0, v));
        range("swap(n)", 0, 60, BELOW, ROOM, (x, v) -> x.swap(v));
        range("leave(n)", 0, 60, BELOW, ROOM, (x, v) -> x.leave(v));
        range("mend(n)", 0, 60, BELOW, ROOM, (x, v) -> x.mend(v));
        range("lasts(v)", 0, 99, BELOW, ROOM, (x, v) -> x.lasts(v));
        range("carry(n)", 1, 60, BELOW, ROOM, (x, v) -> x.carry(v));
        range("bestRota(i)", -1, 11, BELOW, ROOM, (x, v) -> x.bestRota(v));
        range("whoHad(part)", 0, 2, OTHER, OTHER, (x, v) -> x.whoHad(v));
        range("whatKind(widow, 0, 0)", 0, 2, NOBODY, NOBODY, (x, v) -> x.whatKind(v, 0, 0));
        range("whatKind(0, part, 0)", 0, 2, OTHER, OTHER, (x, v) -> x.whatKind(0, v, 0));
        range("whatKind(0, 0, what)", 0, 1, OTHER, OTHER, (x, v) -> x.whatKind(0, 0, v));
        range("two(one, 0, 5)", 1, 2, NOBODY, NOBODY, (x, v) -> x.two(v, 0, 5));
        range("two(2, other, 5)", 0, 1, NOBODY, NOBODY, (x, v) -> x.two(2, v, 5));
        refused("two(1, 1, 5)", NOBODY, x -> x.two(1, 1, 5));
        range("two(0, 1, n)", 0, 60, BELOW, ROOM, (x, v) -> x.two(0, 1, v));
        range("gales(widow, 3, 4, 5, 0)", 0, 2, NOBODY, NOBODY, (x, v) -> x.gales(v, 3, 4, 5, 0));
        range("gales(0, n, 4, 5, 0)", 0, 7, BELOW, ROOM, (x, v) -> x.gales(0, v, 4, 5, 0));
        range("gales(0, 3, t, 5, 1)", 2, 20, BELOW, ROOM, (x, v) -> x.gales(0, 3, v, 5, 1));
        range("gales(0, 3, 4, v, 0)", 0, 99, BELOW, ROOM, (x, v) -> x.gales(0, 3, 4, v, 0));
        range("gales(0, 3, 4, 5, part)", 0, 1, OTHER, OTHER, (x, v) -> x.gales(0, 3, 4, 5, v));
        range("lots(n, 5, 0)", 1, 20, BELOW, ROOM, (x, v) -> x.lots(v, 5, 0));
        range("lots(1, 5, what)", 0, 1, OTHER, OTHER, (x, v) -> x.lots(1, 5, v));
        for (int z : new int[] {MIN, MIN + 1, -1, 0, 1, MAX - 1, MAX}) {
            taken("lots(20, " + z + ", 0)", x -> x.lots(20, z, 0));
        }
    }

    private static void boundsOfPartsThreeAndFour() {
        range("worst(what)", 0, 2, OTHER, OTHER, (x, v) -> x.worst(v));
        range("mean(part)", 0, 1, OTHER, OTHER, (x, v) -> x.mean(v));
        range("face(what)", 0, 1, OTHER, OTHER, (x, v) -> x.face(v));
        range("next(widow)", 0, 2, NOBODY, NOBODY, (x, v) -> x.next(v));
        range("gap(widow)", 0, 2, NOBODY, NOBODY, (x, v) -> x.gap(v));
        range("eased(widow, 5)", 0, 2, NOBODY, NOBODY, (x, v) -> x.eased(v, 5));
        range("eased(0, n)", 0, 60, BELOW, ROOM, (x, v) -> x.eased(0, v));
        range("sundays(n)", 0, 60, BELOW, ROOM, (x, v) -> x.sundays(v));
        range("row(v)", 0, 99, BELOW, ROOM, (x, v) -> x.row(v));
        taken("back()", x -> x.back());
        taken("restore()", x -> x.restore());
        neverRefused();
    }

    private static void neverRefused() {
        taken("street()", x -> x.street());
        taken("like()", x -> x.like());
        taken("kept()", x -> x.kept());
        taken("judge()", x -> x.judge());
        taken("clear()", x -> x.clear());
        taken("image()", x -> x.image());
        for (int what : new int[] {MIN, -1, 9, 10, 17, MAX}) {
            taken("count(" + what + ")", x -> x.count(what));
        }
    }

    /** Two and more that are wrong: the first in the order of the document is told, and it alone is counted. */
    private static void firstOfSeveral() {
        refused("widowOf(3, 7)", NOBODY, x -> x.widowOf(3, 7));
        refused("widowOf(-1, -1)", NOBODY, x -> x.widowOf(-1, -1));
        refused("wears(3, 3)", NOBODY, x -> x.wears(3, 3));
        refused("widow(6, -1, 100, 12)", OTHER, x -> x.widow(6, -1, 100, 12));
        refused("widow(-1, 10, 0, 0)", OTHER, x -> x.widow(-1, 10, 0, 0));
        refused("widow(0, -1, 100, 12)", BELOW, x -> x.widow(0, -1, 100, 12));
        refused("widow(0, 10, -1, 12)", BELOW, x -> x.widow(0, 10, -1, 12));
        refused("widow(0, 10, 100, -1)", BELOW, x -> x.widow(0, 10, 100, -1));
        refused("widow(0, 10, 100, 12)", ROOM, x -> x.widow(0, 10, 100, 12));
        refused("puts(5, 3)", NOBODY, x -> x.puts(5, 3));
        refused("mends(3, -1)", OTHER, x -> x.mends(3, -1));
        refused("mends(-1, 100)", OTHER, x -> x.mends(-1, 100));
        refused("grieves(3, -1)", NOBODY, x -> x.grieves(3, -1));
        refused("grieves(3, 100)", NOBODY, x -> x.grieves(3, 100));
        refused("then(-1, 5)", BELOW, x -> x.then(-1, 5));
        refused("then(61, -1)", ROOM, x -> x.then(61, -1));
        refused("widowIn(3, -1, 2)", NOBODY, x -> x.widowIn(3, -1, 2));
        refused("widowIn(0, -1, 2)", BELOW, x -> x.widowIn(0, -1, 2));
        refused("widowIn(0, 61, 2)", ROOM, x -> x.widowIn(0, 61, 2));
        refused("turn(3, -1)", NOBODY, x -> x.turn(3, -1));
        refused("turn(3, 61)", NOBODY, x -> x.turn(3, 61));
        refused("whatKind(3, 3, 2)", NOBODY, x -> x.whatKind(3, 3, 2));
        refused("whatKind(0, 3, 2)", OTHER, x -> x.whatKind(0, 3, 2));
        refused("two(0, 0, -1)", NOBODY, x -> x.two(0, 0, -1));
        refused("two(3, 3, 61)", NOBODY, x -> x.two(3, 3, 61));
        refused("gales(3, -1, 1, -1, 2)", NOBODY, x -> x.gales(3, -1, 1, -1, 2));
        refused("gales(0, -1, 21, 100, 2)", BELOW, x -> x.gales(0, -1, 21, 100, 2));
        refused("gales(0, 8, 1, 100, 2)", BELOW, x -> x.gales(0, 8, 1, 100, 2));
        refused("gales(0, 8, 21, -1, 2)", BELOW, x -> x.gales(0, 8, 21, -1, 2));
        refused("gales(0, 8, 20, 99, 2)", ROOM, x -> x.gales(0, 8, 20, 99, 2));
        refused("gales(0, 7, 21, 99, 2)", ROOM, x -> x.gales(0, 7, 21, 99, 2));
        refused("gales(0, 7, 20, 100, 2)", ROOM, x -> x.gales(0, 7, 20, 100, 2));
        refused("eased(3, -1)", NOBODY, x -> x.eased(3, -1));
        refused("eased(-1, 61)", NOBODY, x -> x.eased(-1, 61));
        refused("lots(0, 5, 2)", BELOW, x -> x.lots(0, 5, 2));
        refused("lots(21, 5, -1)", ROOM, x -> x.lots(21, 5, -1));
    }

    // ---- no room, none at all ----

    private static void whereThereIsNoRoom() {
        refused("feed(0)", ROOM, x -> x.feed(0));
        refused("feed(255)", ROOM, x -> x.feed(255));
        refused("feed(256)", ROOM, x -> x.feed(256));
        refused("feed(-1)", BELOW, x -> x.feed(-1));
        refused("widow(0, 0, 0, 0)", ROOM, x -> x.widow(0, 0, 0, 0));
        refused("widow(5, 9, 99, 11)", ROOM, x -> x.widow(5, 9, 99, 11));
        refused("widow(6, 0, 0, 0)", OTHER, x -> x.widow(6, 0, 0, 0));
        refused("widow(0, 0, 0, -1)", BELOW, x -> x.widow(0, 0, 0, -1));
        refused("puts(12, 0)", ROOM, x -> x.puts(12, 0));
        refused("puts(12, 9)", ROOM, x -> x.puts(12, 9));
        refused("puts(12, 7)", NOBODY, x -> x.puts(12, 7));
        refused("puts(13, 0)", NOBODY, x -> x.puts(13, 0));
        refused("puts(-1, 0)", NOBODY, x -> x.puts(-1, 0));
        range("puts(11, widow)", 0, 6, NOBODY, NOBODY, (x, v) -> x.puts(11, v));
        range("rota(place)", 0, 11, NOBODY, NOBODY, (x, v) -> x.rota(v));
        range("widowOf(widow, 2)", 0, 6, NOBODY, NOBODY, (x, v) -> x.widowOf(v, 2));
        refused("weeks(1)", ROOM, x -> x.weeks(1));
        refused("weeks(60)", ROOM, x -> x.weeks(60));
        refused("weeks(0)", BELOW, x -> x.weeks(0));
        refused("turn(6, 0)", ROOM, x -> x.turn(6, 0));
        refused("turn(6, 61)", ROOM, x -> x.turn(6, 61));
        refused("turn(6, -1)", BELOW, x -> x.turn(6, -1));
        refused("turn(7, 0)", NOBODY, x -> x.turn(7, 0));
        refused("row(0)", ROOM, x -> x.row(0));
        refused("row(99)", ROOM, x -> x.row(99));
        refused("row(-1)", BELOW, x -> x.row(-1));
        taken("then(60, 1), WEEK 1059 in mind", x -> x.then(60, 1));
        taken("swap(60)", x -> x.swap(60));
        taken("two(6, 5, 60)", x -> x.two(6, 5, 60));
        taken("lots(20, 5, 1)", x -> x.lots(20, 5, 1));
    }

    private static void whereThereIsRoomForOne() {
        taken("feed(0)", x -> x.feed(0));
        taken("widow(0, 0, 0, 0)", x -> x.widow(0, 0, 0, 0));
        taken("puts(11, 0)", x -> x.puts(11, 0));
        refused("puts(12, 0)", NOBODY, x -> x.puts(12, 0));
        refused("puts(11, 6)", NOBODY, x -> x.puts(11, 6));
        taken("turn(5, 60)", x -> x.turn(5, 60));
        taken("weeks(1)", x -> x.weeks(1));
        refused("weeks(2)", ROOM, x -> x.weeks(2));
        refused("weeks(60)", ROOM, x -> x.weeks(60));
        taken("row(99)", x -> x.row(99));
    }

    private static void whereThereIsNothing() {
        refused("back()", STATE, x -> x.back());
        refused("restore()", STATE, x -> x.restore());
        refused("lots(1, 0, 0)", STATE, x -> x.lots(1, 0, 0));
        refused("lots(20, 0, 1)", STATE, x -> x.lots(20, 0, 1));
        refused("lots(1, 0, 2)", OTHER, x -> x.lots(1, 0, 2));
        refused("lots(0, 0, 0)", BELOW, x -> x.lots(0, 0, 0));
        refused("lots(21, 0, 0)", ROOM, x -> x.lots(21, 0, 0));
        refused("widowOf(0, 0)", NOBODY, x -> x.widowOf(0, 0));
        refused("wears(0, 0)", NOBODY, x -> x.wears(0, 0));
        refused("rota(0)", NOBODY, x -> x.rota(0));
        refused("puts(0, 0)", NOBODY, x -> x.puts(0, 0));
        refused("puts(1, 9)", NOBODY, x -> x.puts(1, 9));
        taken("puts(0, 9)", x -> x.puts(0, 9));
        refused("grieves(0, 0)", NOBODY, x -> x.grieves(0, 0));
        refused("widowIn(0, 0, 0)", NOBODY, x -> x.widowIn(0, 0, 0));
        refused("dayMet(0)", NOBODY, x -> x.dayMet(0));
        refused("turn(0, 0)", NOBODY, x -> x.turn(0, 0));
        refused("whatKind(0, 0, 0)", NOBODY, x -> x.whatKind(0, 0, 0));
        refused("two(0, 1, 0)", NOBODY, x -> x.two(0, 1, 0));
        refused("gales(0, 0, 2, 0, 0)", NOBODY, x -> x.gales(0, 0, 2, 0, 0));
        refused("next(0)", NOBODY, x -> x.next(0));
        refused("gap(0)", NOBODY, x -> x.gap(0));
        refused("eased(0, 0)", NOBODY, x -> x.eased(0, 0));
        taken("mean(0)", x -> x.mean(0));
        taken("worst(0)", x -> x.worst(0));
        taken("mends(0, 99)", x -> x.mends(0, 99));
        taken("weeks(60)", x -> x.weeks(60));
        neverRefused();
    }

    private static void whereThereIsOne() {
        in("one to take back", () -> {
            OnePortrait x = new OnePortrait();
            x.mends(0, 90);
            return x;
        });
        taken("back()", x -> x.back());
        in("it is taken back", () -> {
            OnePortrait x = new OnePortrait();
            x.mends(0, 5);
            x.back();
            return x;
        });
        refused("back()", STATE, x -> x.back());
        in("an image of a new object", () -> {
            OnePortrait x = new OnePortrait();
            x.image();
            return x;
        });
        taken("restore()", x -> x.restore());
        in("one widow", () -> {
            OnePortrait x = new OnePortrait();
            x.widow(0, 0, 50, 0);
            return x;
        });
        taken("lots(1, 0, 0)", x -> x.lots(1, 0, 0));
        refused("two(0, 0, 0)", NOBODY, x -> x.two(0, 0, 0));
        refused("two(0, 1, 0)", NOBODY, x -> x.two(0, 1, 0));
        taken("turn(0, 0), a ROTA of none", x -> x.turn(0, 0));
    }

    /** All of them are counted up to the last call that is promised. */
    private static void countedToTheLastCall() {
        in("512 calls", OnePortrait::new);
        OnePortrait x = new OnePortrait();
        for (int i = 0; i < 101; i++) {
            x.seen(3);
            x.weeks(0);
            x.feed(256);
            x.back();
            x.rota(0);
        }
        for (int what = 11; what <= 16; what++) {
            due("count(" + what + ")", x.count(what), what == 15 ? 0 : 101);
        }
        due("the 512th call", x.count(6), 0);
    }

    public static void main(String[] args) {
        in("a street as any", OnePortraitRefusals::ordinary);
        isSo(3, 7, 4, 8, 3, 5);
        boundsOfPartOne();
        boundsOfPartTwo();
        boundsOfPartsThreeAndFour();
        firstOfSeveral();
        in("a full one", OnePortraitRefusals::full);
        isSo(7, 999, 12, 96, 12, 8);
        whereThereIsNoRoom();
        in("one below full", OnePortraitRefusals::oneBelowFull);
        isSo(6, 998, 11, 95, 11, 8);
        whereThereIsRoomForOne();
        in("a new one", OnePortrait::new);
        isSo(0, 0, 0, 0, 0, 0);
        whereThereIsNothing();
        whereThereIsOne();
        countedToTheLastCall();
        System.out.println(wrong == 0 ? "all answers are as due" : wrong + " answers are not as due");
        if (wrong != 0) {
            System.exit(1);
        }
    }
}
