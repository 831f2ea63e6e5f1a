// For each promise: ordinary inputs, the edges that the document names, and wrong inputs. Worked out by hand.
public final class OnePortraitPromises {
    private static final long LONGS = 4000000000000000000L;
    private static int wrong = 0;
    private static int promise = 0;

    private static void due(String call, long got, long want) {
        if (got != want) {
            wrong++;
            System.out.println("promise " + promise + ": " + call + " answered " + got + ", due is " + want);
        }
    }

    private static void feedAll(OnePortrait x, String text) {
        for (int i = 0; i < text.length(); i++) {
            x.feed(text.charAt(i));
        }
    }

    private static int tell(OnePortrait x, String text) {
        feedAll(x, text);
        return x.street();
    }

    private static OnePortrait told(String... texts) {
        OnePortrait x = new OnePortrait();
        for (String text : texts) {
            int answer = tell(x, text);
            if (answer < 0) {
                due("street() of " + text, answer, 1);
            }
        }
        return x;
    }

    private static void rowOf(OnePortrait x, int... values) {
        x.clear();
        for (int v : values) {
            x.row(v);
        }
    }

    /** How many REFUSALS -1 .. -6 there were. */
    private static void refused(OnePortrait x, int... counts) {
        for (int i = 0; i < counts.length; i++) {
            due("count(" + (11 + i) + ")", x.count(11 + i), counts[i]);
        }
    }

    public static void main(String[] args) {
        aNewObject();
        letters();
        streets();
        streetFaults();
        streetFaultsBehindOthers();
        oneWidow();
        wearing();
        parts();
        places();
        coming();
        putting();
        mending();
        grieving();
        weeksGoing();
        weeksEdges();
        takingBack();
        inMind();
        beingGone();
        meetingDays();
        likeness();
        turns();
        swapping();
        leaving();
        mendingBest();
        lasting();
        carrying();
        bestRotas();
        whoHadHim();
        whatKindSheIs();
        twoWidows();
        galesBlow();
        worsts();
        means();
        faces();
        nextTurns();
        gapsAndKept();
        easing();
        sundaysComing();
        theRow();
        lotsDrawn();
        images();
        counting();
        System.out.println(wrong == 0 ? "all answers are as due" : wrong + " answers are not as due");
        if (wrong != 0) {
            System.exit(1);
        }
    }

    private static void aNewObject() {
        promise = 1;
        OnePortrait x = new OnePortrait();
        int[] want = {0, 0, 0, 9, 0, 0, 0, 0, 0};
        for (int what = 0; what < want.length; what++) {
            due("count(" + what + ")", x.count(what), want[what]);
        }
        for (int part = 0; part < 3; part++) {
            due("seen", x.seen(part), 90);
        }
        refused(x, 0, 0, 0, 0, 0, 0);
    }

    private static void letters() {
        promise = 2;
        OnePortrait x = new OnePortrait();
        due("feed(-1)", x.feed(-1), -4);
        due("feed(256)", x.feed(256), -6);
        due("feed(0)", x.feed(0), 1);
        due("feed(255)", x.feed(255), 2);
        for (int i = 3; i <= 96; i++) {
            due("feed(119)", x.feed(119), i);
        }
        due("feed(119), the 97th", x.feed(119), -6);
        due("feed(-1), full", x.feed(-1), -4);
        due("feed(max)", x.feed(Integer.MAX_VALUE), -6);
        due("feed(min)", x.feed(Integer.MIN_VALUE), -4);
        due("count(6)", x.count(6), 96);
        refused(x, 0, 0, 0, 3, 0, 3);
    }

    private static void streets() {
        promise = 3;
        OnePortrait x = new OnePortrait();
        due("a street", tell(x, "w234507;w500011;r1;r9;r0;m155;g099;k03;"), 8);
        due("letters", x.count(6), 0);
        due("widows", x.count(0), 2);
        due("week", x.count(1), 3);
        due("places", x.count(2), 3);
        due("kind", x.widowOf(0, 0), 2);
        due("figure", x.widowOf(0, 1), 3);
        due("day", x.widowOf(0, 3), 7);
        // she: 99 stays 99 twice, less BEARD 53 over 10 in the third week
        due("grief", x.widowOf(0, 2), 94);
        // the other: grief 0, comforted 5 in the first week, up twice
        due("grief", x.widowOf(1, 2), 2);
        // EYE: 2 by the betrothed, 1 by the smoker; BEARD: 2, then 1 + 3 / 2
        due("eye", x.seen(0), 87);
        due("beard", x.seen(1), 51);
        due("blue", x.seen(2), 87);
        due("x", tell(x, "x;"), 1);
        due("places", x.count(2), 0);
        due("48 statements", tell(x, "x;".repeat(48)), 48);
        due("r9", tell(x, "r9;"), 1);
        due("rota(0)", x.rota(0), 9);
        due("k60", tell(x, "k60;"), 1);
        due("week", x.count(1), 63);
    }

    private static void streetFaults() {
        promise = 3;
        OnePortrait x = new OnePortrait();
        String[] bad = {"", "a", "W", ";", "w", "wa", "w0", "w04403", "w044003", "w0440034", "w0440a3;", "r", "r;", "r12;",
            "x", "x1;", "m0;", "m05;", "m050", "g0505;", "k6;", "k600;", "x;x;q", "x; ", "x;;", "x;r", "k:0;", "k/0;"};
        int[] place = {0, 0, 0, 0, 1, 1, 2, 6, 7, 7, 5, 1, 1, 2, 1, 1, 2, 3, 4, 4, 2, 3, 4, 2, 2, 3, 1, 1};
        for (int i = 0; i < bad.length; i++) {
            due("street() of " + bad[i], tell(x, bad[i]), -1000 - place[i]);
            due("letters", x.count(6), 0);
        }
        due("a full text that lacks", tell(x, "x;".repeat(47) + "x0"), -1095);
        due("a full text with no end", tell(x, "x;".repeat(47) + "r0"), -1096);
        due("kind 1 ahead of kind 2", tell(x, "r0;x"), -1004);
        refused(x, 0, 0, 0, 0, 0, 0);
    }

    private static void streetFaultsBehindOthers() {
        promise = 3;
        OnePortrait x = told("w044003;r0;");
        String[] bad = {"w600000;", "w900000;", "w000012;", "w000099;", "r1;", "r8;", "r7;", "m300;", "m900;", "g100;", "g900;",
            "k00;", "k61;", "k99;", "m010;g050;r1;x;", "x;r0;k10;w044012;", "w000000;r1;r2;"};
        int[] place = {0, 0, 0, 0, 0, 0, 0, 0, 0, 0, 0, 0, 0, 0, 10, 9, 11};
        for (int i = 0; i < bad.length; i++) {
            due("street() of " + bad[i], tell(x, bad[i]), -2000 - place[i]);
        }
        due("nothing came", x.seen(0), 90);
        due("nothing came", x.count(0), 1);
        due("nothing came", x.count(2), 1);
        due("nothing came", x.count(4), 40);
        due("twelve places", tell(x, "r0;".repeat(11)), 11);
        due("a thirteenth", tell(x, "k01;r0;"), -2004);
        due("a thirteenth behind x", tell(x, "x;" + "r9;".repeat(13)), -2038);
        due("a widow of this text", tell(x, "w000000;x;r1;"), 3);
        for (int i = 0; i < 5; i++) {
            tell(x, "w000000;");
        }
        due("an eighth widow", tell(x, "x;w000000;"), -2002);
        due("r6", tell(x, "r6;"), 1);
        for (int i = 0; i < 16; i++) {
            tell(x, "k60;");
        }
        due("week", x.count(1), 960);
        due("past 999", tell(x, "k20;k20;"), -2004);
        due("past 999", tell(x, "k40;"), -2000);
        due("to 999", tell(x, "k39;"), 1);
        due("week", x.count(1), 999);
        due("past 999", tell(x, "k01;"), -2000);
    }

    private static void oneWidow() {
        promise = 4;
        OnePortrait x = told("w074003;w174003;w274003;w374003;w474003;w574003;");
        int[] comfort = {5, 7, 9, 10, 7, 5};
        for (int w = 0; w < 6; w++) {
            due("comfort", x.widowOf(w, 5), comfort[w]);
            due("kind", x.widowOf(w, 0), w);
            due("figure", x.widowOf(w, 1), 7);
            due("grief", x.widowOf(w, 2), 40);
            due("day", x.widowOf(w, 3), 3);
            due("met", x.widowOf(w, 4), 0);
            due("turns", x.widowOf(w, 6), 0);
        }
        tell(x, "k03;m039;m159;r2;r9;r2;r0;");
        int[] onDay = {12, 14, 15, 14, 17, 12};
        for (int w = 0; w < 6; w++) {
            due("comfort on her day", x.widowOf(w, 5), onDay[w]);
        }
        due("turns", x.widowOf(2, 6), 2);
        due("turns", x.widowOf(0, 6), 1);
        due("grief", x.widowOf(0, 2), 43);
        due("widowOf(6, 9)", x.widowOf(6, 9), -1);
        due("widowOf(-1, 0)", x.widowOf(-1, 0), -1);
        due("widowOf(0, -1)", x.widowOf(0, -1), -2);
        due("widowOf(0, 7)", x.widowOf(0, 7), -2);
        refused(x, 2, 2, 0, 0, 0, 0);
    }

    private static void wearing() {
        promise = 5;
        OnePortrait x = told("w076503;w176503;w276503;w376503;w476503;w576503;");
        int[][] want = {{11, 11, 11}, {11, 11, 14}, {11, 14, 11}, {13, 11, 11}, {8, 11, 14}, {14, 12, 12}};
        for (int w = 0; w < 6; w++) {
            for (int part = 0; part < 3; part++) {
                due("wears(" + w + ", " + part + ")", x.wears(w, part), want[w][part]);
            }
        }
        due("wears(6, 3)", x.wears(6, 3), -1);
        due("wears(0, 3)", x.wears(0, 3), -2);
        due("wears(0, -1)", x.wears(0, -1), -2);
        x.grieves(1, 19);
        due("a weeper of little grief", x.wears(1, 2), 11);
        x.grieves(1, 99);
        due("a weeper of most grief", x.wears(1, 2), 15);
    }

    private static void parts() {
        promise = 6;
        OnePortrait x = told("m012;m134;m256;");
        due("seen(0)", x.seen(0), 12);
        due("seen(1)", x.seen(1), 34);
        due("seen(2)", x.seen(2), 56);
        due("seen(3)", x.seen(3), -2);
        due("seen(-1)", x.seen(-1), -2);
        refused(x, 0, 2, 0, 0, 0, 0);
    }

    private static void places() {
        promise = 7;
        OnePortrait x = told("w000000;r9;r0;");
        due("rota(0)", x.rota(0), 9);
        due("rota(1)", x.rota(1), 0);
        due("rota(2)", x.rota(2), -1);
        due("rota(-1)", x.rota(-1), -1);
        due("rota(max)", x.rota(Integer.MAX_VALUE), -1);
        refused(x, 3, 0, 0, 0, 0, 0);
    }

    private static void coming() {
        promise = 8;
        OnePortrait x = new OnePortrait();
        due("kind 6 ahead of below", x.widow(6, -1, 100, 12), -2);
        due("kind -1", x.widow(-1, 0, 0, 0), -2);
        due("below ahead of room", x.widow(0, 10, 0, -1), -4);
        due("figure -1", x.widow(0, -1, 0, 0), -4);
        due("grief -1", x.widow(0, 0, -1, 0), -4);
        due("figure 10", x.widow(0, 10, 0, 0), -6);
        due("grief 100", x.widow(0, 0, 100, 0), -6);
        due("day 12", x.widow(0, 0, 0, 12), -6);
        due("a widow", x.widow(5, 9, 99, 11), 0);
        due("figure", x.widowOf(0, 1), 9);
        due("grief", x.widowOf(0, 2), 99);
        due("day", x.widowOf(0, 3), 11);
        for (int w = 1; w < 7; w++) {
            due("a widow", x.widow(0, 0, 0, 0), w);
        }
        due("an eighth", x.widow(0, 0, 0, 0), -6);
        due("an eighth, kind 9", x.widow(9, 0, 0, 0), -2);
        refused(x, 0, 3, 0, 3, 0, 4);
        OnePortrait y = new OnePortrait();
        y.mends(0, 5);
        y.widow(9, 0, 0, 0);
        due("a refused widow leaves all", y.count(8), 1);
        y.widow(0, 0, 0, 0);
        due("a widow leaves none", y.count(8), 0);
    }

    private static void putting() {
        promise = 9;
        OnePortrait x = told("w000000;w000000;");
        due("behind the last", x.puts(0, 1), 9);
        due("behind the last", x.puts(1, 9), 9);
        due("one that is", x.puts(0, 0), 1);
        due("one that is nobody's", x.puts(1, 1), 9);
        due("rota(0)", x.rota(0), 0);
        due("rota(1)", x.rota(1), 1);
        due("puts(3, 0)", x.puts(3, 0), -1);
        due("puts(-1, 0)", x.puts(-1, 0), -1);
        due("puts(0, 2)", x.puts(0, 2), -1);
        due("puts(0, -1)", x.puts(0, -1), -1);
        due("puts(0, 8)", x.puts(0, 8), -1);
        for (int place = 2; place < 12; place++) {
            due("behind the last", x.puts(place, 0), 9);
        }
        due("a thirteenth, no such widow", x.puts(12, 5), -1);
        due("a thirteenth", x.puts(12, 0), -6);
        due("puts(13, 0)", x.puts(13, 0), -1);
        due("the twelfth", x.puts(11, 9), 0);
        due("count(2)", x.count(2), 12);
        due("count(8)", x.count(8), 8);
        refused(x, 7, 0, 0, 0, 0, 1);
    }

    private static void mending() {
        promise = 10;
        OnePortrait x = new OnePortrait();
        due("mends(1, 0)", x.mends(1, 0), 90);
        due("mends(1, 99)", x.mends(1, 99), 0);
        due("seen(1)", x.seen(1), 99);
        due("mends(3, -1)", x.mends(3, -1), -2);
        due("mends(0, -1)", x.mends(0, -1), -4);
        due("mends(0, 100)", x.mends(0, 100), -6);
        due("seen(0)", x.seen(0), 90);
        refused(x, 0, 1, 0, 1, 0, 1);
    }

    private static void grieving() {
        promise = 11;
        OnePortrait x = told("w004000;w005000;");
        due("grieves(1, 99)", x.grieves(1, 99), 50);
        due("grieves(1, 0)", x.grieves(1, 0), 99);
        due("grief", x.widowOf(1, 2), 0);
        due("grieves(2, -1)", x.grieves(2, -1), -1);
        due("grieves(0, -1)", x.grieves(0, -1), -4);
        due("grieves(0, 100)", x.grieves(0, 100), -6);
        due("grief", x.widowOf(0, 2), 40);
        refused(x, 1, 0, 0, 1, 0, 1);
    }

    private static void weeksGoing() {
        promise = 12;
        OnePortrait x = told("w004003;r0;");
        due("weeks(2)", x.weeks(2), 30);
        due("seen(0)", x.seen(0), 88);
        due("weeks(2), the day is one", x.weeks(2), 10);
        due("met", x.widowOf(0, 4), 1);
        due("week", x.count(1), 4);
        due("weeks(3): 0 at least", x.weeks(3), 0);
        due("weeks(0)", x.weeks(0), -4);
        due("weeks(61)", x.weeks(61), -6);
        due("weeks(min)", x.weeks(Integer.MIN_VALUE), -4);
        due("weeks(max)", x.weeks(Integer.MAX_VALUE), -6);
        for (int i = 0; i < 16; i++) {
            x.weeks(60);
        }
        due("week", x.count(1), 967);
        due("weeks(33)", x.weeks(33), -6);
        due("weeks(32)", x.weeks(32), 0);
        due("weeks(1)", x.weeks(1), -6);
        due("eye: 0 at least", x.seen(0), 0);
        due("met: every twelfth", x.count(5), 83);
        refused(x, 0, 0, 0, 2, 0, 4);
    }

    private static void weeksEdges() {
        promise = 12;
        // comfort first: 45 less 7 is 38, by which BLUE is 1 + 1 less
        OnePortrait x = told("w104506;r0;");
        due("a weeper's week", x.weeks(1), 38);
        due("blue", x.seen(2), 88);
        // a slapper's EYE: 99 at most
        OnePortrait y = told("w455006;m098;r0;k01;");
        due("a slapper's eye", y.seen(0), 99);
        due("a slapper's grief", y.widowOf(0, 2), 45);
        due("a slapper's blue", y.seen(2), 87);
        // others up, 99 at most; the chapel wears nothing
        OnePortrait z = told("w009906;w009800;r9;");
        due("in the chapel", z.weeks(1), 198);
        due("in the chapel", z.weeks(1), 198);
        due("not met in the chapel", z.count(5), 0);
        due("nothing wears", z.face(0), 270);
        OnePortrait u = told("w001000;w001000;");
        due("a rota of none", u.weeks(3), 26);
        // met: 99 at most
        OnePortrait v = told("w000000;r0;");
        for (int i = 0; i < 16; i++) {
            v.weeks(60);
        }
        due("met", v.widowOf(0, 4), 80);
    }

    private static void takingBack() {
        promise = 13;
        OnePortrait x = told("w004003;r0;");
        due("back()", x.back(), -3);
        x.weeks(4);
        x.puts(1, 9);
        x.mends(1, 20);
        x.grieves(0, 3);
        x.grieves(0, 3);
        due("count(8)", x.count(8), 5);
        x.grieves(0, -1);
        due("count(8)", x.count(8), 5);
        due("back()", x.back(), 4);
        due("grief", x.count(4), 3);
        due("back()", x.back(), 3);
        due("grief", x.count(4), 10);
        due("back()", x.back(), 2);
        due("beard", x.seen(1), 86);
        due("back()", x.back(), 1);
        due("places", x.count(2), 1);
        due("back()", x.back(), 0);
        due("week", x.count(1), 0);
        due("grief", x.count(4), 40);
        due("met", x.count(5), 0);
        due("eye", x.seen(0), 90);
        due("back()", x.back(), -3);
        for (int v = 1; v <= 11; v++) {
            x.mends(2, v);
        }
        due("8 at most", x.count(8), 8);
        for (int left = 7; left >= 0; left--) {
            due("back()", x.back(), left);
            due("blue", x.seen(2), 3 + left);
        }
        due("back()", x.back(), -3);
        x.mends(0, 1);
        tell(x, "r5;");
        due("a street with a fault leaves all", x.count(8), 1);
        tell(x, "x;");
        due("a street without leaves none", x.count(8), 0);
        x.mends(0, 2);
        x.restore();
        due("a refused restore leaves all", x.count(8), 1);
        x.image();
        due("an image leaves all", x.count(8), 1);
        x.restore();
        due("a restore leaves none", x.count(8), 0);
        refused(x, 0, 0, 4, 1, 0, 0);
    }

    private static void inMind() {
        promise = 14;
        OnePortrait x = told("w004003;w001000;r0;r9;r1;");
        due("then(0, 0)", x.then(0, 0), 0);
        due("then(1, 0)", x.then(1, 0), 9);
        due("then(2, 0)", x.then(2, 0), 1);
        due("then(3, 0)", x.then(3, 0), 0);
        due("then(0, 1)", x.then(0, 1), 50);
        due("then(1, 1)", x.then(1, 1), 46);
        due("then(3, 1)", x.then(3, 1), 37 + 7);
        due("then(3, 2)", x.then(3, 2), 88);
        due("then(3, 4)", x.then(3, 4), 88);
        due("then(-1, 5)", x.then(-1, 5), -4);
        due("then(61, 5)", x.then(61, 5), -6);
        due("then(60, 5)", x.then(60, 5), -2);
        due("then(60, -1)", x.then(60, -1), -2);
        due("nothing changes", x.count(1), 0);
        due("nothing changes", x.count(4), 50);
        promise = 15;
        due("widowIn(0, 1, 0)", x.widowIn(0, 1, 0), 35);
        due("widowIn(0, 4, 0)", x.widowIn(0, 4, 0), 37 - 15);
        due("widowIn(0, 3, 1)", x.widowIn(0, 3, 1), 0);
        due("widowIn(0, 4, 1)", x.widowIn(0, 4, 1), 1);
        due("widowIn(1, 0, 0)", x.widowIn(1, 0, 0), 10);
        due("widowIn(2, -1, 2)", x.widowIn(2, -1, 2), -1);
        due("widowIn(0, -1, 2)", x.widowIn(0, -1, 2), -4);
        due("widowIn(0, 61, 2)", x.widowIn(0, 61, 2), -6);
        due("widowIn(0, 60, 2)", x.widowIn(0, 60, 2), -2);
        due("widowIn(0, 60, -1)", x.widowIn(0, 60, -1), -2);
        refused(x, 1, 4, 0, 2, 0, 2);
        OnePortrait late = told("w004003;r0;r9;");
        for (int i = 0; i < 16; i++) {
            late.weeks(60);
        }
        late.weeks(39);
        due("past 999", late.then(1, 0), 0);
        due("past 999", late.then(2, 0), 9);
    }

    private static void beingGone() {
        promise = 16;
        OnePortrait x = told("w004003;r0;m005;m105;m290;");
        due("gone(0)", x.gone(0), 5);
        due("gone(1)", x.gone(1), 5);
        due("gone(2)", x.gone(2), -9);
        due("gone(-1)", x.gone(-1), 0);
        x.mends(2, 4);
        due("gone(-1)", x.gone(-1), 2);
        x.mends(1, 0);
        due("gone(1)", x.gone(1), 0);
        due("gone(-1)", x.gone(-1), 1);
        x.mends(1, 60);
        due("gone(1)", x.gone(1), 60);
        x.mends(1, 61);
        due("gone(1)", x.gone(1), -9);
        due("gone(3)", x.gone(3), -2);
        due("gone(-2)", x.gone(-2), -2);
        refused(x, 0, 2, 0, 0, 0, 0);
        due("none", told("w004003;r0;").gone(-1), -9);
    }

    private static void meetingDays() {
        promise = 17;
        OnePortrait x = told("w004003;w004004;w004000;r0;r1;");
        due("never at his day", x.dayMet(0), -9);
        due("never at his day", x.dayMet(1), -9);
        due("no turn", x.dayMet(2), -9);
        x.puts(1, 2);
        due("odd weeks only", x.dayMet(2), -9);
        x.puts(2, 0);
        // places by weeks modulo 3: 0, 2, 0; week 3 is place 0
        due("week 3 goes by as the fourth", x.dayMet(0), 4);
        x.puts(0, 2);
        due("this week's day", x.dayMet(2), 1);
        due("dayMet(3)", x.dayMet(3), -1);
        due("dayMet(-1)", x.dayMet(-1), -1);
        refused(x, 2, 0, 0, 0, 0, 0);
    }

    private static void likeness() {
        promise = 18;
        OnePortrait x = told("w001000;w002000;w003000;w004000;m010;m120;m230;");
        due("like()", x.like(), 2);
        x.grieves(3, 50);
        due("of several the least", x.like(), 2);
        x.grieves(3, 51);
        due("eye of the fourth", x.like(), 3);
        x.mends(1, 99);
        due("beard", x.like(), 1);
        due("all 0", told("w000000;w000000;m000;m100;").like(), 0);
    }

    private static void turns() {
        promise = 19;
        OnePortrait x = told("w005006;w000006;r1;r1;");
        due("ahead of all", x.turn(0, 1), 0);
        due("n 0: the least", x.turn(0, 0), 0);
        // her day is the week 6: by 3 places of which hers meets it
        due("put in at her day", x.turn(0, 7), 0);
        OnePortrait y = told("w009902;w000006;r1;r1;");
        due("at the end, on her day", y.turn(0, 3), 2);
        OnePortrait z = told("w009901;w000006;r1;r1;");
        due("between, on her day", z.turn(0, 3), 1);
        due("turn(2, -1)", z.turn(2, -1), -1);
        due("turn(0, -1)", z.turn(0, -1), -4);
        due("turn(0, 61)", z.turn(0, 61), -6);
        tell(z, "x;" + "r1;".repeat(11));
        due("eleven places", z.turn(0, 1), 0);
        tell(z, "r1;");
        due("twelve places", z.turn(0, 1), -6);
        due("twelve places, below", z.turn(0, -1), -4);
        due("nothing changes", z.count(2), 12);
        refused(z, 1, 0, 0, 2, 0, 2);
        due("a rota of none", told("w004006;").turn(0, 5), 0);
    }

    private static void swapping() {
        promise = 20;
        OnePortrait x = told("w004006;r9;r0;");
        due("swap(1)", x.swap(1), 1);
        due("swap(2): not less", x.swap(2), -9);
        due("swap(0)", x.swap(0), -9);
        due("swap(-1)", x.swap(-1), -4);
        due("swap(61)", x.swap(61), -6);
        due("nothing changes", x.rota(0), 9);
        refused(x, 0, 0, 0, 1, 0, 1);
        OnePortrait y = told("w004006;r9;r9;r0;r0;");
        due("of several the first", y.swap(1), 2);
        due("of several the first", y.swap(2), 2);
        // only the day of week 3 makes it less
        OnePortrait z = told("w009903;r0;r0;r0;r9;");
        due("with the last of week 3", z.swap(4), 3);
        OnePortrait u = told("w009910;" + "r0;".repeat(10) + "r9;r0;");
        due("lesser 10", u.swap(11), 1011);
        OnePortrait v = told("w004006;r0;r0;");
        due("none is better than the rota as it is", v.swap(1), -9);
    }

    private static void leaving() {
        promise = 21;
        OnePortrait x = told("w394006;w004006;r0;r1;");
        due("leave(1)", x.leave(1), 0);
        due("leave(2): she wears most", x.leave(2), 0);
        due("leave(0)", x.leave(0), -9);
        x.puts(0, 1);
        due("leave(1): she alone wears", x.leave(1), 1);
        due("leave(-1)", x.leave(-1), -4);
        due("leave(61)", x.leave(61), -6);
        due("nothing changes", x.rota(0), 1);
        refused(x, 0, 0, 0, 1, 0, 1);
        due("of several the least", told("w004006;w004006;r1;r0;").leave(2), 0);
        due("a slapper mends him", told("w400006;m000;r0;").leave(1), -9);
    }

    private static void mendingBest() {
        promise = 22;
        OnePortrait x = told("w004006;r0;m000;m100;");
        due("mend(1)", x.mend(1), 0);
        due("mend(0)", x.mend(0), -9);
        due("mend(-1)", x.mend(-1), -4);
        due("mend(61)", x.mend(61), -6);
        due("nothing changes", x.seen(0), 0);
        refused(x, 0, 0, 0, 1, 0, 1);
        due("a smoker's beard", told("w204006;r0;m000;m100;").mend(1), 1);
        due("none better", told("w004006;r0;").mend(9), -9);
        due("worse is not better", told("w204006;r0;m199;").mend(1), -9);
    }

    private static void lasting() {
        promise = 23;
        OnePortrait x = told("w004006;r0;m050;");
        due("lasts(48)", x.lasts(48), 2);
        due("lasts(49)", x.lasts(49), 1);
        due("lasts(50)", x.lasts(50), 0);
        due("lasts(0)", x.lasts(0), 60);
        due("lasts(-1)", x.lasts(-1), -4);
        due("lasts(100)", x.lasts(100), -6);
        refused(x, 0, 0, 0, 1, 0, 1);
        due("at the end of them", told("w400006;r0;m010;").lasts(12), 60);
        due("in the chapel", told("r9;").lasts(90), 60);
    }

    private static void carrying() {
        promise = 24;
        OnePortrait x = told("w004006;w004006;r0;r9;r1;");
        due("carry(1)", x.carry(1), 7);
        due("carry(2)", x.carry(2), 13);
        due("carry(3)", x.carry(3), 14);
        due("carry(60)", x.carry(60), 280);
        due("carry(0)", x.carry(0), -4);
        due("carry(61)", x.carry(61), -6);
        x.weeks(1);
        due("from who has him now", x.carry(1), 6);
        refused(x, 0, 0, 0, 1, 0, 1);
    }

    private static void bestRotas() {
        promise = 25;
        OnePortrait x = told("w001005;w002005;w002005;w000011;");
        due("of most grief, then the least", x.bestRota(5), 1);
        due("bestRota(11)", x.bestRota(11), 3);
        due("nobody's", x.bestRota(0), 9);
        due("not met", x.bestRota(-1), 2);
        due("bestRota(-2)", x.bestRota(-2), -4);
        due("bestRota(12)", x.bestRota(12), -6);
        refused(x, 0, 0, 0, 1, 0, 1);
    }

    private static void whoHadHim() {
        promise = 26;
        OnePortrait x = told("w004006;w374006;w424006;w504006;w134006;");
        due("an empty row", x.whoHad(0), 31);
        rowOf(x, 90);
        due("as it is now", x.whoHad(0), 31);
        rowOf(x, 89);
        due("not as it is now", x.whoHad(0), 0);
        rowOf(x, 90, 89, 88);
        due("a widow, a weeper", x.whoHad(0), 17);
        rowOf(x, 90, 87);
        due("a kisser", x.whoHad(0), 2);
        rowOf(x, 90, 92);
        due("a slapper", x.whoHad(0), 4);
        rowOf(x, 90, 88);
        due("a betrothed", x.whoHad(0), 8);
        // weeper: 40 less 7 is 33 by which BLUE is 2 less, then 26, then 19 by which 1; slapper: 38, 36, 34
        rowOf(x, 90, 88, 86, 85);
        due("blue by grief", x.whoHad(2), 16);
        rowOf(x, 90, 88, 86, 84);
        due("blue by grief", x.whoHad(2), 12);
        due("the row stays", x.count(7), 4);
        due("whoHad(3)", x.whoHad(3), -2);
        due("whoHad(-1)", x.whoHad(-1), -2);
        refused(x, 0, 2, 0, 0, 0, 0);
    }

    private static void whatKindSheIs() {
        promise = 27;
        OnePortrait x = told("w344006;r0;");
        due("an empty row", x.whatKind(0, 0, 0), 63);
        due("an empty row", x.whatKind(0, 0, 1), 1023);
        rowOf(x, 90, 88);
        due("kinds", x.whatKind(0, 0, 0), 8);
        due("figures", x.whatKind(0, 0, 1), 8 + 16 + 32);
        rowOf(x, 90, 92);
        due("kinds", x.whatKind(0, 0, 0), 16);
        due("figures", x.whatKind(0, 0, 1), 0);
        rowOf(x, 90, 89);
        due("kinds by beard", x.whatKind(0, 1, 0), 1 + 2 + 8 + 16);
        due("figures by beard", x.whatKind(0, 1, 1), 1023);
        x.puts(0, 9);
        due("the rota as it is", x.whatKind(0, 1, 0), 0);
        due("the row stays", x.count(7), 2);
        due("whatKind(1, 3, 2)", x.whatKind(1, 3, 2), -1);
        due("whatKind(0, 3, 2)", x.whatKind(0, 3, 2), -2);
        due("whatKind(0, 0, 2)", x.whatKind(0, 0, 2), -2);
        due("whatKind(0, 0, -1)", x.whatKind(0, 0, -1), -2);
        due("nothing changes", x.widowOf(0, 0), 3);
        due("nothing changes", x.widowOf(0, 1), 4);
        refused(x, 1, 3, 0, 0, 0, 0);
    }

    private static void twoWidows() {
        promise = 28;
        OnePortrait x = told("w004006;w004006;r0;r1;");
        due("n 0: both send him on", x.two(0, 1, 0), 11);
        due("he is with the first", x.two(0, 1, 1), 1);
        due("as told", x.two(1, 0, 1), 10);
        due("both keep", x.two(0, 1, 2), 0);
        due("two(0, 0, -1)", x.two(0, 0, -1), -1);
        due("two(2, 0, 5)", x.two(2, 0, 5), -1);
        due("two(0, -1, 5)", x.two(0, -1, 5), -1);
        due("two(0, 1, -1)", x.two(0, 1, -1), -4);
        due("two(0, 1, 61)", x.two(0, 1, 61), -6);
        due("nothing changes", x.rota(1), 1);
        refused(x, 3, 0, 0, 1, 0, 1);
        // as if 3 less is not cut at 0, and as much is no better: a comfort of 2 and one of 3
        due("grief of 0", told("w400006;w004006;r9;").two(0, 1, 1), 11);
        due("1 less and 1 not more: 2 below 3", told("w414006;w004006;r0;").two(0, 1, 1), 11);
        // sent on by the smoker, EYE stays 20 and comforts 2: keeping is as good as sending; else it comforts 1
        due("what the other does counts", told("w004006;w204006;r1;r0;m020;m100;").two(0, 1, 2), 1);
        due("2 less and 1 not more: as much", told("w424006;w004006;r0;").two(0, 1, 1), 1);
    }

    private static void galesBlow() {
        promise = 29;
        OnePortrait x = told("w004011;r0;");
        due("n 0", x.gales(0, 0, 2, 40, 0), 1);
        due("n 0", x.gales(0, 0, 2, 40, 1), 1);
        due("n 0, 0 over 1", x.gales(0, 0, 2, 39, 0), 0);
        due("n 0, 0 over 1", x.gales(0, 0, 2, 39, 1), 1);
        due("1 in 2", x.gales(0, 1, 2, 35, 0), 1);
        due("1 in 2", x.gales(0, 1, 2, 35, 1), 2);
        due("all", x.gales(0, 1, 2, 41, 1), 1);
        due("none", x.gales(0, 1, 2, 34, 1), 1);
        due("19 in 20", x.gales(0, 1, 20, 35, 0), 19);
        due("19 in 20", x.gales(0, 1, 20, 35, 1), 20);
        due("both calm", x.gales(0, 2, 4, 30, 0), 9);
        due("both calm", x.gales(0, 2, 4, 30, 1), 16);
        due("one gale at most", x.gales(0, 2, 4, 36, 0), 15);
        due("one gale at most", x.gales(0, 2, 4, 36, 1), 16);
        // seven calm weeks: EYE 90 .. 84, comfort 5 each
        due("seven calm of 20", x.gales(0, 7, 20, 4, 0), 0);
        due("seven calm of 20", x.gales(0, 7, 20, 5, 0), 893871739L);
        due("seven calm of 20", x.gales(0, 7, 20, 5, 1), 1280000000L);
        x.grieves(0, 0);
        // the last week calm: 0, as four gales ahead are eased by 5; a gale in it: at least 1
        due("the last calm", x.gales(0, 5, 20, 0, 0), 19);
        due("the last calm", x.gales(0, 5, 20, 0, 1), 20);
        // of 20 to the seventh skies all but the one of seven gales
        due("not seven gales", x.gales(0, 7, 20, 6, 0), 1279999999L);
        due("not seven gales", x.gales(0, 7, 20, 6, 1), 1280000000L);
        due("no such widow", x.gales(1, -1, 1, -1, 2), LONGS + 1);
        due("n -1", x.gales(0, -1, 21, 100, 2), LONGS + 4);
        due("t 1", x.gales(0, 8, 1, 100, 2), LONGS + 4);
        due("v -1", x.gales(0, 8, 21, -1, 2), LONGS + 4);
        due("n 8", x.gales(0, 8, 20, 99, 2), LONGS + 6);
        due("t 21", x.gales(0, 7, 21, 99, 2), LONGS + 6);
        due("v 100", x.gales(0, 7, 20, 100, 2), LONGS + 6);
        due("part 2", x.gales(0, 7, 20, 99, 2), LONGS + 2);
        due("part -1", x.gales(0, 7, 20, 99, -1), LONGS + 2);
        refused(x, 1, 2, 0, 3, 0, 3);
    }

    private static void worsts() {
        promise = 30;
        OnePortrait x = told("w001005;w002005;w002006;w000005;r1;r9;r3;");
        due("worst(0)", x.worst(0), 1);
        due("never", x.worst(1), 1 + 4);
        due("same", x.worst(2), 3);
        due("worst(3)", x.worst(3), -2);
        due("worst(-1)", x.worst(-1), -2);
        refused(x, 0, 2, 0, 0, 0, 0);
        due("no grief at all", told("w000000;").worst(0), 0);
    }

    private static void means() {
        promise = 31;
        OnePortrait x = told("w001005;w002005;w003006;w000005;");
        due("60 over 4", x.mean(0), 15);
        due("60 over 4", x.mean(1), 1);
        x.grieves(0, 12);
        due("62 over 4", x.mean(0), 31);
        due("62 over 4", x.mean(1), 2);
        due("mean(2)", x.mean(2), LONGS + 2);
        due("mean(-1)", x.mean(-1), LONGS + 2);
        refused(x, 0, 2, 0, 0, 0, 0);
        OnePortrait y = told("w000005;w000005;");
        due("0 over 1", y.mean(0), 0);
        due("0 over 1", y.mean(1), 1);
    }

    private static void faces() {
        promise = 32;
        OnePortrait x = told("m010;m150;m249;");
        due("face(0)", x.face(0), 109);
        due("face(1)", x.face(1), 1);
        x.mends(2, 50);
        due("of several the least", x.face(1), 1);
        x.mends(2, 51);
        due("blue", x.face(1), 2);
        due("face(2)", x.face(2), -2);
        due("face(-1)", x.face(-1), -2);
        refused(x, 0, 2, 0, 0, 0, 0);
    }

    private static void nextTurns() {
        promise = 33;
        OnePortrait x = told("w004006;w004006;w004006;r0;r9;r1;");
        due("now", x.next(0), 0);
        due("next(1)", x.next(1), 2);
        due("never", x.next(2), -9);
        x.weeks(1);
        due("next(0)", x.next(0), 2);
        due("next(3)", x.next(3), -1);
        due("next(-1)", x.next(-1), -1);
        refused(x, 2, 0, 0, 0, 0, 0);
    }

    private static void gapsAndKept() {
        promise = 34;
        OnePortrait x = told("w004006;w004006;w004006;r0;r9;r9;r9;r9;r9;r1;");
        due("gap(0)", x.gap(0), 6);
        due("gap(2)", x.gap(2), 60);
        due("gap(3)", x.gap(3), -1);
        due("gap(-1)", x.gap(-1), -1);
        refused(x, 2, 0, 0, 0, 0, 0);
        tell(x, "x;r0;");
        due("always", x.gap(0), 0);
        // 11 places, hers the last but one: of 60 weeks the five turns at 9, 20, .. 53
        tell(x, "x;" + "r9;".repeat(9) + "r0;r9;");
        due("gap(0)", x.gap(0), 10);
        promise = 37;
        tell(x, "x;r0;r9;r9;r9;r9;r9;r1;");
        due("9 to 8", x.kept(), 0);
        tell(x, "x;r1;r9;r9;r9;r9;r9;r0;");
        due("9 to 8", x.kept(), 1);
        tell(x, "x;r1;r0;");
        due("of several the least", x.kept(), 0);
        tell(x, "x;r9;");
        due("none", x.kept(), -9);
    }

    private static void easing() {
        promise = 35;
        OnePortrait x = told("w004006;w004006;r0;");
        due("eased(0, 2)", x.eased(0, 2), 10);
        due("eased(1, 2)", x.eased(1, 2), -2);
        due("eased(0, 0)", x.eased(0, 0), 0);
        due("eased(2, -1)", x.eased(2, -1), 1000000001);
        due("eased(0, -1)", x.eased(0, -1), 1000000004);
        due("eased(0, 61)", x.eased(0, 61), 1000000006);
        refused(x, 1, 0, 0, 1, 0, 1);
    }

    private static void sundaysComing() {
        promise = 36;
        OnePortrait x = told("w004006;r9;r0;r9;");
        due("sundays(0)", x.sundays(0), 0);
        due("sundays(1)", x.sundays(1), 1);
        due("sundays(2)", x.sundays(2), 1);
        due("sundays(60)", x.sundays(60), 40);
        due("sundays(-1)", x.sundays(-1), -4);
        due("sundays(61)", x.sundays(61), -6);
        refused(x, 0, 0, 0, 1, 0, 1);
    }

    private static void theRow() {
        promise = 38;
        OnePortrait x = told("w001000;w002000;");
        due("row(-1)", x.row(-1), -4);
        due("row(100)", x.row(100), -6);
        for (int i = 1; i <= 12; i++) {
            due("row(99)", x.row(99), i);
        }
        due("a thirteenth", x.row(0), -6);
        due("a thirteenth, below", x.row(-1), -4);
        due("count(7)", x.count(7), 12);
        refused(x, 0, 0, 0, 2, 0, 2);
        promise = 40;
        due("clear()", x.clear(), 12);
        due("clear()", x.clear(), 0);
        promise = 39;
        due("an empty row", x.judge(), -9);
        rowOf(x, 10);
        due("all so", x.judge(), -9);
        due("count(7)", x.count(7), 0);
        rowOf(x, 10, 20);
        due("all so", x.judge(), -9);
        rowOf(x, 10, 21, 0);
        due("the second", x.judge(), 1);
        due("count(7)", x.count(7), 0);
        rowOf(x, 10, 20, 0, 0);
        due("none there", x.judge(), 2);
    }

    private static void lotsDrawn() {
        promise = 41;
        OnePortrait x = told("w000000;w009900;");
        // a rota of none: 12 weeks in the chapel
        due("no places", x.lots(1, 7, 0), 12 + 99);
        due("20 years", x.lots(20, 7, 0), 20 * 111);
        due("not met", x.lots(20, 7, 1), 0);
        OnePortrait alone = told("w000003;r9;");
        due("she alone, whatever the draw", alone.lots(3, 5, 1), 3);
        due("she alone", alone.lots(3, 5, 0), 0);
        due("nothing changes", alone.rota(0), 9);
        due("nothing changes", alone.count(5), 0);
        // z 0: 12345 is 0 over 65536; then 12345 * 1103515245 + 12345 wraps to -740551042: 21468 over 65536, even
        OnePortrait two = told("w009900;w009900;r9;r9;");
        int first = 0 * 1103515245 + 12345;
        int second = first * 1103515245 + 12345;
        int one = (first & Integer.MAX_VALUE) / 65536 % 2;
        int other = (second & Integer.MAX_VALUE) / 65536 % 2;
        OnePortrait same = told("w009900;w009900;r" + one + ";r" + other + ";");
        due("by draws", two.lots(1, 0, 0), same.then(12, 1));
        due("lots(0, 5, 2)", x.lots(0, 5, 2), -4);
        due("lots(21, 5, 2)", x.lots(21, 5, 2), -6);
        due("lots(1, 5, 2)", x.lots(1, 5, 2), -2);
        due("lots(1, 5, -1)", x.lots(1, 5, -1), -2);
        refused(x, 0, 2, 0, 1, 0, 1);
        OnePortrait nobody = new OnePortrait();
        due("what ahead of nobody", nobody.lots(1, 5, 2), -2);
        due("nobody", nobody.lots(1, 5, 0), -3);
        refused(nobody, 0, 1, 1, 0, 0, 0);
    }

    private static void images() {
        promise = 43;
        OnePortrait x = told("w104506;r0;k03;");
        due("restore()", x.restore(), -3);
        promise = 42;
        due("image()", x.image(), 3);
        promise = 43;
        int grief = x.count(4);
        int blue = x.seen(2);
        tell(x, "w000000;r1;k20;m011;");
        feedAll(x, "ab");
        x.row(5);
        x.mends(0, 1);
        due("restore()", x.restore(), 3);
        due("widows", x.count(0), 1);
        due("places", x.count(2), 1);
        due("grief", x.count(4), grief);
        due("blue", x.seen(2), blue);
        due("eye", x.seen(0), 87);
        due("letters stay", x.count(6), 2);
        due("the row stays", x.count(7), 1);
        due("none to take back", x.count(8), 0);
        x.weeks(9);
        due("restore() again", x.restore(), 3);
        due("refusals stay", x.count(13), 1);
        promise = 42;
        x.weeks(9);
        due("image() anew", x.image(), 12);
        x.weeks(9);
        due("restore()", x.restore(), 12);
    }

    private static void counting() {
        promise = 44;
        OnePortrait x = told("w001001;w002000;r1;r0;");
        x.weeks(2);
        feedAll(x, "abc");
        x.row(1);
        x.row(2);
        x.rota(-1);
        x.seen(9);
        int[] want = {2, 2, 2, 1, x.widowOf(0, 2) + x.widowOf(1, 2), 2, 3, 2, 1, -9, -9, 1, 1, 0, 0, 0, 0, -9};
        for (int what = 0; what < want.length; what++) {
            due("count(" + what + ")", x.count(what), want[what]);
        }
        due("count(-1)", x.count(-1), -9);
        due("count(min)", x.count(Integer.MIN_VALUE), -9);
        due("count(max)", x.count(Integer.MAX_VALUE), -9);
        refused(x, 1, 1, 0, 0, 0, 0);
    }
}
