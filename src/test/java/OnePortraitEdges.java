// Each sentence of the document that names a boundary case, by its own words: what holds at the edge, one step inside
// it and one step outside it. Worked out by hand. (What is refused: OnePortraitRefusals.)
public final class OnePortraitEdges {
    private static int wrong = 0;
    private static String sentence = "";

    private static void says(String words) {
        sentence = words;
    }

    private static void due(String call, long got, long want) {
        if (got != want) {
            wrong++;
            System.out.println("\"" + sentence + "\": " + call + " answered " + got + ", due is " + want);
        }
    }

    private static int tell(OnePortrait x, String text) {
        for (char letter : text.toCharArray()) {
            x.feed(letter);
        }
        return x.street();
    }

    private static OnePortrait told(String text) {
        OnePortrait x = new OnePortrait();
        due(text, Math.min(0, tell(x, text)), 0);
        return x;
    }

    /** A street at a WEEK from 60 on; the ROTA has none until then. */
    private static OnePortrait toldAt(int week, String widows, String rota) {
        OnePortrait x = told(widows);
        while (x.count(1) < week) {
            x.weeks(Math.min(60, week - x.count(1)));
        }
        due(rota, Math.min(0, tell(x, rota)), 0);
        return x;
    }

    private static void row(OnePortrait x, int... values) {
        x.clear();
        for (int v : values) {
            x.row(v);
        }
    }

    // ---- I ----

    private static void widows() {
        says("WIDOWS 0 .. as they come (7 at most; the number is that of her house)");
        OnePortrait x = new OnePortrait();
        for (int w = 0; w <= 6; w++) {
            due("widow()", x.widow(0, w, 10 * w, w), w);
            due("count(0)", x.count(0), w + 1);
        }
        due("an eighth", x.widow(0, 0, 0, 0), -6);
        due("an eighth, told", tell(x, "w000000;"), -2000);
        due("count(0)", x.count(0), 7);
        for (int w = 0; w <= 6; w++) {
            due("figure", x.widowOf(w, 1), w);
        }
        due("six told", tell(new OnePortrait(), "w000000;".repeat(6)), 6);
        due("seven told", tell(new OnePortrait(), "w000000;".repeat(7)), 7);
        due("eight told", tell(new OnePortrait(), "w000000;".repeat(8)), -2056);
        says("a FIGURE (0 .. 9), GRIEF (0 .. 99), a DAY (0 .. 11)");
        OnePortrait y = told("w000000;w010101;w089810;w099911;");
        int[][] want = {{0, 0, 0}, {1, 1, 1}, {8, 98, 10}, {9, 99, 11}};
        for (int w = 0; w < 4; w++) {
            for (int what = 1; what <= 3; what++) {
                due("widowOf(" + w + ", " + what + ")", y.widowOf(w, what), want[w][what - 1]);
            }
        }
        due("day 12", tell(y, "w000012;"), -2000);
        due("day 13", tell(y, "w000013;"), -2000);
        due("day 99", tell(y, "w000099;"), -2000);
        says("of KINDS: 0 WIDOW .. 5 BETROTHED");
        OnePortrait z = told("w000000;w100000;w400000;w500000;");
        due("kind", z.widowOf(1, 0), 1);
        due("kind", z.widowOf(3, 0), 5);
        due("kind 6", tell(z, "w600000;"), -2000);
        due("kind 9", tell(z, "w900000;"), -2000);
        says("MET (0 .. 99: how often he was with her on it; 0 at first)");
        due("met", z.widowOf(0, 4), 0);
    }

    private static void metMost() {
        says("MET (99 at most)");
        // the days 0, 12, .. 996 of 999 weeks; no run can come nearer to 99 than in mind, 60 weeks further
        OnePortrait x = told("w000000;r0;");
        for (int i = 0; i < 16; i++) {
            x.weeks(60);
        }
        x.weeks(36);
        due("WEEK 996", x.widowOf(0, 4), 83);
        x.weeks(1);
        due("WEEK 997", x.widowOf(0, 4), 84);
        x.weeks(2);
        due("WEEK 999", x.widowOf(0, 4), 84);
        due("WEEK 1008 in mind", x.widowIn(0, 9, 1), 84);
        due("WEEK 1009 in mind", x.widowIn(0, 10, 1), 85);
        due("WEEK 1059 in mind", x.widowIn(0, 60, 1), 89);
    }

    private static void firstOfAll() {
        OnePortrait x = new OnePortrait();
        says("SEEN (0 .. 99; 90 at first)");
        due("seen(0)", x.seen(0), 90);
        due("seen(1)", x.seen(1), 90);
        due("seen(2)", x.seen(2), 90);
        tell(x, "m000;m101;m298;");
        due("seen 0", x.seen(0), 0);
        due("seen 1", x.seen(1), 1);
        due("seen 98", x.seen(2), 98);
        tell(x, "m299;");
        due("seen 99", x.seen(2), 99);
        says("a ROTA of none; in the chapel; WEEK (0 .. 999; 0 at first)");
        due("places", x.count(2), 0);
        due("who has him", x.count(3), 9);
        due("week", x.count(1), 0);
        due("rota(0)", x.rota(0), -1);
        due("then(60, 0)", x.then(60, 0), 9);
        tell(x, "r9;");
        due("nobody's", x.count(3), 9);
        due("rota(0)", x.rota(0), 9);
    }

    private static void twelvePlaces() {
        says("ROTA: 0 to 12 places, a WIDOW each, or nobody");
        OnePortrait x = told("w000000;");
        for (int place = 0; place <= 11; place++) {
            due("puts(" + place + ", 0)", x.puts(place, 0), 9);
            due("count(2)", x.count(2), place + 1);
        }
        due("a thirteenth", x.puts(12, 0), -6);
        due("a thirteenth, told", tell(x, "r0;"), -2000);
        due("a thirteenth, nobody's", tell(x, "r9;"), -2000);
        due("count(2)", x.count(2), 12);
        due("rota(11)", x.rota(11), 0);
        due("rota(12)", x.rota(12), -1);
        due("eleven told", tell(x, "x;" + "r9;".repeat(11)), 12);
        due("a twelfth", tell(x, "r0;"), 1);
        due("twelve told", tell(x, "x;" + "r9;".repeat(12)), 13);
        due("thirteen told", tell(x, "x;" + "r9;".repeat(13)), -2038);
        due("the ROTA has none", tell(x, "x;"), 1);
        due("count(2)", x.count(2), 0);
        due("none again", tell(x, "x;x;"), 2);
    }

    private static void weeksByTheRota() {
        says("at the place of WEEK modulo as many as the ROTA has");
        OnePortrait x = told("w000000;w000000;w000000;r0;r1;r9;");
        int[] three = {0, 1, 9, 0, 1, 9, 0};
        for (int week = 0; week < three.length; week++) {
            due("count(3) in WEEK " + week, x.count(3), three[week]);
            due("then, WEEK " + week, told("w000000;w000000;r0;r1;r9;").then(week, 0), three[week]);
            x.weeks(1);
        }
        OnePortrait y = told("w000000;w000000;r0;" + "r9;".repeat(10) + "r1;");
        due("WEEK 10", y.then(10, 0), 9);
        due("WEEK 11", y.then(11, 0), 1);
        due("WEEK 12", y.then(12, 0), 0);
        due("WEEK 13", y.then(13, 0), 9);
        due("one place, WEEK 60", told("w000000;r0;").then(60, 0), 0);
        says("WEEK may pass 999 there");
        // of seven places: 999 is 5 more than 142 times 7
        OnePortrait z = toldAt(999, "w000000;".repeat(7), "r0;r1;r2;r3;r4;r5;r6;");
        int[] seven = {5, 6, 0, 1};
        for (int n = 0; n < seven.length; n++) {
            due("then(" + n + ", 0) in WEEK 999", z.then(n, 0), seven[n]);
        }
        due("then(59, 0)", z.then(59, 0), 1);
        due("then(60, 0)", z.then(60, 0), 2);
        due("WEEK", z.count(1), 999);
    }

    private static void days() {
        says("DAY (0 .. 11: the WEEK modulo 12 that matters to her)");
        OnePortrait x = told("w000000;w000001;w000011;");
        for (int week = 0; week <= 25; week++) {
            due("day 0 in WEEK " + week, x.widowOf(0, 5), week % 12 == 0 ? 15 : 5);
            due("day 1 in WEEK " + week, x.widowOf(1, 5), week % 12 == 1 ? 15 : 5);
            due("day 11 in WEEK " + week, x.widowOf(2, 5), week % 12 == 11 ? 15 : 5);
            x.weeks(1);
        }
        // 999 is 3 more than 83 times 12
        OnePortrait y = toldAt(998, "w000003;w000004;", "r0;");
        due("WEEK 998", y.widowOf(0, 5), 5);
        y.weeks(1);
        due("WEEK 999", y.widowOf(0, 5), 15);
        due("WEEK 999", y.widowOf(1, 5), 5);
        due("WEEK 999 in mind", y.widowIn(0, 1, 1), 1);
        due("WEEKS 999 .. 1010", y.widowIn(0, 12, 1), 1);
        due("WEEKS 999 .. 1011", y.widowIn(0, 13, 1), 2);
    }

    private static void wears(String text, int part, int want) {
        due("wears(0, " + part + ") of " + text, told(text).wears(0, part), want);
    }

    private static void wearsCut() {
        says("WEEPER of BLUE GRIEF over 20, cut, more");
        int[] griefs = {0, 1, 19, 20, 21, 39, 40, 41, 59, 60, 79, 80, 98, 99};
        int[] blues = {11, 11, 11, 12, 12, 12, 13, 13, 13, 14, 14, 15, 15, 15};
        for (int i = 0; i < griefs.length; i++) {
            String grief = (griefs[i] < 10 ? "0" : "") + griefs[i];
            wears("w19" + grief + "06;", 2, blues[i]);
            wears("w19" + grief + "06;", 0, 11);
            wears("w19" + grief + "06;", 1, 11);
            wears("w49" + grief + "06;", 2, blues[i]);
            wears("w59" + grief + "06;", 2, 12);
        }
        says("SMOKER of BEARD FIGURE over 2, cut, more");
        int[] beards = {11, 11, 12, 12, 13, 13, 14, 14, 15, 15};
        int[] kissed = {11, 11, 11, 12, 12, 12, 13, 13, 13, 14};
        for (int figure = 0; figure <= 9; figure++) {
            wears("w2" + figure + "9906;", 1, beards[figure]);
            wears("w2" + figure + "9906;", 0, 11);
            wears("w2" + figure + "9906;", 2, 11);
        }
        says("KISSER of EYE FIGURE over 3, cut, more; BETROTHED 1 more of each than a KISSER");
        for (int figure = 0; figure <= 9; figure++) {
            wears("w3" + figure + "9906;", 0, kissed[figure]);
            wears("w3" + figure + "9906;", 1, 11);
            wears("w3" + figure + "9906;", 2, 11);
            wears("w5" + figure + "9906;", 0, kissed[figure] + 1);
            wears("w5" + figure + "9906;", 1, 12);
            wears("w5" + figure + "9906;", 2, 12);
        }
        says("SLAPPER as a WEEPER, but EYE is 2 more instead (below 10: so much more SEEN)");
        wears("w400006;", 0, 8);
        wears("w499906;", 0, 8);
        wears("w499906;", 1, 11);
        says("WIDOW 1 of each");
        for (int part = 0; part < 3; part++) {
            wears("w000006;", part, 11);
            wears("w099906;", part, 11);
        }
    }

    private static void comfort(String parts, int... want) {
        OnePortrait x = told("w076006;w176006;w276006;w376006;w476006;w576006;" + parts);
        for (int w = 0; w < 6; w++) {
            due("comfort of kind " + w + " at " + parts, x.widowOf(w, 5), want[w]);
        }
        // WEEK 6 is the day of all; in the chapel nothing wears
        x.weeks(6);
        for (int w = 0; w < 6; w++) {
            due("comfort of kind " + w + " on her day", x.widowOf(w, 5), want[w] + 10);
        }
    }

    private static void comfortsCut() {
        says("COMFORT: WIDOW EYE SEEN over 20, cut, plus 1; WEEPER 2 more; SMOKER BEARD SEEN over 10, cut; KISSER twice a "
                + "WIDOW's; SLAPPER FIGURE; BETROTHED half of a KISSER's, cut; all 10 more on her DAY");
        comfort("m000;m100;", 1, 3, 0, 2, 7, 1);
        comfort("m001;m101;", 1, 3, 0, 2, 7, 1);
        comfort("m019;m109;", 1, 3, 0, 2, 7, 1);
        comfort("m020;m110;", 2, 4, 1, 4, 7, 2);
        comfort("m021;m111;", 2, 4, 1, 4, 7, 2);
        comfort("m039;m119;", 2, 4, 1, 4, 7, 2);
        comfort("m040;m120;", 3, 5, 2, 6, 7, 3);
        comfort("m079;m189;", 4, 6, 8, 8, 7, 4);
        comfort("m080;m190;", 5, 7, 9, 10, 7, 5);
        comfort("m099;m199;", 5, 7, 9, 10, 7, 5);
        due("a slapper of figure 0", told("w400006;").widowOf(0, 5), 0);
        due("a slapper of figure 0 on her day", told("w400000;").widowOf(0, 5), 10);
        due("a slapper of figure 9 on her day", told("w490000;").widowOf(0, 5), 19);
    }

    /** EYE, BEARD, BLUE, GRIEF of the first behind one WEEK. */
    private static void week(String text, int eye, int beard, int blue, int grief) {
        OnePortrait x = told(text);
        x.weeks(1);
        due("eye behind a week of " + text, x.seen(0), eye);
        due("beard behind a week of " + text, x.seen(1), beard);
        due("blue behind a week of " + text, x.seen(2), blue);
        due("grief behind a week of " + text, x.widowOf(0, 2), grief);
        OnePortrait y = told(text);
        due("in mind", y.then(1, 2), eye);
        due("in mind", y.then(1, 3), beard);
        due("in mind", y.then(1, 4), blue);
        due("in mind", y.widowIn(0, 1, 0), grief);
        due("told k01", tell(y, "k01;"), 1);
        due("told k01", y.seen(2), blue);
        due("told k01", y.widowOf(0, 2), grief);
    }

    private static void oneWeek() {
        says("COMFORT first (by PARTS as they are), then WEARS (by GRIEF as it is then)");
        week("w108806;r0;", 89, 89, 85, 81);
        week("w108706;r0;", 89, 89, 85, 80);
        week("w108606;r0;", 89, 89, 86, 79);
        week("w102806;r0;", 89, 89, 88, 21);
        week("w102706;r0;", 89, 89, 88, 20);
        week("w102606;r0;", 89, 89, 89, 19);
        // EYE 80 comforts 5 though it is 79 behind it
        week("w005006;r0;m081;", 80, 89, 89, 45);
        week("w005006;r0;m080;", 79, 89, 89, 45);
        week("w005006;r0;m079;", 78, 89, 89, 46);
        week("w295006;r0;m190;", 89, 85, 89, 41);
        week("w295006;r0;m189;", 89, 84, 89, 42);
        says("(GRIEF) 0 at least");
        week("w000606;r0;", 89, 89, 89, 1);
        week("w000506;r0;", 89, 89, 89, 0);
        week("w000406;r0;", 89, 89, 89, 0);
        week("w000006;r0;", 89, 89, 89, 0);
        week("w491006;r0;", 92, 89, 89, 1);
        week("w490906;r0;", 92, 89, 89, 0);
        week("w490806;r0;", 92, 89, 89, 0);
        week("w491900;r0;", 92, 89, 89, 0);
        week("w492000;r0;", 92, 89, 89, 1);
        says("(SEEN) 0 at least");
        week("w005006;r0;m002;m101;m200;", 1, 0, 0, 49);
        week("w109906;r0;m206;", 89, 89, 1, 92);
        week("w109906;r0;m205;", 89, 89, 0, 92);
        week("w109906;r0;m204;", 89, 89, 0, 92);
        week("w395006;r0;m005;", 1, 89, 89, 48);
        week("w395006;r0;m004;", 0, 89, 89, 48);
        week("w395006;r0;m003;", 0, 89, 89, 48);
        week("w295006;r0;m106;", 89, 1, 89, 50);
        week("w295006;r0;m105;", 89, 0, 89, 50);
        week("w295006;r0;m104;", 89, 0, 89, 50);
        week("w505006;r0;m103;m202;", 88, 1, 0, 45);
        week("w505006;r0;m102;m201;", 88, 0, 0, 45);
        says("(SEEN) 99 at most");
        week("w401006;r0;m096;", 98, 89, 89, 10);
        week("w401006;r0;m097;", 99, 89, 89, 10);
        week("w401006;r0;m098;", 99, 89, 89, 10);
        week("w401006;r0;m099;", 99, 89, 89, 10);
        week("w401006;r0;m000;", 2, 89, 89, 10);
        says("GRIEF of all others is 1 more (99 at most)");
        week("w000006;w000006;r1;", 89, 89, 89, 1);
        week("w009706;w000006;r1;", 89, 89, 89, 98);
        week("w009806;w000006;r1;", 89, 89, 89, 99);
        week("w009906;w000006;r1;", 89, 89, 89, 99);
        says("in the chapel nothing WEARS");
        week("w009706;r9;", 90, 90, 90, 98);
        week("w009806;r9;m000;m199;", 0, 99, 90, 99);
        week("w009906;", 90, 90, 90, 99);
    }

    private static void metOnHerDay() {
        says("MET is 1 more, if it is her DAY");
        OnePortrait x = told("w000003;w000003;r0;");
        int[] met = {0, 0, 0, 0, 1, 1};
        for (int week = 0; week < met.length; week++) {
            due("met in WEEK " + week, x.widowOf(0, 4), met[week]);
            x.weeks(1);
        }
        due("he is not with her", x.widowOf(1, 4), 0);
        x.weeks(9);
        due("met in WEEK 15", x.widowOf(0, 4), 1);
        x.weeks(1);
        due("met in WEEK 16", x.widowOf(0, 4), 2);
    }

    private static void weekNumbers() {
        says("weeks: -4 1; -6 (60; WEEK above 999)");
        due("weeks(1)", told("w001006;").weeks(1), 11);
        due("weeks(2)", told("w001006;").weeks(2), 12);
        due("weeks(59)", told("w001006;").weeks(59), 69);
        due("weeks(60)", told("w001006;").weeks(60), 70);
        OnePortrait x = toldAt(939, "w000006;", "r9;");
        due("weeks(60) to WEEK 999", x.weeks(60), 99);
        due("WEEK", x.count(1), 999);
        OnePortrait y = toldAt(940, "w000006;", "r9;");
        due("weeks(60) to WEEK 1000", y.weeks(60), -6);
        due("weeks(59) to WEEK 999", y.weeks(59), 99);
        OnePortrait z = toldAt(998, "w000006;", "r9;");
        due("weeks(2) to WEEK 1000", z.weeks(2), -6);
        due("weeks(1) to WEEK 999", z.weeks(1), 99);
        due("weeks(1) to WEEK 1000", z.weeks(1), -6);
        due("WEEK", z.count(1), 999);
    }

    // ---- streets told in letters ----

    private static void letters() {
        says("A STREET is told in letters, one by one (96 at most)");
        OnePortrait x = new OnePortrait();
        due("95 letters", tell(x, "m051;".repeat(19)), 19);
        due("96 letters", tell(x, "x;".repeat(48)), 48);
        for (int i = 1; i <= 96; i++) {
            due("feed", x.feed(i % 2 == 1 ? 'x' : ';'), i);
        }
        due("the 97th", x.feed('x'), -6);
        due("count(6)", x.count(6), 96);
        due("the 96 that came", x.street(), 48);
        due("they are no more", x.count(6), 0);
        due("room again", x.feed('x'), 1);
        due("with a FAULT", x.street(), -1001);
        due("neither", x.count(6), 0);
        due("95 letters, then no more", tell(x, "m051;".repeat(18) + "m0510"), -1094);
        due("96 letters that lack one", tell(x, "m051;".repeat(18) + "x;r9;w"), -1096);
        says("feed: -4; -6 (255; 96, too)");
        due("feed(0)", x.feed(0), 1);
        due("feed(255)", x.feed(255), 2);
        due("feed(-1)", x.feed(-1), -4);
        due("feed(256)", x.feed(256), -6);
        due("letter 0 begins no STATEMENT", x.street(), -1000);
    }

    private static void atLeastOneStatement() {
        says("At least one STATEMENT");
        OnePortrait x = new OnePortrait();
        due("none", x.street(), -1000);
        due("one", tell(x, "x;"), 1);
        due("two", tell(x, "x;x;"), 2);
        due("only its end", tell(x, ";"), -1000);
        due("an end behind an end", tell(x, "x;;"), -1002);
    }

    /** Every cut and every wrong letter of each kind of STATEMENT, alone and behind another. */
    private static void statementsByLetters() {
        String[] statements = {"w041203;", "r0;", "x;", "m150;", "g050;", "k05;"};
        for (String statement : statements) {
            for (String ahead : new String[] {"", "x;", "m199;x;"}) {
                lettersOf(statement, ahead);
            }
        }
    }

    private static void lettersOf(String statement, String ahead) {
        String widow = "w000000;";
        OnePortrait x = told(widow);
        int from = ahead.length();
        due(ahead + statement, Math.min(0, tell(x, ahead + statement)), 0);
        says("FAULT kind 1: the end, if something lacks");
        for (int cut = 1; cut < statement.length(); cut++) {
            due(ahead + statement + " cut", tell(x, ahead + statement.substring(0, cut)), -1000 - from - cut);
        }
        says("FAULT kind 1: the place of the first letter with which no STREET can go on");
        for (int i = 0; i < statement.length(); i++) {
            char right = statement.charAt(i);
            String others = right == ';' ? ":<0x" : right <= '9' ? "/:;x" : "/0;WXflnqsvyz{";
            for (char other : (others + (char) 0 + (char) 255).toCharArray()) {
                String text = ahead + statement.substring(0, i) + other + statement.substring(i + 1);
                due(text, tell(x, text), -1000 - from - i);
            }
        }
        due("a letter more", tell(x, ahead + statement + "a"), -1000 - from - statement.length());
        due("nothing came of them", x.count(0), statement.charAt(0) == 'w' ? 2 : 1);
    }

    private static void digits() {
        says("\"m\" a PART (a digit), SEEN (2 digits); \"g\" a WIDOW (a digit), GRIEF (2 digits): 0 and 9 are digits");
        OnePortrait x = told("w000000;");
        due("m000", tell(x, "m000;"), 1);
        due("seen", x.seen(0), 0);
        due("m299", tell(x, "m299;"), 1);
        due("seen", x.seen(2), 99);
        due("m300", tell(x, "m300;"), -2000);
        due("m999", tell(x, "m999;"), -2000);
        due("g099", tell(x, "g099;"), 1);
        due("grief", x.widowOf(0, 2), 99);
        due("g000", tell(x, "g000;"), 1);
        due("grief", x.widowOf(0, 2), 0);
        due("g100", tell(x, "g100;"), -2000);
        due("g999", tell(x, "g999;"), -2000);
        says("\"r\" a WIDOW (a digit; 9 nobody)");
        OnePortrait y = told("w000000;".repeat(7));
        due("r6", tell(y, "r6;"), 1);
        due("r7", tell(y, "r7;"), -2000);
        due("r8", tell(y, "r8;"), -2000);
        due("r9", tell(y, "r9;"), 1);
        due("g6", tell(y, "g699;"), 1);
        due("g7", tell(y, "g799;"), -2000);
        due("g9", tell(y, "g999;"), -2000);
        due("r0 of nobody", tell(new OnePortrait(), "r0;"), -2000);
        due("g0 of nobody", tell(new OnePortrait(), "g000;"), -2000);
        due("r9 of nobody", tell(new OnePortrait(), "r9;"), 1);
        says("\"k\" WEEKS (2 digits, 1 .. 60)");
        int[] n = {0, 1, 2, 59, 60, 61, 62, 99};
        for (int i = 0; i < n.length; i++) {
            OnePortrait z = new OnePortrait();
            boolean fits = n[i] >= 1 && n[i] <= 60;
            due("k" + n[i], tell(z, (n[i] < 10 ? "k0" : "k") + n[i] + ";"), fits ? 1 : -2000);
            due("WEEK", z.count(1), fits ? n[i] : 0);
        }
    }

    private static void faultsOfTheSecondKind() {
        says("FAULT kind 2: WEEK above 999");
        due("to 998", tell(toldAt(960, "w000000;", "x;"), "k38;"), 1);
        due("to 999", tell(toldAt(960, "w000000;", "x;"), "k39;"), 1);
        due("to 1000", tell(toldAt(960, "w000000;", "x;"), "k40;"), -2000);
        due("to 999 by two", tell(toldAt(960, "w000000;", "x;"), "k30;k09;"), 2);
        due("to 1000 by two", tell(toldAt(960, "w000000;", "x;"), "k30;k10;"), -2004);
        due("at 999", tell(toldAt(999, "w000000;", "x;"), "k01;"), -2000);
        says("FAULT kind 2: the first STATEMENT that, behind all ahead of it in the text, is not as it must be");
        OnePortrait x = new OnePortrait();
        due("her turn ahead of her", tell(x, "r0;w000000;"), -2000);
        due("her grief ahead of her", tell(x, "x;g005;w000000;"), -2002);
        due("two that are not", tell(x, "x;m300;k00;"), -2002);
        due("nothing came", x.count(0), 0);
        due("her turn behind her", tell(x, "w000000;r0;"), 2);
        due("a second one's", tell(x, "r1;w000000;"), -2000);
        due("room behind x", tell(x, "r0;".repeat(11) + "x;r0;"), 13);
        due("no room ahead of x", tell(x, "r0;".repeat(12) + "x;r0;"), -2033);
        says("FAULT kind 1, else kind 2");
        due("kind 1 behind kind 2", tell(x, "r5;m300;x"), -1009);
        due("kind 1 behind kind 2", tell(x, "k00;;"), -1004);
        says("Without FAULT all of it comes, with one nothing");
        OnePortrait y = told("w005011;r0;");
        y.mends(1, 77);
        due("the last is a FAULT", tell(y, "w000000;r1;m011;g012;k03;x;r5;"), -2027);
        int[] want = {1, 0, 1, 0, 50, 0, 0, 0, 1};
        for (int what = 0; what < want.length; what++) {
            due("count(" + what + ")", y.count(what), want[what]);
        }
        due("eye", y.seen(0), 90);
        due("all refusals", y.count(11) + y.count(12) + y.count(13) + y.count(14) + y.count(16), 0);
        due("without", tell(y, "w000000;r1;m011;g012;k03;x;r1;"), 7);
        due("places", y.count(2), 1);
        due("week", y.count(1), 3);
        due("none to take back", y.count(8), 0);
    }

    // ---- II ----

    private static void inMind() {
        says("In mind, n WEEKS on (0 .. 60)");
        String text = "w176003;w354001;w489908;w208011;r0;r1;r9;r2;r3;";
        for (int n : new int[] {0, 1, 2, 59, 60}) {
            OnePortrait x = told(text);
            OnePortrait y = told(text);
            if (n > 0) {
                y.weeks(n);
            }
            due("then(" + n + ", 0)", x.then(n, 0), y.count(3));
            due("then(" + n + ", 1)", x.then(n, 1), y.count(4));
            for (int part = 0; part < 3; part++) {
                due("then(" + n + ", " + (2 + part) + ")", x.then(n, 2 + part), y.seen(part));
            }
            for (int w = 0; w < 4; w++) {
                due("widowIn(" + w + ", " + n + ", 0)", x.widowIn(w, n, 0), y.widowOf(w, 2));
                due("widowIn(" + w + ", " + n + ", 1)", x.widowIn(w, n, 1), y.widowOf(w, 4));
                due("eased(" + w + ", " + n + ")", x.eased(w, n), x.widowOf(w, 2) - y.widowOf(w, 2));
            }
            due("WEEK stays", x.count(1), 0);
        }
    }

    private static void gone() {
        says("GONE: behind how many WEEKS (0 .. 60) a PART is SEEN 0 first; -9");
        // a widow wears 1 of each a week
        String[] beards = {"00", "01", "02", "59", "60", "61", "99"};
        int[] want = {0, 1, 2, 59, 60, -9, -9};
        for (int i = 0; i < want.length; i++) {
            OnePortrait x = told("w005006;r0;m1" + beards[i] + ";");
            due("gone(1) of " + beards[i], x.gone(1), want[i]);
            due("gone(-1) of " + beards[i], x.gone(-1), want[i] < 0 ? -9 : 1);
            due("gone(0)", x.gone(0), -9);
        }
        due("in the chapel", told("m001;").gone(0), -9);
        due("in the chapel, 0", told("m000;").gone(0), 0);
        due("a slapper has EYE 2 behind a WEEK", told("w400006;r0;m000;").gone(0), 0);
        says("FIRST: which PART, of several the least; -9");
        due("60 and 60", told("w005006;r0;m060;m160;").gone(-1), 0);
        due("60 and 59", told("w005006;r0;m060;m159;").gone(-1), 1);
        due("61 and 60", told("w005006;r0;m161;m260;").gone(-1), 2);
        due("61 and 61", told("w005006;r0;m161;m261;").gone(-1), -9);
        due("0 and 0", told("m100;m200;").gone(-1), 1);
    }

    private static void dayMet() {
        says("DAY MET: behind how many WEEKS (1 .. 60) MET of one is more first; -9");
        due("this WEEK", told("w000000;r0;").dayMet(0), 1);
        due("the next", told("w000001;r0;").dayMet(0), 2);
        // of seven places hers, so that of her days only the last meets it
        due("WEEK 58", told("w000010;r9;r9;r0;r9;r9;r9;r9;").dayMet(0), 59);
        due("WEEK 59", told("w000011;r9;r9;r9;r0;r9;r9;r9;").dayMet(0), 60);
        due("WEEK 60", told("w000000;r9;r9;r9;r9;r0;r9;r9;").dayMet(0), -9);
        due("met once is as new", toldAt(61, "w000001;", "r0;k01;").dayMet(0), 12);
        due("never", told("w000001;r0;r9;").dayMet(0), -9);
        OnePortrait x = told("w000001;r0;");
        due("now", x.dayMet(0), 2);
        due("as it was", x.dayMet(0), 2);
        due("MET stays", x.widowOf(0, 4), 0);
    }

    private static void like() {
        says("LIKE: SEEN of the PART of her number modulo 3 and her GRIEF together, of several the least; -9 nobody");
        due("nobody", new OnePortrait().like(), -9);
        due("one, all 0", told("w000000;m000;").like(), 0);
        OnePortrait x = told("w000000;".repeat(7));
        tell(x, "m010;m120;m230;");
        due("BLUE of 2 and of 5", x.like(), 2);
        x.grieves(5, 1);
        due("1 more", x.like(), 5);
        x.grieves(3, 21);
        due("EYE of 3: as much", x.like(), 3);
        x.grieves(6, 20);
        due("EYE of 6: 1 less", x.like(), 3);
        x.grieves(6, 21);
        due("EYE of 6: as much", x.like(), 3);
        x.grieves(6, 22);
        due("EYE of 6: 1 more", x.like(), 6);
        x.grieves(4, 12);
        due("BEARD of 4: as much", x.like(), 4);
        x.grieves(1, 13);
        due("BEARD of 1: 1 more", x.like(), 1);
    }

    private static void turn() {
        says("TURN: the place of the ROTA (0 .. 12), behind n WEEKS (0 .. 60), of several the least; -6 12 places there are");
        due("a ROTA of none", told("w009911;").turn(0, 60), 0);
        due("n 0", told("w009911;r9;r9;").turn(0, 0), 0);
        due("n 1", told("w009911;r9;r9;").turn(0, 1), 0);
        // GRIEF stays 99 until her turn: on her day at the last place it is 84 behind it
        due("the last of eleven", told("w009910;" + "r9;".repeat(10)).turn(0, 11), 10);
        OnePortrait x = told("w009911;" + "r9;".repeat(11));
        due("the last of twelve", x.turn(0, 12), 11);
        due("one WEEK before it, the latest turn", x.turn(0, 11), 10);
        due("all alike", told("w005006;" + "r0;".repeat(11)).turn(0, 60), 0);
        due("nothing changes", x.count(2), 11);
        tell(x, "r9;");
        due("a thirteenth", x.turn(0, 12), -6);
    }

    private static void swap() {
        says("SWAP: the two places of the ROTA, changed now, less than now, of several the first; -9");
        due("a ROTA of none", told("w009911;").swap(60), -9);
        due("one place", told("w009911;r0;").swap(60), -9);
        due("two, n 0", told("w004006;r9;r0;").swap(0), -9);
        due("two, n 1", told("w004006;r9;r0;").swap(1), 1);
        due("as much is not less", told("w004006;r9;r0;").swap(2), -9);
        // 99 stays 99: as it is 94 and 95, changed 99 and 94
        due("1 less", told("w009906;r0;r9;").swap(2), 1);
        due("1 more", told("w009906;r9;r0;").swap(2), -9);
        due("twice the same", told("w004006;r0;r0;").swap(1), -9);
        due("of several the first", told("w004006;r9;r9;r0;r0;r0;").swap(1), 2);
        due("of several the first", told("w004006;r9;r0;r9;r9;r9;").swap(1), 1);
        due("the last two of twelve", told("w009911;" + "r9;".repeat(10) + "r0;r9;").swap(12), 1011);
        due("the first and the last", told("w009900;" + "r9;".repeat(11) + "r0;").swap(1), 11);
    }

    private static void leave() {
        says("LEAVE: SEEN most behind n WEEKS, more than else, of several the least; -9");
        due("nobody", told("r9;").leave(5), -9);
        due("no turn", told("w005006;r9;").leave(60), -9);
        due("n 0", told("w005006;r0;").leave(0), -9);
        due("n 1", told("w005006;r0;").leave(1), 0);
        // EYE 2 more, BEARD and BLUE 1 less each: as much; at 98 EYE is but 1 more
        due("as much", told("w400006;r0;m097;").leave(1), -9);
        due("1 more", told("w400006;r0;m098;").leave(1), 0);
        due("both alike", told("w005006;w005006;r0;r1;").leave(2), 0);
        due("the second twice", told("w005006;w005006;r1;r0;r1;").leave(3), 1);
        due("the seventh", told("w000000;".repeat(7) + "r9;r6;").leave(2), 6);
        due("all her places", told("w000000;w500000;r0;r1;r0;r0;").leave(4), 0);
    }

    private static void mend() {
        says("MEND: SEEN 90 now, less than else, of several the least; -9");
        due("n 0", told("w005006;r0;m000;").mend(0), -9);
        due("EYE 80: as much", told("w005006;r0;m080;").mend(1), -9);
        due("EYE 79: 1 less", told("w005006;r0;m079;").mend(1), 0);
        due("EYE 99: as much", told("w005006;r0;m099;").mend(1), -9);
        due("BEARD 89", told("w205006;r0;m189;").mend(1), 1);
        due("BLUE", told("w105006;r0;m200;").mend(60), -9);
        // a widow, then a smoker, whom BEARD, 1 less then, comforts 7; 8 if it is mended
        due("1 less each", told("w005006;w205006;r0;r1;m079;m180;").mend(2), 0);
        due("2 less by BEARD", told("w005006;w205006;r0;r1;m079;m170;").mend(2), 1);
        due("nobody", told("m000;r9;").mend(60), -9);
    }

    private static void lasts() {
        says("LASTS: how many WEEKS (0 .. 60) all three PARTS are SEEN v (0 .. 99) or more (at the end of them)");
        OnePortrait x = told("w005006;r0;");
        int[] v = {0, 1, 29, 30, 31, 88, 89, 90, 98, 99};
        int[] want = {60, 60, 60, 60, 59, 2, 1, 0, 0, 0};
        for (int i = 0; i < v.length; i++) {
            due("lasts(" + v[i] + ")", x.lasts(v[i]), want[i]);
        }
        OnePortrait y = told("m099;m199;m299;");
        due("lasts(99), all 99", y.lasts(99), 60);
        y.mends(2, 98);
        due("lasts(99), BLUE 98", y.lasts(99), 0);
        due("lasts(98), BLUE 98", y.lasts(98), 60);
        due("lasts(0) of SEEN 0", told("w005006;r0;m000;m100;m200;").lasts(0), 60);
        due("lasts(1) of EYE 1", told("w005006;r0;m001;").lasts(1), 0);
        // EYE 10 now, 12, 14, .. at the ends; BEARD and BLUE 30 behind 60 WEEKS
        OnePortrait z = told("w400006;r0;m010;");
        due("lasts(12)", z.lasts(12), 60);
        due("lasts(13)", z.lasts(13), 0);
        due("lasts(11)", z.lasts(11), 60);
    }

    private static void carry() {
        says("CARRY: in the next n WEEKS (1 .. 60); the chapel is past the last house (7)");
        OnePortrait x = told("w000000;".repeat(7));
        tell(x, "r6;r9;");
        int[] n = {1, 2, 59, 60};
        for (int i : n) {
            due("the seventh house and the chapel, carry(" + i + ")", x.carry(i), i);
        }
        tell(x, "x;r0;r9;");
        for (int i : n) {
            due("the first house and the chapel, carry(" + i + ")", x.carry(i), 7 * i);
        }
        tell(x, "x;r0;r6;r6;");
        due("carry(1)", x.carry(1), 6);
        due("carry(2)", x.carry(2), 6);
        due("carry(3), past the end of the ROTA", x.carry(3), 12);
        tell(x, "x;");
        due("a ROTA of none", x.carry(60), 0);
        tell(x, "r3;");
        due("always hers", x.carry(60), 0);
    }

    private static void bestRota() {
        says("BEST ROTA: the WIDOW whose DAY it is, of several her of most GRIEF, then the least; nobody's: 9");
        OnePortrait x = told("w005000;w005000;w005011;w000010;");
        due("bestRota(0), as much", x.bestRota(0), 0);
        due("bestRota(-1)", x.bestRota(-1), 1);
        x.grieves(1, 51);
        due("bestRota(0), 1 more", x.bestRota(0), 1);
        due("bestRota(-1), the other is not met", x.bestRota(-1), 1);
        due("bestRota(1)", x.bestRota(1), 9);
        due("bestRota(10), GRIEF 0", x.bestRota(10), 3);
        due("bestRota(11)", x.bestRota(11), 2);
        says("how many DAYS of WIDOWS are not met by it");
        due("nobody", new OnePortrait().bestRota(-1), 0);
        due("one", told("w000011;").bestRota(-1), 0);
        due("seven on one", told("w000011;".repeat(7)).bestRota(-1), 6);
        due("seven apart", told("w000000;w000001;w000002;w000003;w000004;w000010;w000011;").bestRota(-1), 0);
    }

    private static void whoHad() {
        says("WHO HAD HIM: a ROW tells SEEN of a PART behind 0, 1, .. WEEKS (1 place: she alone)");
        OnePortrait x = told("w005006;w465006;w565006;");
        due("a ROW of none", x.whoHad(0), 7);
        row(x, 90);
        due("as now", x.whoHad(0), 7);
        row(x, 91);
        due("not as now", x.whoHad(0), 0);
        row(x, 90, 89, 88, 87, 86, 85, 84, 83, 82, 81, 80, 79);
        due("twelve numbers", x.whoHad(0), 1);
        due("BEARD", x.whoHad(1), 1 + 2);
        row(x, 90, 89, 88, 87, 86, 85, 84, 83, 82, 81, 80, 78);
        due("the twelfth is not so", x.whoHad(0), 0);
        tell(x, "m001;m101;");
        row(x, 1, 0, 0);
        due("0 at least", x.whoHad(0), 1 + 4);
        due("BEARD, 0 at least", x.whoHad(1), 7);
        tell(x, "m096;");
        row(x, 96, 98, 99, 99);
        due("99 at most", x.whoHad(0), 2);
        due("nobody", new OnePortrait().whoHad(2), 0);
        OnePortrait y = told("w000000;".repeat(7));
        row(y, 90, 89);
        due("seven", y.whoHad(2), 127);
        tell(y, "r9;r9;");
        due("whatever the ROTA is", y.whoHad(2), 127);
        row(y, 90, 89, 88, 87);
        due("at all places", y.whoHad(2), 127);
        row(y, 90, 89, 89);
        due("at the first alone", y.whoHad(2), 0);
    }

    private static void whatKind() {
        says("WHAT KIND: the ROTA as it is: KINDS (bits) of one; FIGURES (bits 0 .. 9)");
        OnePortrait x = told("w205006;r0;");
        due("a ROW of none", x.whatKind(0, 1, 0), 63);
        due("a ROW of none", x.whatKind(0, 1, 1), 1023);
        row(x, 90, 89);
        due("figures 0 and 1", x.whatKind(0, 1, 1), 1 + 2);
        due("all but the betrothed", x.whatKind(0, 1, 0), 31);
        row(x, 90, 85);
        due("figures 8 and 9", x.whatKind(0, 1, 1), 256 + 512);
        due("no kind of figure 0", x.whatKind(0, 1, 0), 0);
        row(x, 90, 84);
        due("no figure", x.whatKind(0, 1, 1), 0);
        row(x, 90, 88);
        due("the betrothed", x.whatKind(0, 1, 0), 32);
        OnePortrait y = told("w005006;w005006;r1;r0;");
        row(y, 90, 89);
        due("his first WEEK is another's", y.whatKind(0, 0, 0), 63);
        row(y, 90, 89, 91);
        due("a slapper in the second", y.whatKind(0, 0, 0), 16);
        due("it is she who is asked of", y.whatKind(1, 0, 0), 0);
    }

    private static void two() {
        says("TWO: her GRIEF least, as if 3 less, if she sends him on: by which neither has it better");
        // the first alone has turns: kept, FIGURE less; sent on, 1 more and 3 less. The other always sends.
        for (int figure = 0; figure <= 9; figure++) {
            due("comfort " + figure, told("w4" + figure + "5006;w005006;r0;").two(0, 1, 1), figure < 2 ? 11 : 1);
            due("comfort " + figure, told("w4" + figure + "5006;w005006;r0;").two(1, 0, 1), figure < 2 ? 11 : 10);
        }
        // kept 0; sent on GRIEF 1 more and 3 less: as much at 2
        due("GRIEF 1", told("w490106;w005006;r0;").two(0, 1, 1), 11);
        due("GRIEF 2", told("w490206;w005006;r0;").two(0, 1, 1), 1);
        due("GRIEF 3", told("w490306;w005006;r0;").two(0, 1, 1), 1);
        // 99 at most: kept 99 less FIGURE, sent on 96
        due("GRIEF 99, comfort 2", told("w429906;w005006;r0;").two(0, 1, 1), 11);
        due("GRIEF 99, comfort 3", told("w439906;w005006;r0;").two(0, 1, 1), 1);
        due("n 0", told("w495006;w005006;r0;").two(0, 1, 0), 11);
        due("n 60", told("w495006;w495006;r0;r1;").two(0, 1, 60), 0);
        // in the second WEEK EYE 20 comforts the first 2: kept 49, as sent on; EYE 19 but 1. The other, comforted 0, sends
        due("EYE 21", told("w005006;w205006;r1;r0;m021;m100;").two(0, 1, 2), 1);
        due("EYE 20, as it was", told("w005006;w205006;r1;r0;m020;m100;").two(0, 1, 2), 1);
        due("EYE 19", told("w005006;w205006;r1;r0;m019;m100;").two(0, 1, 2), 11);
        // the other, comforted 19, keeps: EYE is 2 more by her
        due("EYE 20 by the other", told("w005006;w495000;r1;r0;m018;").two(0, 1, 2), 0);
        due("EYE 19 by the other", told("w005006;w495000;r1;r0;m017;").two(0, 1, 2), 10);
        due("no turn of either", told("w495006;w495006;r9;").two(0, 1, 60), 11);
    }

    private static void gales(OnePortrait x, int n, int t, int v, long above, long below) {
        due("gales(0, " + n + ", " + t + ", " + v + ", 0)", x.gales(0, n, t, v, 0), above);
        due("gales(0, " + n + ", " + t + ", " + v + ", 1)", x.gales(0, n, t, v, 1), below);
    }

    private static void gales() {
        says("GALES: in each of n WEEKS (0 .. 7), odds 1 in t (2 .. 20): GRIEF of one is v (0 .. 99) or less");
        // calm: 5 less; a gale: 1 more
        OnePortrait x = told("w005006;r0;");
        gales(x, 0, 20, 50, 1, 1);
        gales(x, 0, 20, 49, 0, 1);
        gales(x, 1, 2, 44, 0, 1);
        gales(x, 1, 2, 45, 1, 2);
        gales(x, 1, 2, 46, 1, 2);
        gales(x, 1, 2, 50, 1, 2);
        gales(x, 1, 2, 51, 1, 1);
        gales(x, 1, 3, 45, 2, 3);
        gales(x, 1, 19, 45, 18, 19);
        gales(x, 1, 20, 45, 19, 20);
        // the seventh WEEK is her day: 15 less, or 1 more; EYE 90 .. 84 comforts 5
        gales(x, 6, 2, 19, 0, 1);
        gales(x, 6, 2, 20, 1, 64);
        gales(x, 6, 2, 25, 1, 64);
        gales(x, 6, 2, 26, 7, 64);
        gales(x, 7, 2, 4, 0, 1);
        gales(x, 7, 2, 5, 1, 128);
        gales(x, 7, 2, 56, 127, 128);
        gales(x, 7, 2, 57, 1, 1);
        gales(x, 7, 20, 5, 893871739L, 1280000000L);
        gales(x, 7, 20, 56, 1279999999L, 1280000000L);
        gales(x, 7, 20, 57, 1, 1);
        gales(x, 7, 20, 99, 1, 1);
        gales(x, 7, 20, 0, 0, 1);
        gales(told("w000006;r0;"), 0, 2, 0, 1, 1);
        gales(told("w009906;r9;"), 7, 2, 99, 1, 1);
        gales(told("w009906;r9;"), 7, 2, 98, 0, 1);
    }

    private static int drawn(int z) {
        return (int) (z * 1103515245L + 12345);
    }

    private static void lots() {
        says("LOTS with a seed z: n years (1 .. 20), each from now; z times 1103515245 plus 12345 (an int, wrapping)");
        int[] seeds = {0, 1, 2, -1, -2, 12345, 1 << 30, Integer.MAX_VALUE, Integer.MAX_VALUE - 1, Integer.MIN_VALUE,
            Integer.MIN_VALUE + 1};
        String widows = "w195000;w245003;w300006;";
        for (int seed : seeds) {
            int z = seed;
            int grief = 0;
            int met = 0;
            for (int year = 1; year <= 20; year++) {
                OnePortrait drawn = told(widows);
                for (int place = 0; place < 5; place++) {
                    z = drawn(z);
                    drawn.puts(place, (z & Integer.MAX_VALUE) / 65536 % 3);
                }
                grief += drawn.then(12, 1);
                met += drawn.widowIn(0, 12, 1) + drawn.widowIn(1, 12, 1) + drawn.widowIn(2, 12, 1);
                OnePortrait x = told(widows + "r9;r9;r9;r9;r9;");
                due("lots(" + year + ", " + seed + ", 0)", x.lots(year, seed, 0), grief);
                due("lots(" + year + ", " + seed + ", 1)", x.lots(year, seed, 1), met);
            }
        }
        due("a ROTA of none", told("w005000;").lots(20, 5, 0), 20 * 62);
        due("MET more, not MET", toldAt(60, "w000000;r0;", "x;r9;").lots(20, 5, 1), 20);
    }

    // ---- III and IV ----

    private static void takenBack() {
        says("TAKEN BACK, the latest first, 8 at most (older ones no more)");
        for (int changes = 1; changes <= 20; changes++) {
            OnePortrait x = new OnePortrait();
            for (int v = 1; v <= changes; v++) {
                x.mends(1, v);
            }
            int held = Math.min(8, changes);
            due("count(8) of " + changes, x.count(8), held);
            for (int left = held - 1; left >= 0; left--) {
                due("back() of " + changes, x.back(), left);
                int was = changes - held + left;
                due("beard", x.seen(1), was == 0 ? 90 : was);
            }
            due("back() of none", x.back(), -3);
            due("beard stays", x.seen(1), changes <= 8 ? 90 : changes - 8);
        }
        OnePortrait y = new OnePortrait();
        for (int i = 0; i < 30; i++) {
            y.mends(0, 10 + i);
            y.mends(0, 50 + i);
            due("back() between", y.back(), Math.min(7, i + 1));
            due("eye", y.seen(0), 10 + i);
        }
        says("each that is not refused counts, also if all stays as it was");
        OnePortrait x = told("w005006;r0;");
        x.mends(0, 90);
        x.grieves(0, 50);
        x.puts(0, 0);
        due("three", x.count(8), 3);
        x.mends(0, 100);
        x.grieves(1, 50);
        x.puts(2, 0);
        x.weeks(0);
        due("refused ones not", x.count(8), 3);
        says("widow(), a STREET without FAULT, restore(), where they are not refused, leave none");
        x.widow(6, 0, 0, 0);
        tell(x, "x;r1;");
        tell(x, "");
        x.restore();
        x.image();
        due("those refused leave all", x.count(8), 3);
        x.restore();
        due("a restore", x.back(), -3);
        x.weeks(1);
        x.widow(0, 0, 0, 0);
        due("a widow", x.back(), -3);
        x.weeks(1);
        tell(x, "m050;");
        due("a STREET", x.back(), -3);
        due("two WEEKS stay", x.count(1), 2);
    }

    private static void worst() {
        says("WORST: the WIDOW of most GRIEF, of several the least; -9");
        due("nobody", new OnePortrait().worst(0), -9);
        OnePortrait x = told("w000000;".repeat(7));
        due("all 0", x.worst(0), 0);
        x.grieves(6, 1);
        due("1 more", x.worst(0), 6);
        x.grieves(3, 1);
        due("as much", x.worst(0), 3);
        says("NEVER: WIDOWS (bits) without a turn");
        due("all seven", x.worst(1), 127);
        tell(x, "r0;r6;r9;");
        due("but the first and the last", x.worst(1), 62);
        tell(x, "r1;r2;r3;r4;r5;");
        due("none", x.worst(1), 0);
        due("nobody", new OnePortrait().worst(1), 0);
        says("SAME: how many twos of WIDOWS have one DAY");
        due("seven on one", x.worst(2), 21);
        due("none", told("w000000;w000001;w000011;").worst(2), 0);
        due("two", told("w000011;w000001;w000011;").worst(2), 1);
        due("one", told("w000011;").worst(2), 0);
        due("nobody", new OnePortrait().worst(2), 0);
        says("TURNS of one in the ROTA");
        due("one", x.widowOf(0, 6), 1);
        due("twelve", told("w000000;" + "r0;".repeat(12)).widowOf(0, 6), 12);
        due("none", told("w000000;r9;").widowOf(0, 6), 0);
    }

    private static void mean(String text, long above, long below) {
        due("mean(0) of " + text, told(text).mean(0), above);
        due("mean(1) of " + text, told(text).mean(1), below);
    }

    private static void means() {
        says("MEAN GRIEF: a fraction (0 over 1 of nobody), in lowest terms; 0 as 0 over 1");
        mean("x;", 0, 1);
        mean("w000000;", 0, 1);
        mean("w000000;".repeat(7), 0, 1);
        mean("w000100;", 1, 1);
        mean("w000100;" + "w000000;".repeat(6), 1, 7);
        mean("w000200;w000000;", 1, 1);
        mean("w000200;w000000;w000000;w000000;", 1, 2);
        mean("w000300;w000000;", 3, 2);
        mean("w009900;".repeat(7), 99, 1);
        mean("w009800;" + "w009900;".repeat(6), 692, 7);
    }

    private static void faces() {
        says("FACE of him: SEEN of all PARTS together; CLEAREST, of several the least");
        due("face(0)", told("m000;m100;m200;").face(0), 0);
        due("face(0)", told("m099;m199;m299;").face(0), 297);
        due("face(1)", told("m000;m100;m200;").face(1), 0);
        due("face(1)", told("m098;m199;m299;").face(1), 1);
        due("face(1)", told("m098;m198;m299;").face(1), 2);
        due("face(1)", told("m099;m198;m299;").face(1), 0);
    }

    private static void next() {
        says("NEXT: in how many WEEKS (0 .. 60) one has him next; -9");
        OnePortrait x = told("w000000;w000000;w000000;r0;" + "r9;".repeat(10) + "r1;");
        due("now", x.next(0), 0);
        due("the last place", x.next(1), 11);
        due("no place", x.next(2), -9);
        x.weeks(1);
        due("the first place again", x.next(0), 11);
        due("the last place", x.next(1), 10);
        x.weeks(10);
        due("the last place", x.next(1), 0);
        due("the first place", x.next(0), 1);
        due("a ROTA of none", told("w000000;").next(0), -9);
        says("GAP: the longest run of WEEKS, of the next 60, in which one has him not");
        due("gap", x.gap(0), 11);
        due("no place", x.gap(2), 60);
        due("a ROTA of none", told("w000000;").gap(0), 60);
        due("always hers", told("w000000;r0;").gap(0), 0);
        due("every second", told("w000000;r0;r9;").gap(0), 1);
        due("past 999", toldAt(999, "w000000;", "r0;r9;r9;").gap(0), 2);
    }

    private static void eased() {
        says("EASED: by how much less one's GRIEF is behind n WEEKS than now (may be below 0)");
        due("1 more", told("w000006;").eased(0, 1), -1);
        due("60 more", told("w000006;").eased(0, 60), -60);
        due("GRIEF 98", told("w009806;").eased(0, 60), -1);
        due("GRIEF 99", told("w009906;").eased(0, 60), 0);
        due("n 0", told("w005006;r0;").eased(0, 0), 0);
        due("n 1", told("w005006;r0;").eased(0, 1), 5);
        due("GRIEF 4", told("w000406;r0;").eased(0, 1), 4);
        due("GRIEF 0", told("w000006;r0;").eased(0, 1), 0);
        due("all of it", told("w199900;r0;").eased(0, 60), 99);
    }

    private static void sundays() {
        says("SUNDAYS: how many of the next n WEEKS (0 .. 60) he is in the chapel");
        for (int n : new int[] {0, 1, 2, 59, 60}) {
            due("a ROTA of none", new OnePortrait().sundays(n), n);
            due("nobody's", told("r9;").sundays(n), n);
            due("hers", told("w000000;r0;").sundays(n), 0);
            due("every second", told("w000000;r0;r9;").sundays(n), n / 2);
        }
        says("KEPT: the WIDOW with him most of the next 60 WEEKS, of several the least; -9 he is with none");
        due("nobody", new OnePortrait().kept(), -9);
        due("a ROTA of none", told("w000000;").kept(), -9);
        due("nobody's", told("w000000;r9;").kept(), -9);
        due("as often", told("w000000;w000000;r1;r0;").kept(), 0);
        due("twice as often", told("w000000;w000000;r1;r0;r1;").kept(), 1);
        due("the chapel more often", told("w000000;w000000;r1;r9;r9;r9;").kept(), 1);
        due("the seventh", told("w000000;".repeat(7) + "r6;").kept(), 6);
    }

    private static void theRow() {
        says("A ROW of numbers (0 .. 99; 12 at most)");
        OnePortrait x = told("w000000;w009900;");
        due("row(-1)", x.row(-1), -4);
        due("row(100)", x.row(100), -6);
        due("row(0)", x.row(0), 1);
        due("row(99)", x.row(99), 2);
        due("judge()", x.judge(), -9);
        for (int i = 1; i <= 12; i++) {
            due("row(0)", x.row(0), i);
        }
        due("a thirteenth", x.row(0), -6);
        due("count(7)", x.count(7), 12);
        due("clear()", x.clear(), 12);
        due("clear()", x.clear(), 0);
        due("count(7)", x.count(7), 0);
        says("JUDGED: GRIEF of WIDOWS 0, 1, ..: the first that is not so (none there, too); -9");
        due("a ROW of none", x.judge(), -9);
        row(x, 0);
        due("the first alone", x.judge(), -9);
        row(x, 1);
        due("1 more", x.judge(), 0);
        row(x, 0, 98);
        due("1 less", x.judge(), 1);
        due("the ROW has none then", x.count(7), 0);
        row(x, 0, 99, 0);
        due("none there", x.judge(), 2);
        due("the ROW has none then", x.count(7), 0);
        row(x, 0, 98, 0);
        due("the first of two", x.judge(), 1);
        OnePortrait y = told("w000100;".repeat(7));
        row(y, 1, 1, 1, 1, 1, 1, 1);
        due("seven", y.judge(), -9);
        row(y, 1, 1, 1, 1, 1, 1, 2);
        due("the seventh", y.judge(), 6);
        row(y, 1, 1, 1, 1, 1, 1, 1, 1, 1, 1, 1, 1);
        due("an eighth", y.judge(), 7);
        OnePortrait z = new OnePortrait();
        row(z, 0);
        due("nobody", z.judge(), 0);
    }

    private static void image() {
        says("THE IMAGE: all that there is of I, but it, letters, the ROW, REFUSALS; -3 there is none");
        OnePortrait x = new OnePortrait();
        due("none", x.restore(), -3);
        due("of a new one", x.image(), 0);
        tell(x, "w255007;r0;m010;k08;");
        due("RESTORED", x.restore(), 0);
        due("widows", x.count(0), 0);
        due("places", x.count(2), 0);
        due("eye", x.seen(0), 90);
        OnePortrait y = toldAt(999, "w255007;w100003;", "r0;r9;r1;m012;");
        due("of WEEK 999", y.image(), 999);
        y.mends(0, 1);
        y.grieves(0, 1);
        y.puts(0, 1);
        y.puts(3, 1);
        y.feed('x');
        y.row(5);
        y.widowOf(5, 0);
        y.widow(0, 0, 0, 0);
        due("RESTORED", y.restore(), 999);
        int[] want = {2, 999, 3, 0, 198, 0, 1, 1, 0};
        for (int what = 0; what < want.length; what++) {
            due("count(" + what + ")", y.count(what), want[what]);
        }
        due("eye", y.seen(0), 12);
        due("place 0", y.rota(0), 0);
        due("REFUSALS stay", y.count(11), 1);
        due("it is there still", y.restore(), 999);
        due("weeks(1)", y.weeks(1), -6);
    }

    private static void counts() {
        says("count: 0 .. 8, 11 .. 16 REFUSALS -1 .. -6; -9 for another what");
        OnePortrait x = new OnePortrait();
        x.rota(0);
        for (int i = 0; i < 2; i++) {
            x.seen(3);
        }
        for (int i = 0; i < 3; i++) {
            x.back();
        }
        for (int i = 0; i < 4; i++) {
            x.weeks(0);
        }
        for (int i = 0; i < 6; i++) {
            x.weeks(61);
        }
        int[] want = {-9, 0, 0, 0, 9, 0, 0, 0, 0, 0, -9, -9, 1, 2, 3, 4, 0, 6, -9};
        for (int what = -1; what <= 17; what++) {
            due("count(" + what + ")", x.count(what), want[what + 1]);
        }
        due("count(min)", x.count(Integer.MIN_VALUE), -9);
        due("count(max)", x.count(Integer.MAX_VALUE), -9);
        due("count(min + 10)", x.count(Integer.MIN_VALUE + 10), -9);
        due("-9 is no refusal", x.count(16), 6);
        says("at most 512 calls: the dearest of them, up to the last");
        OnePortrait y = told("w176003;w354001;w489908;w208011;w599900;w009905;w195004;");
        tell(y, "r0;r1;r2;r3;r4;r5;r6;r0;r1;r2;r3;r4;");
        int first = y.swap(60);
        // ahead of it 92 letters, two streets and it itself
        for (int call = 96; call <= 511; call++) {
            due("swap(60)", y.swap(60), first);
        }
        due("the 512th call", y.count(1), 0);
    }

    public static void main(String[] args) {
        widows();
        metMost();
        firstOfAll();
        twelvePlaces();
        weeksByTheRota();
        days();
        wearsCut();
        comfortsCut();
        oneWeek();
        metOnHerDay();
        weekNumbers();
        letters();
        atLeastOneStatement();
        statementsByLetters();
        digits();
        faultsOfTheSecondKind();
        inMind();
        gone();
        dayMet();
        like();
        turn();
        swap();
        leave();
        mend();
        lasts();
        carry();
        bestRota();
        whoHad();
        whatKind();
        two();
        gales();
        lots();
        takenBack();
        worst();
        means();
        faces();
        next();
        eased();
        sundays();
        theRow();
        image();
        counts();
        System.out.println(wrong == 0 ? "all answers are as due" : wrong + " answers are not as due");
        if (wrong != 0) {
            System.exit(1);
        }
    }
}
