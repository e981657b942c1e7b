/** Each promise of the document, by answers that were worked out by hand. */
public final class PromiseTest {
    private static final int BAD = FrankPost.BAD, STATE = FrankPost.STATE, FULL = FrankPost.FULL, NONE = FrankPost.NONE;
    private static final int LEAST = Integer.MIN_VALUE, MOST = Integer.MAX_VALUE;
    private static int wrong = 0;
    private static int promise = 0;

    private static void due(String call, long got, long want) {
        if (got != want) {
            wrong++;
            System.out.println("promise " + promise + ": " + call + " answered " + got + ", due is " + want);
        }
    }

    private static void feed(FrankPost x, String s) {
        for (int j = 0; j < s.length(); j++) x.feed(s.charAt(j));
    }

    private static FrankPost told(String s) {
        FrankPost x = new FrankPost();
        feed(x, s);
        int lines = x.text();
        if (lines < 0) due("text of '" + s + "'", lines, 0);
        return x;
    }

    /** All that can be asked of what there is, so that a refused call can be seen to change nothing. */
    private static String all(FrankPost x) {
        StringBuilder b = new StringBuilder();
        for (int j = 0; j <= 6; j++) b.append(x.rule(j)).append(' ');
        for (int p = 0; p < 5; p++) for (int j = 0; j <= 3; j++) b.append(x.one(p, j)).append(' ');
        for (int i = 0; i < 6; i++) for (int j = 0; j <= 5; j++) b.append(x.letter(i, j)).append(' ');
        for (int j = 0; j <= 5; j++) b.append(x.count(j)).append(' ');
        return b.append(x.torn()).append(' ').append(x.fault()).toString();
    }

    private static void same(String call, FrankPost x, String before) {
        due(call + " changes nothing", all(x).equals(before) ? 1 : 0, 1);
    }

    private static void newObject() {
        promise = 1;
        FrankPost x = new FrankPost();
        int[] rules = {0, 0, 0, 2, 0, 0, 0};
        for (int j = 0; j < rules.length; j++) due("rule(" + j + ")", x.rule(j), rules[j]);
        int[] counts = {0, 0, 0, NONE, 0, 0};
        for (int j = 0; j < counts.length; j++) due("count(" + j + ")", x.count(j), counts[j]);
        due("fault()", x.fault(), 0);
        due("torn()", x.torn(), 0);
        for (int k = 0; k < 4; k++) due("lay(" + k + ")", x.lay(k, 0, 0), -11);
        due("back(0)", x.back(0), STATE);
        due("back(1)", x.back(1), STATE);
        due("one(0, 0)", x.one(0, 0), BAD);
        due("letter(0, 0)", x.letter(0, 0), BAD);
        due("days(30)", x.days(30), 0);
        due("rule(2)", x.rule(2), 30);
    }

    private static void tape() {
        promise = 2;
        FrankPost x = new FrankPost();
        for (int c : new int[] {-1, 128, LEAST, MOST}) due("feed(" + c + ")", x.feed(c), BAD);
        due("feed(0)", x.feed(0), 1);
        due("feed(127)", x.feed(127), 2);
        for (int n = 3; n <= 160; n++) due("feed(32)", x.feed(32), n);
        due("feed(32)", x.feed(32), FULL);
        due("feed(128)", x.feed(128), BAD);
        due("count(2)", x.count(2), 160);
        promise = 3;
        due("end(161)", x.end(161), BAD);
        due("end(-1)", x.end(-1), BAD);
        due("end(160)", x.end(160), 160);
        due("end(7)", x.end(7), 160);
        due("end(8)", x.end(8), BAD);
        due("end(0)", x.end(0), 7);
        due("end(0)", x.end(0), 0);
        feed(x, "pace 3;pace");
        due("end(7)", x.end(7), 11);
        due("text()", x.text(), 1);
        due("rule(3)", x.rule(3), 3);
        // What was behind the end is not read, not even by a token that would go on there.
        feed(x, "pace 33;");
        x.end(6);
        due("text() of 'pace 3'", x.text(), -16);
        due("fault()", x.fault(), 2);
        feed(x, "pace    3;");
        x.end(5);
        due("text() of 'pace '", x.text(), -15);
        feed(x, "paces");
        x.end(4);
        due("text() of 'pace'", x.text(), -14);
        due("fault()", x.fault(), 2);
    }

    private static void text(String s, int answer, int fault) {
        FrankPost x = told("plain 3 4;sly 5 6;letter 1 0 1 7;pace 4;");
        x.see(1, 0, 4);
        x.keep(1);
        x.days(1);
        String before = all(x);
        feed(x, s);
        promise = 4;
        due("text() of '" + s + "'", x.text(), answer);
        due("count(2) behind '" + s + "'", x.count(2), 0);
        if (answer < 0) {
            String behind = all(x);
            due("'" + s + "' leaves all", behind.substring(0, behind.lastIndexOf(' ')).equals(before.substring(0, before.lastIndexOf(' '))) ? 1 : 0, 1);
            due("back(1) behind '" + s + "'", x.back(1), 0);
        }
        promise = 5;
        due("fault() of '" + s + "'", x.fault(), fault);
        x.text();
        due("fault() of nothing", x.fault(), 0);
    }

    private static void texts() {
        text("", 0, 0);
        text("   ", 0, 0);
        text("plain0 0;", 1, 0);
        text(" plain  09  20 ; ", 1, 0);
        text("plain 0 0;proud 1 1;kind 2 2;sly 3 3;letter 0 1 2 3;pace 1;", 6, 0);
        text("letter 1 0 1 3;plain 3 4;sly 5 4;", 3, 0);
        text("plain 0 0;".repeat(5), 5, 0);
        text("plain 0 0;" + "letter 0 0 0 18;".repeat(6), 7, 0);
        text("sly 9 20;".repeat(5) + "letter 0 1 2 18;".repeat(6) + "pace 4;" + " ".repeat(12), 12, 0);
        // 1: what is no token, a number too long.
        text("Plain 0 0;", -10, 1);
        text("plain 0,0;", -17, 1);
        text("plain 0 0;\n", -20, 1);
        text("555", -10, 1);
        text("plain 1 020;", -18, 1);
        text("plain 001 20;", -16, 1);
        text("`", -10, 1);
        text("{", -10, 1);
        text("/", -10, 1);
        text(":", -10, 1);
        // 2: what can not stand there, the end too.
        text("plains 0 0;", -10, 2);
        text("plai 0 0;", -10, 2);
        text("blain 0 0;", -10, 2);
        text("race 1;", -10, 2);
        text("plaid 0 0;", -10, 2);
        text("; ", -10, 2);
        text("5", -10, 2);
        text("plain", -15, 2);
        text("plain  ", -17, 2);
        text("plain 1 2", -19, 2);
        text("plain 1;", -17, 2);
        text("plain 1 2 3;", -20, 2);
        text("plain 1 2;;", -20, 2);
        text("plain x 2;", -16, 2);
        text("pace ;", -15, 2);
        text("letter 0 0 0 ;", -23, 2);
        text("pace 3 plain 1 2;", -17, 2);
        text("pace 3;plain 1 2;PACE", -27, 1);
        text("pace 3;plain 1 2;paces", -27, 2);
        // 3: a number out of its bounds, met ahead of what comes behind it.
        text("plain 10 !", -16, 3);
        text("sly 9 21;", -16, 3);
        text("kind 99 1;", -15, 3);
        text("letter 5 0 0 0;", -17, 3);
        text("letter 0 5 0 0;", -19, 3);
        text("letter 0 0 5 0;", -21, 3);
        text("letter 0 0 0 19;", -23, 3);
        text("pace 0;", -15, 3);
        text("pace 05;", -15, 3);
        // 4 and 5: by the name, ahead of what comes behind it.
        text("pace 1;pace !", -17, 4);
        text("pace 1;pace 2;", -17, 4);
        text("sly 0 0;".repeat(5) + "sly 99", -50, 5);
        text("sly 0 0;".repeat(5) + "plain", -50, 5);
        text("sly 0 0;" + "letter 0 0 0 0;".repeat(6) + "letter", -108, 5);
        // 6: behind all.
        text("plain 0 0;letter 1 0 0 0;", -35, 6);
        text("plain 0 0;letter 0 1 0 0; ", -36, 6);
        text("plain 0 0;letter 0 0 1 0;", -35, 6);
        text("letter 4 4 4 0;" + "sly 0 0;".repeat(4), -57, 6);
        text("plain 0 0;letter 1 0 0 0;!", -35, 1);
        promise = 4;
        FrankPost x = told("plain 1 2;letter 0 0 0 9;pace 4;");
        x.days(3);
        x.see(0, 0, 2);
        x.keep(0);
        x.sheet(0, 1, 5);
        feed(x, "letter 1 0 1 3;plain 3 4;sly 5 6;");
        due("text()", x.text(), 3);
        int[] rules = {2, 1, 0, 2, 10, 0, 0};
        for (int j = 0; j < rules.length; j++) due("rule(" + j + ")", x.rule(j), rules[j]);
        int[] letter = {1, 0, 1, 3, 5, 0};
        for (int j = 0; j < letter.length; j++) due("letter(0, " + j + ")", x.letter(0, j), letter[j]);
        int[] counts = {0, 0, 0, 5, 3, 8};
        for (int j = 0; j < counts.length; j++) due("count(" + j + ")", x.count(j), counts[j]);
        due("one(1, 0)", x.one(1, 0), 3);
        due("back(0)", x.back(0), STATE);
    }

    private static void asked() {
        FrankPost x = told("plain 1 2;proud 3 4;kind 5 6;sly 7 8;letter 0 1 2 9;letter 3 3 3 0;letter 1 1 1 8;pace 1;");
        promise = 6;
        due("rule(0)", x.rule(0), 4);
        due("rule(1)", x.rule(1), 3);
        due("rule(2)", x.rule(2), 0);
        due("rule(3)", x.rule(3), 1);
        due("rule(4)", x.rule(4), 20);
        due("rule(-1)", x.rule(-1), BAD);
        due("rule(7)", x.rule(7), BAD);
        promise = 7;
        for (int p = 0; p < 4; p++) {
            due("one(p, 0)", x.one(p, 0), p);
            due("one(p, 1)", x.one(p, 1), 1 + 2 * p);
            due("one(p, 2)", x.one(p, 2), 2 + 2 * p);
        }
        due("one(0, 3)", x.one(0, 3), 0);
        due("one(1, 3)", x.one(1, 3), 4);
        due("one(2, 3)", x.one(2, 3), 1);
        due("one(3, 3)", x.one(3, 3), 2);
        due("one(4, 0)", x.one(4, 0), BAD);
        due("one(-1, 0)", x.one(-1, 0), BAD);
        due("one(0, 4)", x.one(0, 4), BAD);
        due("one(0, -1)", x.one(0, -1), BAD);
        promise = 8;
        int[] first = {0, 1, 2, 9, 1, 0};
        for (int j = 0; j < 6; j++) due("letter(0, " + j + ")", x.letter(0, j), first[j]);
        due("letter(0, 6)", x.letter(0, 6), BAD);
        due("letter(0, -1)", x.letter(0, -1), BAD);
        due("letter(3, 0)", x.letter(3, 0), BAD);
        due("letter(-1, 0)", x.letter(-1, 0), BAD);
        promise = 9;
        int[][] feels = {{31, 36, 39, 40, 41, 49}, {22, 32, 38, 40, 42, 58}, {36, 38, 40, 40, 41, 49}, {37, 39, 41, 41, 42, 50}};
        int[] tones = {0, 5, 8, 9, 10, 18};
        for (int p = 0; p < 4; p++) for (int j = 0; j < 6; j++) due("feels(" + p + ", " + tones[j] + ")", x.feels(p, tones[j]), feels[p][j]);
        due("feels(2, 7)", x.feels(2, 7), 39);
        due("feels(0, 19)", x.feels(0, 19), BAD);
        due("feels(0, -1)", x.feels(0, -1), BAD);
        due("feels(4, 9)", x.feels(4, 9), BAD);
        due("feels(-1, 9)", x.feels(-1, 9), BAD);
        promise = 6;
        due("days(2)", x.days(2), 1);
        due("rule(5)", x.rule(5), 2);
        due("rule(6)", x.rule(6), 4);
        promise = 7;
        due("one(1, 3)", x.one(1, 3), 0);
        due("one(3, 3)", x.one(3, 3), 0);
        promise = 8;
        due("letter(0, 4)", x.letter(0, 4), 3);
        due("days(2)", x.days(2), 0);
        due("letter(0, 5)", x.letter(0, 5), 1);
        due("letter(0, 3)", x.letter(0, 3), 10);
        promise = 7;
        due("one(1, 3)", x.one(1, 3), 1);
        due("one(2, 3)", x.one(2, 3), 0);
    }

    private static void changes() {
        promise = 10;
        FrankPost x = told("plain 1 2;sly 3 4;letter 0 1 0 9;");
        String before = all(x);
        int[][] bad = {{2, 0, 0}, {-1, 0, 0}, {0, -1, 0}, {0, 3, 0}, {0, 0, 4}, {0, 0, -1}, {0, 1, 10}, {0, 1, -1}, {0, 2, 21}, {0, 2, -1}};
        for (int[] b : bad) due("alter(" + b[0] + ", " + b[1] + ", " + b[2] + ")", x.alter(b[0], b[1], b[2]), BAD);
        same("alter", x, before);
        due("alter(1, 0, 2)", x.alter(1, 0, 2), 3);
        due("alter(1, 0, 0)", x.alter(1, 0, 0), 2);
        due("alter(0, 1, 9)", x.alter(0, 1, 9), 1);
        due("alter(0, 2, 20)", x.alter(0, 2, 20), 2);
        due("one(1, 0)", x.one(1, 0), 0);
        due("one(0, 1)", x.one(0, 1), 9);
        due("one(0, 2)", x.one(0, 2), 20);
        due("letter(0, 4)", x.letter(0, 4), 1);
        promise = 11;
        due("tone(0, 18)", x.tone(0, 18), 9);
        due("tone(0, 19)", x.tone(0, 19), BAD);
        due("tone(0, -1)", x.tone(0, -1), BAD);
        due("tone(1, 0)", x.tone(1, 0), BAD);
        due("tone(-1, 0)", x.tone(-1, 0), BAD);
        due("letter(0, 3)", x.letter(0, 3), 18);
        FrankPost y = told("plain 0 10;letter 0 0 0 9;letter 0 0 0 0;");
        y.days(1);
        due("tone(0, 3) of leg 1", y.tone(0, 3), 9);
        due("tone(1, 3), kept", y.tone(1, 3), STATE);
        y.days(1);
        due("tone(0, 3), came", y.tone(0, 3), STATE);
        due("tone(0, 19), came", y.tone(0, 19), BAD);
        due("tone(0, -1), came", y.tone(0, -1), BAD);
        promise = 12;
        due("pace(0)", x.pace(0), BAD);
        due("pace(5)", x.pace(5), BAD);
        due("pace(4)", x.pace(4), 2);
        due("pace(1)", x.pace(1), 4);
        due("rule(3)", x.rule(3), 1);
        promise = 13;
        x.alter(1, 1, 6);
        before = all(x);
        int[][] none = {{2, 0, 0, 0}, {0, 2, 0, 0}, {0, 0, 2, 0}, {0, 0, 0, 19}, {-1, 0, 0, 0}, {0, -1, 0, 0}, {0, 0, -1, 0}, {0, 0, 0, -1}};
        for (int[] b : none) due("write, no such", x.write(b[0], b[1], b[2], b[3]), BAD);
        same("write", x, before);
        due("write(1, 0, 1, 18)", x.write(1, 0, 1, 18), 2);
        int[] letter = {1, 0, 1, 18, 6, 0};
        for (int j = 0; j < 6; j++) due("letter(1, " + j + ")", x.letter(1, j), letter[j]);
        for (int n = 3; n <= 6; n++) due("write", x.write(0, 0, 0, 0), n);
        due("write(0, 0, 0, 0)", x.write(0, 0, 0, 0), FULL);
        due("write(0, 0, 0, 19)", x.write(0, 0, 0, 19), BAD);
        promise = 14;
        due("burn(7)", x.burn(7), BAD);
        due("burn(-1)", x.burn(-1), BAD);
        due("burn(6)", x.burn(6), 6);
        due("burn(2)", x.burn(2), 6);
        due("letter(1, 3)", x.letter(1, 3), 18);
        due("letter(2, 3)", x.letter(2, 3), BAD);
        due("burn(3)", x.burn(3), BAD);
        due("burn(0)", x.burn(0), 2);
        due("rule(1)", x.rule(1), 0);
    }

    /** One who writes to himself about himself: mood and tone behind a day, leg then, mood behind two. */
    private static void reads(String kind, int mood, int tone, int[] want) {
        FrankPost x = told(kind + " 0 " + mood + ";letter 0 0 0 " + tone + ";");
        String call = kind + " of mood " + mood + " by " + tone;
        due(call + ", days(1)", x.days(1), 0);
        due(call + ", mood", x.one(0, 2), want[0]);
        due(call + ", tone", x.letter(0, 3), want[1]);
        due(call + ", leg", x.letter(0, 5), want[2]);
        due(call + ", days(1)", x.days(1), want[2] == 1 ? 1 : 0);
        due(call + ", mood in the end", x.one(0, 2), want[3]);
        due(call + ", leg in the end", x.letter(0, 5), want[2] == 1 ? 2 : 3);
    }

    private static void aDay() {
        promise = 15;
        reads("plain", 10, 6, new int[] {7, 6, 1, 6});
        reads("plain", 10, 5, new int[] {6, 5, 3, 6});
        reads("plain", 2, 6, new int[] {0, 6, 1, 0});
        reads("plain", 18, 14, new int[] {20, 14, 1, 20});
        reads("proud", 10, 9, new int[] {10, 9, 1, 10});
        reads("proud", 10, 8, new int[] {8, 8, 3, 8});
        reads("proud", 10, 11, new int[] {14, 11, 1, 16});
        reads("kind", 10, 0, new int[] {6, 1, 1, 4});
        reads("kind", 0, 18, new int[] {9, 18, 1, 13});
        reads("sly", 10, 0, new int[] {7, 2, 1, 6});
        reads("sly", 0, 17, new int[] {9, 18, 1, 14});
        reads("sly", 0, 18, new int[] {10, 18, 1, 15});
        FrankPost x = told("plain 0 5;plain 7 5;plain 9 5;letter 0 2 1 12;pace 3;");
        int[] at = {3, 6, 7, 9};
        int[] legs = {0, 0, 1, 2};
        for (int d = 0; d < 4; d++) {
            due("days(1)", x.days(1), d == 3 ? 1 : 0);
            due("letter(0, 4) behind " + (d + 1), x.letter(0, 4), at[d]);
            due("letter(0, 5) behind " + (d + 1), x.letter(0, 5), legs[d]);
        }
        due("one(1, 2)", x.one(1, 2), 8);
        due("one(2, 2)", x.one(2, 2), 6);
        FrankPost down = told("plain 9 5;plain 2 5;letter 0 0 1 12;pace 4;");
        down.days(1);
        due("letter(0, 4)", down.letter(0, 4), 5);
        down.days(1);
        due("letter(0, 4)", down.letter(0, 4), 2);
        due("letter(0, 5)", down.letter(0, 5), 1);
        FrankPost order = told("plain 0 20;letter 0 0 0 12;letter 0 0 0 6;");
        order.days(1);
        due("one(0, 2), more first", order.one(0, 2), 17);
        order = told("plain 0 20;letter 0 0 0 6;letter 0 0 0 12;");
        order.days(1);
        due("one(0, 2), less first", order.one(0, 2), 20);
        due("days(31)", order.days(31), BAD);
        due("days(-1)", order.days(-1), BAD);
        due("days(0)", order.days(0), 0);
        due("days(30)", order.days(30), 2);
        due("rule(2)", order.rule(2), 31);
        for (int n = 0; n < 32; n++) order.days(30);
        due("rule(2)", order.rule(2), 991);
        due("days(9)", order.days(9), FULL);
        due("days(31)", order.days(31), BAD);
        due("days(8)", order.days(8), 0);
        due("days(0)", order.days(0), 0);
        due("days(1)", order.days(1), FULL);
        due("rule(2)", order.rule(2), 999);
    }

    private static void byDays() {
        promise = 16;
        FrankPost x = told("plain 0 10;plain 9 10;letter 0 0 1 12;letter 1 1 1 5;pace 3;");
        String before = all(x);
        int[][] runs = {{0, 20, 0, 0, 0}, {1, 16, 0, 2, 0}, {2, 16, 0, 2, 1}, {3, 19, 0, 2, 1}, {5, 19, 0, 2, 3}, {6, 20, 1, 2, 3}, {60, 20, 1, 2, 57}};
        for (int[] r : runs) for (int j = 0; j < 4; j++) due("runs(" + r[0] + ", " + j + ")", x.runs(r[0], j), r[j + 1]);
        due("runs(61, 0)", x.runs(61, 0), BAD);
        due("runs(-1, 0)", x.runs(-1, 0), BAD);
        due("runs(0, 4)", x.runs(0, 4), BAD);
        due("runs(0, -1)", x.runs(0, -1), BAD);
        promise = 17;
        due("ahead(1, 0)", x.ahead(1, 0), 10);
        due("ahead(1, 1)", x.ahead(1, 1), 6);
        due("ahead(1, 3)", x.ahead(1, 3), 9);
        due("ahead(0, 5)", x.ahead(0, 5), 10);
        due("ahead(0, 60)", x.ahead(0, 60), 11);
        due("ahead(0, 61)", x.ahead(0, 61), BAD);
        due("ahead(0, -1)", x.ahead(0, -1), BAD);
        due("ahead(2, 0)", x.ahead(2, 0), BAD);
        due("ahead(-1, 0)", x.ahead(-1, 0), BAD);
        promise = 18;
        due("comes(0)", x.comes(0), 6);
        due("comes(1)", x.comes(1), NONE);
        due("comes(2)", x.comes(2), BAD);
        due("comes(-1)", x.comes(-1), BAD);
        same("what is by days", x, before);
        x.days(6);
        due("comes(0), come", x.comes(0), 0);
        due("comes(1), kept", x.comes(1), NONE);
        due("comes(0) at a pace of 1", told("sly 0 0;sly 9 0;letter 0 0 1 0;pace 1;").comes(0), 18);
    }

    private static void best() {
        promise = 19;
        FrankPost x = told("plain 0 10;letter 0 0 0 9;");
        String before = all(x);
        int[][] say = {{0, 0, 10}, {1, 18, 19}, {2, 16, 20}, {60, 16, 20}};
        for (int[] s : say) for (int j = 0; j < 2; j++) due("say(0, " + s[0] + ", " + j + ")", x.say(0, s[0], j), s[j + 1]);
        int[][] bad = {{1, 0, 0}, {-1, 0, 0}, {0, 61, 0}, {0, -1, 0}, {0, 0, 2}, {0, 0, -1}};
        for (int[] b : bad) {
            promise = 19;
            due("say", x.say(b[0], b[1], b[2]), BAD);
            promise = 21;
            due("about", x.about(b[0], b[1], b[2]), BAD);
            promise = 24;
            due("kind", x.kind(b[0], b[1], b[2]), BAD);
        }
        promise = 20;
        due("need(0, 1)", x.need(0, 1), NONE);
        due("need(0, 2)", x.need(0, 2), 6);
        due("need(0, 60)", x.need(0, 60), 6);
        due("need(0, 61)", x.need(0, 61), BAD);
        due("need(0, -1)", x.need(0, -1), BAD);
        due("need(1, 0)", x.need(1, 0), BAD);
        due("need(-1, 0)", x.need(-1, 0), BAD);
        due("need by a proud one", told("proud 0 10;letter 0 0 0 9;").need(0, 2), 9);
        due("need by a kind one", told("kind 0 10;letter 0 0 0 9;").need(0, 2), 0);
        same("what is best", x, before);
        FrankPost y = told("plain 0 10;letter 0 0 0 9;letter 0 0 0 0;");
        y.days(1);
        due("need(0, 1) of leg 1", y.need(0, 1), 0);
        due("need(0, 0) of leg 1", y.need(0, 0), NONE);
        due("need(1, 1), kept", y.need(1, 1), STATE);
        promise = 19;
        due("say(0, 1, 0) of leg 1", y.say(0, 1, 0), 17);
        due("say(0, 1, 1) of leg 1", y.say(0, 1, 1), 5);
        due("say(1, 1, 0), kept", y.say(1, 1, 0), STATE);
        promise = 21;
        due("about of leg 1", y.about(0, 1, 0), STATE);
        due("about, kept", y.about(1, 1, 0), STATE);
        y.days(1);
        due("about, came", y.about(0, 1, 0), STATE);
        promise = 19;
        due("say, came", y.say(0, 1, 0), STATE);
        promise = 20;
        due("need, came", y.need(0, 1), STATE);
        promise = 21;
        FrankPost z = told("plain 0 10;sly 0 10;letter 0 0 0 12;");
        due("about(0, 1, 0)", z.about(0, 1, 0), 1);
        due("about(0, 1, 1)", z.about(0, 1, 1), 24);
        due("about(0, 0, 0)", z.about(0, 0, 0), 0);
        due("about(0, 0, 1)", z.about(0, 0, 1), 20);
        promise = 24;
        int[][] kind = {{0, 0, 20}, {1, 1, 26}, {2, 1, 29}};
        for (int[] k : kind) for (int j = 0; j < 2; j++) due("kind(0, " + k[0] + ", " + j + ")", z.kind(0, k[0], j), k[j + 1]);
        due("kind(2, 0, 0)", z.kind(2, 0, 0), BAD);
        FrankPost low = told("plain 0 10;letter 0 0 0 5;");
        due("kind(0, 1, 0)", low.kind(0, 1, 0), 3);
        due("kind(0, 1, 1)", low.kind(0, 1, 1), 9);
    }

    private static void swapAndStop() {
        promise = 22;
        FrankPost x = told("plain 0 10;plain 0 10;plain 9 10;letter 0 0 2 12;pace 1;");
        String before = all(x);
        due("swap(0, 0)", x.swap(0, 0), NONE);
        due("swap(0, 1)", x.swap(0, 1), NONE);
        due("swap(1, 0)", x.swap(1, 0), 2);
        due("swap(1, 1)", x.swap(1, 1), 33);
        due("swap(60, 0), no more than as it is", x.swap(60, 0), NONE);
        due("swap(61, 0)", x.swap(61, 0), BAD);
        due("swap(-1, 0)", x.swap(-1, 0), BAD);
        due("swap(0, 2)", x.swap(0, 2), BAD);
        due("swap(0, -1)", x.swap(0, -1), BAD);
        same("swap", x, before);
        due("swap of the last two", told("plain 9 1;plain 9 1;plain 9 1;plain 0 1;plain 5 1;letter 3 3 4 12;pace 1;").swap(1, 0), 34);
        due("swap by nobody", new FrankPost().swap(5, 0), NONE);
        promise = 23;
        FrankPost y = told("plain 0 10;letter 0 0 0 8;letter 0 0 0 6;letter 0 0 0 6;");
        before = all(y);
        due("stop(0, 0)", y.stop(0, 0), NONE);
        due("stop(0, 1)", y.stop(0, 1), NONE);
        due("stop(1, 0)", y.stop(1, 0), 1);
        due("stop(1, 1)", y.stop(1, 1), 6);
        due("stop(61, 0)", y.stop(61, 0), BAD);
        due("stop(-1, 0)", y.stop(-1, 0), BAD);
        due("stop(0, 2)", y.stop(0, 2), BAD);
        due("stop(0, -1)", y.stop(0, -1), BAD);
        same("stop", y, before);
        y.days(1);
        due("stop(1, 0) of leg 1", y.stop(1, 0), 1);
        due("stop(1, 1) of leg 1", y.stop(1, 1), 2);
        y.days(1);
        due("stop(1, 0), all came", y.stop(1, 0), NONE);
        due("stop(1, 0), none is worse", told("plain 0 10;letter 0 0 0 9;").stop(1, 0), NONE);
    }

    private static void odds() {
        promise = 25;
        FrankPost x = told("plain 0 10;letter 0 0 0 12;");
        String before = all(x);
        long[][] luck = {{2, 3, 112, 125}, {0, 2, 1, 1}, {10, 2, 0, 1}, {5, 1, 0, 1}, {5, 0, 0, 1}, {1, 8, 99999927, 100000000}, {0, 8, 1, 1}};
        for (long[] l : luck) {
            for (int j = 0; j < 2; j++) due("luck(" + l[0] + ", 0, " + l[1] + ", " + j + ")", x.luck((int) l[0], 0, (int) l[1], j), l[2 + j]);
        }
        int[][] bad = {{-1, 0, 0, 0}, {11, 0, 0, 0}, {0, 1, 0, 0}, {0, -1, 0, 0}, {0, 0, 9, 0}, {0, 0, -1, 0}, {0, 0, 0, 2}, {0, 0, 0, -1}};
        for (int[] b : bad) due("luck", x.luck(b[0], b[1], b[2], b[3]), BAD);
        promise = 26;
        for (int[] b : bad) if (b[1] == 0) due("mean", x.mean(b[0], b[2], b[3]), BAD);
        long[][] mean = {{5, 2, 25, 2}, {5, 0, 10, 1}, {10, 8, 10, 1}, {0, 8, 14, 1}, {9, 1, 103, 10}};
        for (long[] m : mean) {
            for (int j = 0; j < 2; j++) due("mean(" + m[0] + ", " + m[1] + ", " + j + ")", x.mean((int) m[0], (int) m[1], j), m[2 + j]);
        }
        same("odds", x, before);
        FrankPost nobody = new FrankPost();
        due("mean of nobody", nobody.mean(3, 8, 0), 0);
        due("mean of nobody", nobody.mean(3, 8, 1), 1);
        promise = 25;
        x.days(2);
        due("luck, come", x.luck(10, 0, 3, 0), 1);
        due("luck, come", x.luck(10, 0, 3, 1), 1);
    }

    private static void sights() {
        promise = 27;
        FrankPost x = told("plain 0 10;kind 9 3;letter 0 0 0 12;");
        String before = all(x);
        int[][] bad = {{21, 0, 0}, {-1, 0, 0}, {0, 2, 0}, {0, -1, 0}, {0, 0, 21}, {0, 0, -1}};
        for (int[] b : bad) due("see", x.see(b[0], b[1], b[2]), BAD);
        same("see", x, before);
        promise = 29;
        due("kinds(0), nothing seen", x.kinds(0), 15);
        due("kinds(2)", x.kinds(2), BAD);
        due("kinds(-1)", x.kinds(-1), BAD);
        promise = 30;
        due("tones(0), nothing seen", x.tones(0), 524287);
        due("tones(1)", x.tones(1), BAD);
        due("tones(-1)", x.tones(-1), BAD);
        promise = 27;
        due("see(1, 0, 13)", x.see(1, 0, 13), 1);
        promise = 29;
        due("kinds(0)", x.kinds(0), 5);
        due("kinds(1)", x.kinds(1), 15);
        promise = 30;
        due("tones(0)", x.tones(0), 1 << 12);
        promise = 29;
        due("see(2, 0, 14)", x.see(2, 0, 14), 2);
        due("kinds(0)", x.kinds(0), 1);
        due("see(20, 1, 3)", x.see(20, 1, 3), 3);
        due("kinds(0)", x.kinds(0), 1);
        due("see(0, 0, 9)", x.see(0, 0, 9), 4);
        due("kinds(0)", x.kinds(0), 0);
        promise = 30;
        due("tones(0)", x.tones(0), 0);
        promise = 27;
        due("see(20, 1, 20)", x.see(20, 1, 20), 5);
        due("see(20, 1, 20)", x.see(20, 1, 20), 6);
        due("see(20, 1, 20)", x.see(20, 1, 20), FULL);
        due("see(20, 1, 21)", x.see(20, 1, 21), BAD);
        promise = 28;
        due("forget(7)", x.forget(7), BAD);
        due("forget(-1)", x.forget(-1), BAD);
        due("forget(6)", x.forget(6), 6);
        due("forget(2)", x.forget(2), 6);
        due("kinds(0)", x.kinds(0), 1);
        due("forget(3)", x.forget(3), BAD);
        due("forget(0)", x.forget(0), 2);
        due("count(0)", x.count(0), 0);
        due("kinds(0)", x.kinds(0), 15);
        promise = 30;
        FrankPost y = told("plain 0 15;letter 0 0 0 12;letter 0 0 0 0;");
        due("see(1, 0, 20)", y.see(1, 0, 20), 1);
        due("tones(1)", y.tones(1), 1 << 11 | 1 << 12 | 1 << 13 | 1 << 14 | 1 << 15 | 1 << 16 | 1 << 17 | 1 << 18);
        y.forget(0);
        y.days(1);
        due("tones(0) of leg 1", y.tones(0), 524287);
        due("tones(1), kept", y.tones(1), STATE);
        due("see(1, 0, 10), from now on", y.see(1, 0, 10), 1);
        due("tones(0) of leg 1", y.tones(0), 1 << 11 | 1 << 12);
        y.days(1);
        due("tones(0), came", y.tones(0), STATE);
    }

    private static void asks() {
        promise = 31;
        FrankPost x = told("plain 9 10;plain 0 10;letter 1 1 1 9;");
        String before = all(x);
        due("ask(0, 0)", x.ask(0, 0), 11);
        due("ask(0, 1)", x.ask(0, 1), 1);
        due("ask(1, 0)", x.ask(1, 0), BAD);
        due("ask(-1, 0)", x.ask(-1, 0), BAD);
        due("ask(0, 2)", x.ask(0, 2), BAD);
        due("ask(0, -1)", x.ask(0, -1), BAD);
        same("ask", x, before);
        x.see(1, 1, 13);
        due("ask(0, 0), one is left", x.ask(0, 0), NONE);
        due("ask(0, 1), one is left", x.ask(0, 1), NONE);
        x.see(0, 1, 9);
        due("ask(0, 0), none is left", x.ask(0, 0), NONE);
        x.forget(0);
        x.days(1);
        // Tones by 0 or 1 from none are felt by half as 0: three of them leave the mood as it is.
        due("ask(0, 0) of leg 1", x.ask(0, 0), 11);
        due("ask(0, 1) of leg 1", x.ask(0, 1), 3);
        x.days(1);
        due("ask(0, 0), came", x.ask(0, 0), STATE);
        due("ask(0, 2), came", x.ask(0, 2), BAD);
        // Of the sad, 10 of 19 tones leave the first of mood 0; the second tells on day 2 which were kept, and by how much.
        FrankPost sad = told("plain 0 0;plain 0 10;letter 0 1 0 9;");
        due("ask(0, 0)", sad.ask(0, 0), 21);
        due("ask(0, 1)", sad.ask(0, 1), 9);
    }

    private static void drifts() {
        promise = 32;
        FrankPost x = told("plain 0 10;letter 0 0 0 9;");
        String before = all(x);
        // 12345 has no bits from 16 on: letter 0 gets tone 0, and is kept.
        due("drift(0, 1, 0)", x.drift(0, 1, 0), 1);
        due("drift(0, 1, 1)", x.drift(0, 1, 1), 0);
        due("drift(0, 61, 0)", x.drift(0, 61, 0), BAD);
        due("drift(0, 0, 0)", x.drift(0, 0, 0), BAD);
        due("drift(0, 1, 2)", x.drift(0, 1, 2), BAD);
        due("drift(0, 1, -1)", x.drift(0, 1, -1), BAD);
        same("drift", x, before);
        FrankPost two = told("plain 0 10;plain 3 10;letter 0 0 0 9;letter 1 1 1 12;");
        // Of seed 1: 1103527590, got 16838, letter 0, its tone 2104 modulo 19, 14; the other is read too.
        due("drift(1, 1, 0)", two.drift(1, 1, 0), 28);
        due("drift(1, 1, 1)", two.drift(1, 1, 1), 0);
        // Then 2524885223, got 5758, letter 0 again, its tone 719 modulo 19, 16; the other comes.
        due("drift(1, 2, 0)", two.drift(1, 2, 0), 34);
        due("drift(1, 2, 1)", two.drift(1, 2, 1), 1);
        due("drift by no letters", told("plain 0 10;").drift(0, 1, 0), STATE);
        due("drift by no letters", told("plain 0 10;").drift(0, 0, 0), BAD);
    }

    private static void images() {
        promise = 33;
        FrankPost x = told("plain 1 10;letter 0 0 0 9;pace 3;");
        x.see(1, 0, 10);
        due("keep(2)", x.keep(2), BAD);
        due("keep(-1)", x.keep(-1), BAD);
        due("keep(1)", x.keep(1), 0);
        due("keep(1)", x.keep(1), 1);
        due("count(1)", x.count(1), 1);
        String before = all(x);
        x.days(1);
        x.alter(0, 0, 3);
        x.alter(0, 1, 4);
        x.alter(0, 2, 5);
        x.pace(1);
        x.see(2, 0, 3);
        x.write(0, 0, 0, 1);
        x.tone(0, 5);
        promise = 34;
        due("back(0)", x.back(0), STATE);
        due("back(2)", x.back(2), BAD);
        due("back(-1)", x.back(-1), BAD);
        due("back(1)", x.back(1), 0);
        due("all is as it was", all(x).equals(before) ? 1 : 0, 1);
        int[] rules = {1, 1, 0, 3, 10, 0, 0};
        for (int j = 0; j < rules.length; j++) due("rule(" + j + ")", x.rule(j), rules[j]);
        due("one(0, 0)", x.one(0, 0), 0);
        due("one(0, 1)", x.one(0, 1), 1);
        due("letter(0, 3)", x.letter(0, 3), 9);
        due("letter(0, 5)", x.letter(0, 5), 0);
        due("count(0)", x.count(0), 1);
        due("kinds(0)", x.kinds(0), 7);
        x.days(5);
        due("keep(0)", x.keep(0), 0);
        due("back(1)", x.back(1), 0);
        due("back(0)", x.back(0), 5);
        due("letter(0, 5)", x.letter(0, 5), 2);
        x.days(1);
        due("back(0), again", x.back(0), 5);
        // All of the letters are kept, those too that are burnt behind.
        x.burn(0);
        due("back(0)", x.back(0), 5);
        due("rule(1)", x.rule(1), 1);
    }

    private static void sheets() {
        promise = 35;
        FrankPost x = told("plain 0 10;plain 3 10;");
        due("sheet(4, 0, 1)", x.sheet(4, 0, 1), BAD);
        due("sheet(-1, 0, 1)", x.sheet(-1, 0, 1), BAD);
        due("sheet(0, 3, 1)", x.sheet(0, 3, 1), BAD);
        due("sheet(0, -1, 1)", x.sheet(0, -1, 1), BAD);
        due("sheet(0, 0, 41)", x.sheet(0, 0, 41), BAD);
        due("sheet(4, 0, -1)", x.sheet(4, 0, -1), BAD);
        due("sheet(0, 0, -1)", x.sheet(0, 0, -1), -14);
        due("sheet(0, 0, LEAST)", x.sheet(0, 0, LEAST), -14);
        due("count(3)", x.count(3), NONE);
        due("sheet(0, 0, 0)", x.sheet(0, 0, 0), 1);
        due("count(3)", x.count(3), 0);
        due("sheet(0, 2, 40)", x.sheet(0, 2, 40), 1);
        due("count(3)", x.count(3), 40);
        due("sheet(0, 0, -1)", x.sheet(0, 0, -1), -14);
        due("count(3)", x.count(3), 40);
        promise = 36;
        due("lay(4, 0, 0)", x.lay(4, 0, 0), BAD);
        due("lay(-1, 0, 0)", x.lay(-1, 0, 0), BAD);
        due("lay(1, 50, 0)", x.lay(1, 50, 0), -11);
        due("lay(0, 40, 0)", x.lay(0, 40, 0), -12);
        due("lay(0, -1, 0)", x.lay(0, -1, 0), -12);
        due("lay(0, LEAST, 0)", x.lay(0, LEAST, 0), -12);
        due("lay(0, MOST, 0)", x.lay(0, MOST, 0), -12);
        due("lay(0, 39, 18)", x.lay(0, 39, 18), 1);
        promise = 37;
        due("read(0, 2, 36, 1)", x.read(0, 2, 36, 1), 1);
        due("letter(0, 3)", x.letter(0, 3), 18);
        // What is new is of zeros, what was laid ahead is gone.
        x.sheet(0, 2, 40);
        due("read(0, 2, 36, 1)", x.read(0, 2, 36, 1), 1);
        due("letter(1, 3)", x.letter(1, 3), 0);
        lowestBits();
        reading();
    }

    private static void lowestBits() {
        promise = 36;
        int[][] laid = {{0, 256 + 5, 5}, {0, 0x7fffff05, 5}, {1, 65536 + 5, 5}, {1, 256 + 5, -1}, {2, 65536 + 5, -1}, {0, 5 - 256, 5}, {0, 128, -1}, {1, 32768, -1}};
        for (int[] l : laid) {
            FrankPost x = told("plain 0 10;");
            x.sheet(3, l[0], 4);
            due("lay(3, 3, " + l[1] + ")", x.lay(3, 3, l[1]), 1);
            due("read of lane " + l[0] + ", " + l[1], x.read(3, l[0], 0, 1), l[2] < 0 ? -20 : 1);
            due("letter(0, 3)", x.letter(0, 3), l[2] < 0 ? BAD : l[2]);
        }
    }

    private static void reading() {
        promise = 37;
        FrankPost x = told("plain 0 10;plain 3 10;");
        x.sheet(1, 1, 14);
        int[] cells = {9, 1, 0, 1, 7, 0, 1, 0, 8, 1, 1, 1, 9, 1};
        for (int j = 0; j < cells.length; j++) x.lay(1, j, cells[j]);
        int[][] bad = {{4, 1, 0, 0}, {-1, 1, 0, 0}, {1, 3, 0, 0}, {1, -1, 0, 0}, {1, 1, 0, 11}, {1, 1, 0, -1}};
        for (int[] b : bad) due("read", x.read(b[0], b[1], b[2], b[3]), BAD);
        due("torn()", x.torn(), 0);
        due("read(1, 1, 1, 2)", x.read(1, 1, 1, 2), 2);
        int[] letter = {1, 0, 1, 7, 3, 0};
        for (int j = 0; j < 6; j++) due("letter(0, " + j + ")", x.letter(0, j), letter[j]);
        due("letter(1, 3)", x.letter(1, 3), 8);
        due("torn()", x.torn(), 0);
        // The fourth is not whole: those ahead came.
        due("read(1, 1, 1, 4)", x.read(1, 1, 1, 4), 3);
        promise = 38;
        due("torn()", x.torn(), 2);
        due("rule(1)", x.rule(1), 5);
        promise = 37;
        // The second is the seventh letter: none came.
        due("read(1, 1, 1, 2)", x.read(1, 1, 1, 2), -21);
        due("rule(1)", x.rule(1), 5);
        promise = 38;
        due("torn(), as it was", x.torn(), 2);
        due("read(1, 1, 1, 11)", x.read(1, 1, 1, 11), BAD);
        due("torn(), as it was", x.torn(), 2);
        due("read(1, 1, 0, 0)", x.read(1, 1, 0, 0), 0);
        due("torn()", x.torn(), 0);
        promise = 37;
        due("read(1, 1, 0, 1)", x.read(1, 1, 0, 1), -20);
        due("rule(1)", x.rule(1), 5);
        for (int f : new int[] {-1, -4, 11, 14, LEAST, MOST, MOST - 2}) {
            due("read(1, 1, " + f + ", 1)", x.read(1, 1, f, 1), 0);
            due("torn()", x.torn(), 2);
        }
        promise = 38;
        for (int lane : new int[] {0, 2}) {
            due("read(1, " + lane + ", -5, 1)", x.read(1, lane, -5, 1), 0);
            due("torn()", x.torn(), 3);
        }
        for (int lane = 0; lane < 3; lane++) {
            due("read(2, " + lane + ", -5, 1)", x.read(2, lane, -5, 1), 0);
            due("torn()", x.torn(), 1);
        }
        // Of no letters nothing is refused, whatever the sheet, and an earlier fault is told no more.
        for (int k = 1; k <= 2; k++) {
            for (int lane = 0; lane < 3; lane++) {
                for (int f : new int[] {0, -1, 40, LEAST, MOST}) {
                    x.read(1, 0, 0, 1);
                    due("torn(), to begin with", x.torn(), 3);
                    due("read(" + k + ", " + lane + ", " + f + ", 0)", x.read(k, lane, f, 0), 0);
                    due("torn()", x.torn(), 0);
                }
            }
        }
        x.burn(0);
        x.sheet(1, 0, 40);
        due("read(1, 0, 0, 10)", x.read(1, 0, 0, 10), -26);
        due("read(1, 0, 16, 6)", x.read(1, 0, 16, 6), 6);
        due("rule(1)", x.rule(1), 6);
    }

    private static void counts() {
        promise = 39;
        FrankPost x = told("plain 1 10;sly 9 10;letter 0 0 0 9;letter 1 1 1 18;");
        x.see(0, 0, 1);
        x.see(0, 0, 1);
        x.keep(1);
        x.feed(0);
        x.feed(0);
        x.feed(0);
        x.sheet(0, 1, 7);
        int[] want = {2, 1, 3, 7, 27, 10};
        for (int j = 0; j < 6; j++) due("count(" + j + ")", x.count(j), want[j]);
        x.keep(0);
        due("count(1)", x.count(1), 2);
        due("count(6)", x.count(6), BAD);
        due("count(-1)", x.count(-1), BAD);
        x.burn(1);
        due("count(4)", x.count(4), 9);
        x.sheet(1, 1, 9);
        due("count(3)", x.count(3), 7);
    }

    public static void main(String[] args) {
        newObject();
        tape();
        texts();
        asked();
        changes();
        aDay();
        byDays();
        best();
        swapAndStop();
        odds();
        sights();
        asks();
        drifts();
        images();
        sheets();
        counts();
        System.out.println(wrong == 0 ? "all promises are kept" : wrong + " answers are not as due");
        if (wrong != 0) System.exit(1);
    }
}
