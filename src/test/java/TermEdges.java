/** The edges of what the document says ahead of its promises, but for texts, which TextEdges has. */
final class TermEdges extends Edges {
    @Override
    void run() {
        lastCall();
        firstThatFits();
        refusedChangesNothing();
        fractions();
        people();
        letters();
        pace();
        day();
        feels();
        sendsOn();
        alters();
        goesNearer();
        byOrder();
        readByWhomItIsAbout();
        readByWhomItIsTo();
        dayIsOneMore();
        byDays();
        moods();
        seen();
        sheets();
        faults();
    }

    private void lastCall() {
        says(TERMS, "An object is used for at most 512 calls after it has been made");
        String s = "plain 0 10;letter 0 0 0 9;";
        FrankPost x = told(s);
        int calls = s.length() + 1;
        for (; calls < 510; calls += 2) {
            x.keep(calls / 2 % 2);
            x.drift(calls, 60, 0);
        }
        for (; calls < 511; calls++) x.ask(0, 0);
        due("the 512th call, comes(0)", x.comes(0), 2);
    }

    private void firstThatFits() {
        says(TERMS, "the first that fits");
        FrankPost ended = ended();
        // BAD ahead of STATE.
        for (int i = 0; i <= 1; i++) {
            due("tone(i, 19), ended", ended.tone(i, 19), BAD);
            due("say(i, 61, 0), ended", ended.say(i, 61, 0), BAD);
            due("say(i, 0, 2), ended", ended.say(i, 0, 2), BAD);
            due("need(i, 61), ended", ended.need(i, 61), BAD);
            due("about(i, 61, 0), ended", ended.about(i, 61, 0), BAD);
            due("about(i, 0, 2), ended", ended.about(i, 0, 2), BAD);
            due("ask(i, 2), ended", ended.ask(i, 2), BAD);
        }
        due("drift(0, 0, 0) by no letters", told("plain 0 0;").drift(0, 0, 0), BAD);
        due("drift(0, 1, 2) by no letters", told("plain 0 0;").drift(0, 1, 2), BAD);
        // STATE ahead of NONE: by no tone does a letter come that is kept, nor is anything told by asking.
        due("need(1, 60), kept", ended.need(1, 60), STATE);
        due("ask(1, 0), kept", ended.ask(1, 0), STATE);
        // BAD ahead of FULL.
        FrankPost full = told("plain 0 10;" + "letter 0 0 0 9;".repeat(6));
        due("write(1, 0, 0, 0), full", full.write(1, 0, 0, 0), BAD);
        due("write(0, 0, 0, 19), full", full.write(0, 0, 0, 19), BAD);
        for (int n = 0; n < 6; n++) full.see(0, 0, 10);
        due("see(21, 0, 0), full", full.see(21, 0, 0), BAD);
        due("see(0, 1, 0), full", full.see(0, 1, 0), BAD);
        due("see(0, 0, 21), full", full.see(0, 0, 21), BAD);
        for (int n = 0; n < 33; n++) full.days(30);
        due("days(31), at 990", full.days(31), BAD);
        feed(full, " ".repeat(160));
        due("feed(128), full", full.feed(128), BAD);
    }

    private void refusedChangesNothing() {
        says(TERMS, "what is refused changes nothing (but THE TAPE, as told)");
        refused("need", this::rich, (x, a) -> x.need(a[0], a[1]), NONE, 0, 0);
        refused("back", () -> told(FEW, 2), (x, a) -> x.back(a[0]), STATE, 0);
        refused("drift", () -> told("plain 0 10;"), (x, a) -> x.drift(a[0], a[1], a[2]), STATE, 0, 1, 0);
        refused("sheet", this::rich, (x, a) -> x.sheet(a[0], a[1], a[2]), -14, 0, 1, -1);
        refused("lay", this::rich, (x, a) -> x.lay(a[0], a[1], a[2]), -12, 0, 9, 1);
        refused("lay", this::rich, (x, a) -> x.lay(a[0], a[1], a[2]), -11, 1, 0, 1);
        refused("read", this::richOfAWrongCell, (x, a) -> x.read(a[0], a[1], a[2], a[3]), -21, 0, 0, 0, 2);
        // The tape of a text that is refused is empty then, and its fault is told: all else is as it was.
        FrankPost x = rich();
        feed(x, "!");
        due("text()", x.text(), -17);
        due("count(2)", x.count(2), 0);
        due("fault()", x.fault(), 1);
        holds("text() changes nothing else", held(x).equals(held(rich())));
    }

    private FrankPost richOfAWrongCell() {
        FrankPost x = rich();
        x.lay(0, 7, 19);
        return x;
    }

    private void fractions() {
        says(TERMS, "Fractions are in lowest terms, the denominator above 0 (0 is 0 by 1).");
        FrankPost x = told("plain 0 0;letter 0 0 0 9;");
        luckIs(x, 5, 0, 0, 0, 1);
        luckIs(x, 10, 0, 8, 0, 1);
        luckIs(x, 0, 0, 8, 1, 1);
        luckIs(x, 5, 0, 2, 1, 4);
        luckIs(x, 2, 0, 3, 112, 125);
        luckIs(x, 1, 0, 8, 99999927, 100000000);
        due("mean(5, 8, 0) of 0", x.mean(5, 8, 0), 0);
        due("mean(5, 8, 1) of 0", x.mean(5, 8, 1), 1);
    }

    private void people() {
        says(TERMS, "PEOPLE 0 on (5 at most, by order), each a ONE of a KIND (0 plain, 1 proud, 2 kind, 3 sly), at a DOOR (0 to 9), in a MOOD (0 to 20).");
        FrankPost x = told("plain 0 0;proud 9 20;kind 0 20;sly 9 0;plain 5 5;");
        int[][] want = {{0, 0, 0}, {1, 9, 20}, {2, 0, 20}, {3, 9, 0}, {0, 5, 5}};
        for (int p = 0; p < 5; p++) {
            int who = p;
            dueAll("one(" + p + ")", x, (y, a) -> y.one(who, a[0]), want[p]);
        }
        due("one(5, 0)", x.one(5, 0), BAD);
        due("rule(0)", x.rule(0), 5);
        due("a sixth one, as a text", textOf("plain 0 0;".repeat(6)), -60);
    }

    private static int textOf(String s) {
        FrankPost x = new FrankPost();
        feed(x, s);
        return x.text();
    }

    private void letters() {
        says(TERMS, "LETTERS 0 on (6 at most, by order): FROM a ONE, TO a ONE, ABOUT a ONE (any of these may be alike), of a TONE (9 below nothing to 9 above, told as 0 to 18; 9: none), AT a DOOR (at first that of FROM)");
        int[][] all = {{0, 0, 0, 0}, {1, 1, 1, 18}, {0, 0, 1, 9}, {0, 1, 0, 8}, {1, 0, 0, 10}, {0, 1, 2, 1}};
        FrankPost x = told("plain 2 10;plain 9 10;sly 4 10;");
        for (int i = 0; i < 6; i++) {
            int[] w = all[i];
            int which = i;
            due("write", x.write(w[0], w[1], w[2], w[3]), i + 1);
            dueAll("letter(" + i + ")", x, (y, a) -> y.letter(which, a[0]), w[0], w[1], w[2], w[3], w[0] == 0 ? 2 : 9, 0);
        }
        due("a seventh letter", x.write(0, 0, 0, 0), FULL);
        due("feels(0, 0), 9 below nothing", x.feels(0, 0), 31);
        due("feels(0, 9), none", x.feels(0, 9), 40);
        due("feels(0, 18), 9 above", x.feels(0, 18), 49);
        says(TERMS, "of a LEG (0: on its way to the ONE it is ABOUT, at first; 1: on its way TO; 2: it CAME; 3: it is KEPT)");
        FrankPost y = told("plain 0 10;letter 0 0 0 6;letter 0 0 0 5;");
        int[][] legs = {{0, 0}, {1, 3}, {2, 3}, {2, 3}};
        for (int[] l : legs) {
            due("letter(0, 5)", y.letter(0, 5), l[0]);
            due("letter(1, 5)", y.letter(1, 5), l[1]);
            y.days(1);
        }
    }

    private void pace() {
        says(TERMS, "PACE (1 to 4; 2 at first).");
        due("rule(3) at first", new FrankPost().rule(3), 2);
        due("rule(3) of a text that does not tell it", told("plain 0 0;").rule(3), 2);
        for (int v = 1; v <= 4; v++) due("rule(3)", told("pace " + v + ";").rule(3), v);
        due("pace(0)", new FrankPost().pace(0), BAD);
        due("pace(5)", new FrankPost().pace(5), BAD);
    }

    private void day() {
        says(TERMS, "DAY (0 at first).");
        due("rule(2)", new FrankPost().rule(2), 0);
        FrankPost x = told(FEW, 30);
        due("rule(2)", x.rule(2), 30);
        feed(x, FEW);
        x.text();
        due("rule(2) of a new text", x.rule(2), 0);
    }

    private void feels() {
        says(TERMS, "FEELS by KIND, by a TONE: plain as much; proud twice that of a plain one; kind as a plain one, but half of it (towards 0), if it is below 0; sly 1 more than a kind one.");
        int[][] want = {
            {-9, -8, -7, -6, -5, -4, -3, -2, -1, 0, 1, 2, 3, 4, 5, 6, 7, 8, 9},
            {-18, -16, -14, -12, -10, -8, -6, -4, -2, 0, 2, 4, 6, 8, 10, 12, 14, 16, 18},
            {-4, -4, -3, -3, -2, -2, -1, -1, 0, 0, 1, 2, 3, 4, 5, 6, 7, 8, 9},
            {-3, -3, -2, -2, -1, -1, 0, 0, 1, 1, 2, 3, 4, 5, 6, 7, 8, 9, 10}};
        FrankPost x = told("plain 0 0;proud 0 0;kind 0 0;sly 0 0;");
        for (int p = 0; p < 4; p++) for (int t = 0; t < 19; t++) due("feels(" + p + ", " + t + ")", x.feels(p, t), 40 + want[p][t]);
    }

    private void sendsOn() {
        says(TERMS, "SENDS ON by KIND: plain if TONE is 3 below nothing, or more; proud if a plain one does and TONE is not below nothing; kind, sly always.");
        int[] least = {6, 9, 0, 0};
        for (int k = 0; k < 4; k++) {
            for (int t = 0; t < 19; t++) {
                FrankPost x = told(KIND_NAMES[k] + " 0 10;letter 0 0 0 " + t + ";", 1);
                due("leg of tone " + t + ", read by a " + KIND_NAMES[k] + " one", x.letter(0, 5), t >= least[k] ? 1 : 3);
            }
        }
    }

    private void alters() {
        says(TERMS, "ALTERS by KIND, a TONE: plain, proud not; kind by 1 more; sly 1 more than a kind one; 9 at most.");
        int[][] want = {{6, 9, 17, 18}, {-1, 9, 17, 18}, {7, 10, 18, 18}, {8, 11, 18, 18}};
        int[] tones = {6, 9, 17, 18};
        for (int k = 0; k < 4; k++) {
            for (int j = k == 1 ? 1 : 0; j < 4; j++) {
                FrankPost x = told(KIND_NAMES[k] + " 0 10;letter 0 0 0 " + tones[j] + ";", 1);
                due("tone " + tones[j] + ", sent on by a " + KIND_NAMES[k] + " one", x.letter(0, 3), want[k][j]);
                x.days(1);
                due("the same, come", x.letter(0, 3), want[k][j]);
            }
        }
        due("tone 16, sent on by a sly one", told("sly 0 10;letter 0 0 0 16;", 1).letter(0, 3), 18);
        due("tone 0, sent on by a kind one", told("kind 0 10;letter 0 0 0 0;", 1).letter(0, 3), 1);
        due("tone 0, sent on by a sly one", told("sly 0 10;letter 0 0 0 0;", 1).letter(0, 3), 2);
        due("tone 5, kept by a plain one", told("plain 0 10;letter 0 0 0 5;", 1).letter(0, 3), 5);
    }

    private void goesNearer() {
        says(TERMS, "goes nearer to the DOOR of the ONE to whom it is on its way, by PACE DOORS (as far as that DOOR, if it is nearer)");
        for (int pace = 1; pace <= 4; pace++) {
            for (int door = 0; door <= 9; door++) {
                for (int goal = 0; goal <= 9; goal++) {
                    int far = Math.abs(goal - door);
                    FrankPost x = told("plain " + door + " 10;plain " + goal + " 10;letter 0 1 1 9;pace " + pace + ";", 1);
                    int at = far <= pace ? goal : goal > door ? door + pace : door - pace;
                    String way = "from " + door + " to " + goal + " by " + pace;
                    due("at, " + way, x.letter(0, 4), at);
                    due("leg, " + way, x.letter(0, 5), far <= pace ? 1 : 0);
                }
            }
        }
        FrankPost ended = ended();
        ended.alter(0, 1, 9);
        ended.days(1);
        due("at, come", ended.letter(0, 4), 0);
        due("at, kept", ended.letter(1, 4), 0);
    }

    private void byOrder() {
        says(TERMS, "each LETTER of LEG 0 or 1, by order");
        due("20, more first", told("plain 0 20;letter 0 0 0 12;letter 0 0 0 6;", 1).one(0, 2), 17);
        due("20, less first", told("plain 0 20;letter 0 0 0 6;letter 0 0 0 12;", 1).one(0, 2), 20);
        due("0, more first", told("plain 0 0;letter 0 0 0 12;letter 0 0 0 6;", 1).one(0, 2), 0);
        due("0, less first", told("plain 0 0;letter 0 0 0 6;letter 0 0 0 12;", 1).one(0, 2), 3);
        due("nobody's day", told("", 1).rule(2), 1);
    }

    /** Mood of one who reads what is about him, behind. */
    private void moodBehind(String kind, int mood, int tone, int want) {
        due("a " + kind + " one of mood " + mood + ", by " + tone, told(kind + " 0 " + mood + ";letter 0 0 0 " + tone + ";", 1).one(0, 2), want);
    }

    private void readByWhomItIsAbout() {
        says(TERMS, "of LEG 0, the ONE it is ABOUT reads it: MOOD is more by what he FEELS by its TONE (0 to 20)");
        moodBehind("plain", 11, 18, 20);
        moodBehind("plain", 12, 18, 20);
        moodBehind("plain", 10, 18, 19);
        moodBehind("plain", 9, 0, 0);
        moodBehind("plain", 8, 0, 0);
        moodBehind("plain", 10, 0, 1);
        moodBehind("proud", 2, 18, 20);
        moodBehind("proud", 20, 18, 20);
        moodBehind("proud", 18, 0, 0);
        moodBehind("proud", 0, 0, 0);
        moodBehind("kind", 4, 0, 0);
        moodBehind("kind", 3, 0, 0);
        moodBehind("sly", 10, 18, 20);
        moodBehind("sly", 20, 8, 20);
        moodBehind("sly", 19, 9, 20);
        says(TERMS, "does he SEND it ON, TONE is as he ALTERS it, LEG is 1; else it is KEPT");
        FrankPost x = told("proud 0 10;letter 0 0 0 9;letter 0 0 0 8;", 1);
        due("rule(6)", x.rule(6), 2);
        due("one(0, 3)", x.one(0, 3), 1);
        due("tone, kept", x.letter(1, 3), 8);
    }

    /** Mood of one who reads what is to him, of a tone, behind. */
    private void moodOfTo(String kind, int mood, int tone, int want) {
        FrankPost x = told("sly 0 10;" + kind + " 0 " + mood + ";letter 0 1 0 9;", 1);
        x.tone(0, tone);
        x.days(1);
        due("a " + kind + " one of mood " + mood + ", to him by " + tone, x.one(1, 2), want);
        due("it came", x.letter(0, 5), 2);
    }

    private void readByWhomItIsTo() {
        says(TERMS, "Of LEG 1, the ONE it is TO reads it: MOOD is more by half of what he FEELS (towards 0; 0 to 20); it CAME.");
        moodOfTo("plain", 10, 8, 10);
        moodOfTo("plain", 10, 10, 10);
        moodOfTo("plain", 10, 7, 9);
        moodOfTo("plain", 10, 6, 9);
        moodOfTo("plain", 10, 12, 11);
        moodOfTo("plain", 4, 0, 0);
        moodOfTo("plain", 3, 0, 0);
        moodOfTo("plain", 16, 18, 20);
        moodOfTo("plain", 17, 18, 20);
        moodOfTo("proud", 10, 8, 9);
        moodOfTo("proud", 9, 0, 0);
        moodOfTo("proud", 8, 0, 0);
        moodOfTo("proud", 11, 18, 20);
        moodOfTo("proud", 12, 18, 20);
        moodOfTo("kind", 10, 0, 8);
        moodOfTo("kind", 10, 2, 9);
        moodOfTo("sly", 10, 0, 9);
        moodOfTo("sly", 10, 8, 10);
        moodOfTo("sly", 10, 18, 15);
    }

    private void dayIsOneMore() {
        says(TERMS, "DAY is 1 more.");
        FrankPost x = new FrankPost();
        for (int d = 0; d < 3; d++) {
            due("rule(2)", x.rule(2), d);
            x.days(1);
        }
    }

    private void byDays() {
        says(TERMS, "BY DAYS: as it would be from now on.");
        FrankPost x = told("plain 0 10;letter 0 0 0 12;");
        due("ahead(0, 2)", x.ahead(0, 2), 14);
        due("comes(0)", x.comes(0), 2);
        due("one(0, 2), as it was", x.one(0, 2), 10);
        due("rule(2), as it was", x.rule(2), 0);
        x.days(1);
        due("ahead(0, 1), a day on", x.ahead(0, 1), 14);
        due("comes(0), a day on", x.comes(0), 1);
        for (int n = 0; n < 33; n++) x.days(30);
        x.days(8);
        due("rule(2)", x.rule(2), 999);
        due("runs(60, 3) at the last day", x.runs(60, 3), 60);
        due("rule(2)", x.rule(2), 999);
    }

    private void moods() {
        says(TERMS, "MOODS: MOOD of all, summed.");
        due("rule(4) of nobody", new FrankPost().rule(4), 0);
        due("rule(4) of the saddest", told("sly 0 0;".repeat(5)).rule(4), 0);
        due("rule(4) of the gladdest", told("sly 0 20;".repeat(5)).rule(4), 100);
        due("rule(4)", told("sly 0 1;plain 0 2;kind 0 4;proud 0 8;sly 0 16;").rule(4), 31);
    }

    private void seen() {
        says(TERMS, "SEEN (6): behind n DAYS (0 to 20) from now on MOOD of a ONE is v.");
        FrankPost x = told("plain 0 10;letter 0 0 0 12;");
        int[][] sights = {{0, 10}, {1, 13}, {2, 14}, {3, 14}, {19, 14}, {20, 14}};
        for (int n = 0; n < 6; n++) due("see", x.see(sights[n][0], 0, sights[n][1]), n + 1);
        due("a seventh", x.see(0, 0, 10), FULL);
        due("tones(0), all is so", x.tones(0), 1 << 12);
        x.days(1);
        due("tones(0), from a later day on", x.tones(0), 0);
    }

    private void sheets() {
        says(TERMS, "SHEETS 0 to 3 are rows of BYTES (lane 0), SHORTS (1), INTS (2) with 0 to 40 CELLS, or nothing (at first).");
        for (int k = 0; k <= 3; k++) {
            FrankPost x = told("plain 0 10;");
            due("lay(" + k + ", 0, 0) of nothing", x.lay(k, 0, 0), -11);
            for (int lane = 0; lane <= 2; lane++) {
                due("sheet(" + k + ", " + lane + ", 0)", x.sheet(k, lane, 0), 1);
                due("lay(" + k + ", 0, 0) of no cells", x.lay(k, 0, 0), -12);
                due("sheet(" + k + ", " + lane + ", 40)", x.sheet(k, lane, 40), 1);
                due("lay(" + k + ", 39, 9)", x.lay(k, 39, 9), 1);
                due("lay(" + k + ", 40, 9)", x.lay(k, 40, 9), -12);
                due("read of the last", x.read(k, lane, 36, 1), 1);
                due("sheet(" + k + ", " + lane + ", 41)", x.sheet(k, lane, 41), BAD);
            }
        }
        due("sheet(4, 0, 0)", new FrankPost().sheet(4, 0, 0), BAD);
    }

    private void faults() {
        says(TERMS, "A FAULT is what the machine finds: 1 NULL (nothing), 2 INDEX, 3 CAST (another lane), 4 SIZE (below 0).");
        FrankPost x = told("plain 0 10;");
        x.read(0, 0, 0, 1);
        due("torn() of nothing", x.torn(), 1);
        x.sheet(0, 0, 4);
        x.read(0, 0, 1, 1);
        due("torn() behind the last cell", x.torn(), 2);
        x.read(0, 1, 0, 1);
        due("torn() of another lane", x.torn(), 3);
        due("sheet(0, 0, -1)", x.sheet(0, 0, -1), -10 - 4);
    }
}
