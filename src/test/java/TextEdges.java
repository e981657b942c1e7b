/** The edges of texts, and of what is asked: promises 1 to 9, with what the terms say of THE TAPE. */
final class TextEdges extends Edges {
    @Override
    void run() {
        newObject();
        feed();
        end();
        text();
        fault();
        bytesOfTheTape();
        tokens();
        lines();
        noToken();
        notThere();
        outOfBounds();
        secondPace();
        tooMany();
        noSuchOne();
        firstMet();
        taken();
        rule();
        one();
        letter();
        feels();
    }

    /** A text on its own, and what it leaves of what there was. */
    private void reads(String s, int answer, int fault) {
        FrankPost x = new FrankPost();
        feed(x, s);
        due("text() of '" + s + "'", x.text(), answer);
        due("fault() of '" + s + "'", x.fault(), fault);
    }

    private void newObject() {
        says(1, "Nobody, no LETTERS; SHEETS of nothing.");
        FrankPost x = new FrankPost();
        dueAll("rule", x, (y, a) -> y.rule(a[0]), 0, 0, 0, 2, 0, 0, 0);
        dueAll("count", x, (y, a) -> y.count(a[0]), 0, 0, 0, NONE, 0, 0);
        due("one(0, 0)", x.one(0, 0), BAD);
        due("letter(0, 0)", x.letter(0, 0), BAD);
        due("write(0, 0, 0, 0)", x.write(0, 0, 0, 0), BAD);
        due("see(0, 0, 0)", x.see(0, 0, 0), BAD);
        due("fault()", x.fault(), 0);
        due("torn()", x.torn(), 0);
        for (int k = 0; k <= 3; k++) due("lay(" + k + ", 0, 0)", x.lay(k, 0, 0), -11);
        for (int k = 0; k <= 1; k++) due("back(" + k + ")", x.back(k), STATE);
        dueAll("runs(60)", x, (y, a) -> y.runs(60, a[0]), 0, 0, 0, 60);
        dueAll("swap(60)", x, (y, a) -> y.swap(60, a[0]), NONE, NONE);
        dueAll("stop(60)", x, (y, a) -> y.stop(60, a[0]), NONE, NONE);
        dueAll("mean(5, 8)", x, (y, a) -> y.mean(5, 8, a[0]), 0, 1);
        due("drift(0, 60, 0)", x.drift(0, 60, 0), STATE);
        due("end(0)", x.end(0), 0);
        due("burn(0)", x.burn(0), 0);
        due("forget(0)", x.forget(0), 0);
        due("text()", x.text(), 0);
        due("days(30)", x.days(30), 0);
    }

    private void feed() {
        says(2, "A byte (0 to 127) comes behind THE TAPE: how many it has.");
        bounds("feed", this::rich, (x, a) -> x.feed(a[0]), new int[] {0}, 0, 0, 127);
        FrankPost x = new FrankPost();
        due("feed(0)", x.feed(0), 1);
        due("feed(127)", x.feed(127), 2);
        says(2, "BAD; FULL: more than 160.");
        for (int n = 3; n <= 160; n++) due("feed(32)", x.feed(32), n);
        due("feed(32), the 161st", x.feed(32), FULL);
        due("feed(-1), full", x.feed(-1), BAD);
        due("feed(128), full", x.feed(128), BAD);
        due("count(2)", x.count(2), 160);
        due("end(159)", x.end(159), 160);
        due("feed(32), room for one", x.feed(32), 160);
        due("feed(32), full again", x.feed(32), FULL);
    }

    private void end() {
        says(3, "THE TAPE keeps its first n bytes: how many it had.");
        FrankPost x = new FrankPost();
        due("end(0) of nothing", x.end(0), 0);
        feed(x, "pace 3;pace");
        due("end(11), all of it", x.end(11), 11);
        due("end(7)", x.end(7), 11);
        due("text()", x.text(), 1);
        due("rule(3)", x.rule(3), 3);
        // What was behind the end is not read, not even by a token that would go on there.
        String[] behind = {"pace 33;", "pace 3;", "paces"};
        int[] kept = {6, 5, 4};
        for (int j = 0; j < 3; j++) {
            feed(x, behind[j]);
            x.end(kept[j]);
            due("text() of '" + behind[j] + "' up to " + kept[j], x.text(), -10 - kept[j]);
            due("fault()", x.fault(), 2);
        }
        feed(x, "!");
        due("end(0)", x.end(0), 1);
        due("feed, behind end(0)", x.feed(32), 1);
        due("text()", x.text(), 0);
        says(3, "BAD.");
        bounds("end", this::rich, (y, a) -> y.end(a[0]), new int[] {0}, 0, 0, 7);
        refused("end", FrankPost::new, (y, a) -> y.end(a[0]), BAD, 1);
        refused("end", () -> fed(" ".repeat(160)), (y, a) -> y.end(a[0]), BAD, 161);
        due("end(160)", fed(" ".repeat(160)).end(160), 160);
    }

    private static FrankPost fed(String s) {
        FrankPost x = new FrankPost();
        feed(x, s);
        return x;
    }

    private void text() {
        says(4, "THE TAPE (empty then) tells all: how many lines");
        String full = "sly 9 20;".repeat(5) + "letter 0 1 2 18;".repeat(6) + "pace 4;" + " ".repeat(12);
        for (String s : new String[] {"", " ", "pace 1;", full}) {
            FrankPost x = fed(s);
            due("count(2) ahead", x.count(2), s.length());
            due("text() of '" + s + "'", x.text(), s.length() == 160 ? 12 : s.trim().isEmpty() ? 0 : 1);
            due("count(2) behind", x.count(2), 0);
        }
        FrankPost none = rich();
        none.end(0);
        due("text() of nothing", none.text(), 0);
        due("rule(0), nobody is told", none.rule(0), 0);
        due("rule(1), no letters are told", none.rule(1), 0);
        says(4, "-10 less the place of its FAULT: that which was told stays");
        for (String s : new String[] {"!", "pace 4", "pace 4;pace 4;", "pace 9;", "letter 0 0 0 0;", "sly 0 0;".repeat(6)}) {
            FrankPost x = rich();
            x.end(0);
            feed(x, s);
            due("text() of '" + s + "' is refused", x.text() <= -10 ? 1 : 0, 1);
            due("count(2) behind", x.count(2), 0);
            holds("'" + s + "' leaves all else", held(x).equals(held(rich())));
        }
    }

    private void fault() {
        says(5, "The FAULT of the latest text(); 0.");
        FrankPost x = new FrankPost();
        due("fault() ahead of any", x.fault(), 0);
        feed(x, "!");
        due("fault() ahead of text()", x.fault(), 0);
        x.text();
        due("fault()", x.fault(), 1);
        feed(x, "pace 1;");
        x.end(7);
        due("fault() ahead of the next text()", x.fault(), 1);
        x.text();
        due("fault() of what is taken", x.fault(), 0);
        feed(x, "pace");
        x.text();
        due("fault()", x.fault(), 2);
        feed(x, "pace 9;");
        x.text();
        due("fault() of the latest", x.fault(), 3);
        x.text();
        due("fault() of nothing", x.fault(), 0);
    }

    private void bytesOfTheTape() {
        says(TERMS, "THE TAPE has 160 bytes, places from 0.");
        String blanks = " ".repeat(159);
        reads("!" + blanks, -10, 1);
        reads(blanks + "!", -169, 1);
        reads(blanks + ";", -169, 2);
        reads("pace" + blanks.substring(0, 156), -170, 2);
        reads(blanks.substring(0, 153) + "pace 3;", 1, 0);
        reads(blanks.substring(0, 155) + "plain", -170, 2);
        reads(blanks.substring(0, 153) + "pace 31", -168, 3);
    }

    private void tokens() {
        says(TERMS, "TOKENS, each as long as may be, blanks (32) between: NAMES (a .. z), NUMBERS (1 or 2 figures), one ; .");
        reads("plain0 0;", 1, 0);
        reads("  plain  9  20  ;  ", 1, 0);
        reads("plain 09 00;", 1, 0);
        reads("plain 0 0;plain 0 0;", 2, 0);
        reads("pace12;", -14, 3);
        reads("pace1 2;", -16, 2);
        reads("letter 0000;", -17, 1);
        reads("paceplain 1;", -10, 2);
        reads("pa ce 1;", -10, 2);
        reads("pace 1;;", -17, 2);
        // a and z are of names, 0 and 9 of numbers, and what is next to them is of nothing.
        for (String s : new String[] {"a", "z", "az", "0", "9", "09", ";"}) reads(s, -10, 2);
        for (int c : new int[] {0, 9, 10, 31, 33, 47, 58, 60, 64, 65, 90, 95, 96, 123, 127}) {
            reads("" + (char) c, -10, 1);
            reads("pace " + (char) c + "1;", -15, 1);
        }
    }

    private void lines() {
        says(TERMS, "text: { line }");
        reads("", 0, 0);
        reads("  ", 0, 0);
        reads("plain 0 0;proud 0 0;kind 0 0;sly 0 0;letter 0 1 2 3;pace 1;", 6, 0);
        reads("pace 1;letter 3 2 1 0;sly 0 0;kind 0 0;proud 0 0;plain 0 0;", 6, 0);
        says(TERMS, "plain, proud, kind, sly: a ONE more of that KIND: DOOR, MOOD.");
        for (int k = 0; k < 4; k++) {
            FrankPost x = told(KIND_NAMES[k] + " 9 20;" + KIND_NAMES[k] + " 0 0;");
            dueAll("one(0)", x, (y, a) -> y.one(0, a[0]), k, 9, 20);
            dueAll("one(1)", x, (y, a) -> y.one(1, a[0]), k, 0, 0);
        }
        says(TERMS, "letter: a LETTER more: FROM, TO, ABOUT (0 to 4 each), TONE (as told).");
        FrankPost x = told("letter 4 0 4 18;letter 0 4 0 0;plain 1 1;plain 2 2;plain 3 3;plain 4 4;plain 5 5;");
        dueAll("letter(0)", x, (y, a) -> y.letter(0, a[0]), 4, 0, 4, 18, 5, 0);
        dueAll("letter(1)", x, (y, a) -> y.letter(1, a[0]), 0, 4, 0, 0, 1, 0);
        says(TERMS, "pace: PACE.");
        due("rule(3)", told("pace 1;").rule(3), 1);
        due("rule(3)", told("pace 4;").rule(3), 4);
    }

    private void noToken() {
        says(TERMS, "1 no TOKEN, a NUMBER that is too long (its first byte).");
        reads("plain 1 2;!", -20, 1);
        reads("plain 1 !", -18, 1);
        reads("plain 1 2!", -19, 1);
        reads("Plain 1 2;", -10, 1);
        reads("plaiN 1 2;", -10, 2);
        reads("plain 1 2\t;", -19, 1);
        reads("100", -10, 1);
        reads("10", -10, 2);
        reads("plain 001 2;", -16, 1);
        reads("plain 01 2;", 1, 0);
        reads("plain 1 020;", -18, 1);
        reads("plain 1 20;", 1, 0);
        reads("plain 1 " + "0".repeat(152), -18, 1);
        reads("pace 001;", -15, 1);
    }

    private void notThere() {
        says(TERMS, "2 a TOKEN that can not stand there (a NAME that begins no line; or the end: the length).");
        for (String s : new String[] {"plai", "plains", "blain", "prou", "prouds", "kin", "kinds", "sl", "slyly", "lette", "letters", "pac", "paces", "x"}) {
            reads(s + " 0 0;", -10, 2);
        }
        reads("plain plain 0 0;", -16, 2);
        reads("plain ; 0 0;", -16, 2);
        reads("plain 0 0 0;", -18 - 2, 2);
        reads("plain 0 0 plain", -20, 2);
        reads("plain 0;", -17, 2);
        reads("letter 0 0 0;", -22, 2);
        reads("letter 0 0 0 0 0;", -25, 2);
        reads("pace;", -14, 2);
        reads("pace 1 1;", -17, 2);
        reads("pace 1  ", -18, 2);
        // Cut anywhere: in a name it is the name that begins no line, else it is the end.
        String s = "plain 1 2;letter 0 0 0 9;pace 3;";
        int[] starts = {0, 10, 25, s.length()};
        int[] names = {5, 6, 4};
        for (int line = 0; line < 3; line++) {
            reads(s.substring(0, starts[line]), line, 0);
            for (int cut = starts[line] + 1; cut < starts[line + 1]; cut++) {
                reads(s.substring(0, cut), cut < starts[line] + names[line] ? -10 - starts[line] : -10 - cut, 2);
            }
        }
        reads(s, 3, 0);
    }

    private void outOfBounds() {
        says(TERMS, "3 a NUMBER out of its bounds.");
        for (String kind : KIND_NAMES) {
            int place = -10 - kind.length() - 1;
            reads(kind + " 0 0;", 1, 0);
            reads(kind + " 9 20;", 1, 0);
            reads(kind + " 10 0;", place, 3);
            reads(kind + " 99 0;", place, 3);
            reads(kind + " 0 21;", place - 2, 3);
            reads(kind + " 0 99;", place - 2, 3);
        }
        String five = "sly 0 0;".repeat(5);
        reads(five + "letter 4 4 4 18;", 6, 0);
        reads(five + "letter 0 0 0 0;", 6, 0);
        reads(five + "letter 5 0 0 0;", -57, 3);
        reads(five + "letter 0 5 0 0;", -59, 3);
        reads(five + "letter 0 0 5 0;", -61, 3);
        reads(five + "letter 0 0 0 19;", -63, 3);
        reads("pace 1;", 1, 0);
        reads("pace 4;", 1, 0);
        reads("pace 0;", -15, 3);
        reads("pace 5;", -15, 3);
        reads("pace 99;", -15, 3);
    }

    private void secondPace() {
        says(TERMS, "4 pace for the second time (its NAME).");
        reads("pace 1;pace 1;", -17, 4);
        reads("pace 1;plain 0 0; pace", -28, 4);
        reads("pace 1;pace !", -17, 4);
        reads("pace 1;pace 9;", -17, 4);
        reads("pace 1;paces 1;", -17, 2);
        FrankPost x = told("pace 3;");
        feed(x, "pace 4;");
        due("text(), the first of its own", x.text(), 1);
    }

    private void tooMany() {
        says(TERMS, "5 the 6th ONE, the 7th letter (its NAME).");
        for (String kind : KIND_NAMES) {
            reads("sly 0 0;".repeat(4) + kind + " 0 0;", 5, 0);
            reads("sly 0 0;".repeat(5) + kind + " 0 0;", -50, 5);
        }
        reads("plain 0 0;proud 0 0;kind 0 0;sly 0 0;pace 1;plain 0 0; kind !", -65, 5);
        reads("sly 0 0;" + "letter 0 0 0 0;".repeat(6), 7, 0);
        reads("sly 0 0;" + "letter 0 0 0 0;".repeat(6) + " letter", -109, 5);
        reads("letter 0 0 0 0;".repeat(6) + "letter 9", -100, 5);
        reads("letter 0 0 0 0;".repeat(6) + "sly 0 0;".repeat(5) + "sly 0 0;", -140, 5);
    }

    private void noSuchOne() {
        says(TERMS, "Behind all (the length): 6 a ONE that there is not.");
        reads("letter 0 0 0 0;", -25, 6);
        reads("letter 0 0 0 0;  ", -27, 6);
        reads("plain 0 0;letter 0 0 0 0;", 2, 0);
        reads("plain 0 0;letter 1 0 0 0;", -35, 6);
        reads("plain 0 0;letter 0 1 0 0;", -35, 6);
        reads("plain 0 0;letter 0 0 1 0;", -35, 6);
        reads("letter 4 4 4 0;" + "sly 0 0;".repeat(4), -57, 6);
        reads("letter 4 4 4 0;" + "sly 0 0;".repeat(5), 6, 0);
        reads("plain 0 0;" + "letter 0 0 0 0;".repeat(5) + "letter 0 0 1 0;", -110, 6);
        reads("letter 1 0 0 0;pace 1;pace", -32, 4);
        reads("letter 1 0 0 0;!", -25, 1);
    }

    private void firstMet() {
        says(TERMS, "FAULTS, the first met as it is read (a TOKEN is read when the one before has been taken)");
        reads("plain 10 !", -16, 3);
        reads("plain 10 100;", -16, 3);
        reads("plain 100 !", -16, 1);
        reads("plain 0 21!", -18, 3);
        reads("plains !", -10, 2);
        reads("plain ; !", -16, 2);
        reads("plain 0 0 x!", -20, 2);
        reads("pace 0;pace 1;", -15, 3);
        reads("pace 1;pace 0;", -17, 4);
        reads("sly 0 0;".repeat(5) + "sly 10 !", -50, 5);
        reads("letter 4 0 0 19;", -17 - 6, 3);
        reads("!;", -10, 1);
    }

    private void taken() {
        says(TERMS, "A text that is taken tells all, in place of what there was (each LETTER is AT the DOOR of FROM); nothing is SEEN; IMAGES are gone.");
        FrankPost x = rich();
        x.end(0);
        feed(x, "letter 1 0 0 9;plain 3 4;sly 9 20;");
        due("text()", x.text(), 3);
        dueAll("rule", x, (y, a) -> y.rule(a[0]), 2, 1, 0, 2, 24, 0, 0);
        dueAll("letter(0)", x, (y, a) -> y.letter(0, a[0]), 1, 0, 0, 9, 9, 0);
        dueAll("one(0)", x, (y, a) -> y.one(0, a[0]), 0, 3, 4, 1);
        due("count(0)", x.count(0), 0);
        due("tones(0)", x.tones(0), 524287);
        due("count(1)", x.count(1), 0);
        due("back(0)", x.back(0), STATE);
        due("back(1)", x.back(1), STATE);
        due("one(2, 0)", x.one(2, 0), BAD);
        due("letter(1, 0)", x.letter(1, 0), BAD);
        // Of sheets, and of a read that was torn, a text tells nothing.
        due("count(3)", x.count(3), 9);
        due("torn()", x.torn(), 1);
    }

    private void rule() {
        says(6, "0 PEOPLE, 1 LETTERS, 2 DAY, 3 PACE, 4 MOODS, 5 which LETTERS CAME (bits), 6 which are KEPT (bits).");
        dueAll("rule of nobody", new FrankPost(), (y, a) -> y.rule(a[0]), 0, 0, 0, 2, 0, 0, 0);
        String six = "letter 0 0 0 6;".repeat(6);
        dueAll("rule, all on their way", told("kind 0 20;".repeat(5) + six), (y, a) -> y.rule(a[0]), 5, 6, 0, 2, 100, 0, 0);
        dueAll("rule, all came", told("plain 0 0;" + six, 2), (y, a) -> y.rule(a[0]), 1, 6, 2, 2, 0, 63, 0);
        dueAll("rule, all are kept", told("proud 0 0;pace 4;" + six, 1), (y, a) -> y.rule(a[0]), 1, 6, 1, 4, 0, 0, 63);
        dueAll("rule, the last alone", told("plain 0 0;" + "letter 0 0 0 0;".repeat(5) + "letter 0 0 0 9;", 2), (y, a) -> y.rule(a[0]), 1, 6, 2, 2, 0, 32, 31);
        says(6, "BAD.");
        bounds("rule", this::rich, (x, a) -> x.rule(a[0]), new int[] {0}, 0, 0, 6);
    }

    private void one() {
        says(7, "Of a ONE: 0 KIND, 1 DOOR, 2 MOOD, 3 LETTERS that are on their way to him (bits).");
        String six = "letter 0 1 0 9;".repeat(6);
        FrankPost x = told("sly 9 20;plain 0 0;" + six);
        dueAll("one(0)", x, (y, a) -> y.one(0, a[0]), 3, 9, 20, 63);
        dueAll("one(1)", x, (y, a) -> y.one(1, a[0]), 0, 0, 0, 0);
        x.days(1);
        due("one(0, 3), of leg 1", x.one(0, 3), 0);
        due("one(1, 3), of leg 1", x.one(1, 3), 63);
        x.days(5);
        due("one(0, 3), all came", x.one(0, 3), 0);
        due("one(1, 3), all came", x.one(1, 3), 0);
        FrankPost kept = told("proud 0 0;letter 0 0 0 8;letter 0 0 0 9;", 1);
        due("one(0, 3), one is kept", kept.one(0, 3), 2);
        says(7, "BAD.");
        boundsOfOne("one", (y, a) -> y.one(a[0], a[1]), new int[] {0, 0}, 0);
        bounds("one", this::rich, (y, a) -> y.one(a[0], a[1]), new int[] {0, 0}, 1, 0, 3);
    }

    private void letter() {
        says(8, "Of a LETTER: 0 FROM, 1 TO, 2 ABOUT, 3 TONE (as told), 4 AT, 5 LEG.");
        FrankPost x = told("sly 9 10;plain 0 10;letter 0 1 0 18;letter 1 0 1 0;");
        dueAll("letter(0)", x, (y, a) -> y.letter(0, a[0]), 0, 1, 0, 18, 9, 0);
        dueAll("letter(1)", x, (y, a) -> y.letter(1, a[0]), 1, 0, 1, 0, 0, 0);
        x.days(1);
        dueAll("letter(0), sent on", x, (y, a) -> y.letter(0, a[0]), 0, 1, 0, 18, 9, 1);
        dueAll("letter(1), kept", x, (y, a) -> y.letter(1, a[0]), 1, 0, 1, 0, 0, 3);
        x.days(4);
        dueAll("letter(0), near", x, (y, a) -> y.letter(0, a[0]), 0, 1, 0, 18, 1, 1);
        x.days(1);
        dueAll("letter(0), come", x, (y, a) -> y.letter(0, a[0]), 0, 1, 0, 18, 0, 2);
        says(8, "BAD.");
        boundsOfLetter("letter", (y, a) -> y.letter(a[0], a[1]), new int[] {0, 0}, 0);
        bounds("letter", this::rich, (y, a) -> y.letter(a[0], a[1]), new int[] {0, 0}, 1, 0, 5);
    }

    private void feels() {
        says(9, "40 more than what a ONE FEELS by a TONE (as told, 0 to 18).");
        FrankPost x = told("plain 0 0;proud 0 0;kind 0 0;sly 0 0;");
        int[] least = {31, 22, 36, 37}, most = {49, 58, 49, 50};
        for (int p = 0; p < 4; p++) {
            due("feels(" + p + ", 0)", x.feels(p, 0), least[p]);
            due("feels(" + p + ", 18)", x.feels(p, 18), most[p]);
        }
        x.alter(0, 0, 1);
        due("feels(0, 0), altered", x.feels(0, 0), 22);
        says(9, "BAD.");
        boundsOfOne("feels", (y, a) -> y.feels(a[0], a[1]), new int[] {0, 9}, 0);
        bounds("feels", this::rich, (y, a) -> y.feels(a[0], a[1]), new int[] {0, 9}, 1, 0, 18);
    }
}
