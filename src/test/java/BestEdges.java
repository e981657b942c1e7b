/** The edges of what is best, and of days without a post: promises 19 to 26. */
final class BestEdges extends Edges {
    @Override
    void run() {
        say();
        need();
        about();
        swap();
        stop();
        kind();
        luck();
        mean();
    }

    private void say() {
        says(19, "The TONE (as told) of a LETTER that is on its way by which MOODS are most behind n DAYS (0 to 60), of several the least (what 0), how much (1).");
        FrankPost x = told("plain 0 10;letter 0 0 0 9;");
        // Of no days all are as good; 7 above and its half make 20 of 10, and so do 8 and 9.
        int[][] say = {{0, 0, 10}, {1, 18, 19}, {2, 16, 20}, {60, 16, 20}};
        for (int[] s : say) dueAll("say(0, " + s[0] + ")", x, (y, a) -> y.say(0, s[0], a[0]), s[1], s[2]);
        due("letter(0, 3), as it was", x.letter(0, 3), 9);
        dueAll("say(0, 0) of moods of 0", told("plain 0 0;letter 0 0 0 9;"), (y, a) -> y.say(0, 0, a[0]), 0, 0);
        dueAll("say(0, 2) of moods of 20", told("plain 0 20;letter 0 0 0 0;"), (y, a) -> y.say(0, 2, a[0]), 9, 20);
        dueAll("say(0, 1) of leg 1", told("plain 0 10;letter 0 0 0 9;", 1), (y, a) -> y.say(0, 1, a[0]), 17, 14);
        dueAll("say(5, 60)", told("plain 0 20;" + "letter 0 0 0 9;".repeat(6)), (y, a) -> y.say(5, 60, a[0]), 9, 20);
        says(19, "BAD; STATE: it CAME, it is KEPT.");
        Call call = (y, a) -> y.say(a[0], a[1], a[2]);
        boundsOfLetter("say", call, new int[] {0, 0, 0}, 0);
        bounds("say", this::rich, call, new int[] {0, 0, 0}, 1, 0, 60);
        bounds("say", this::rich, call, new int[] {0, 0, 0}, 2, 0, 1);
        refused("say, came", this::ended, call, STATE, 0, 1, 0);
        refused("say, kept", this::ended, call, STATE, 1, 1, 1);
    }

    private void need() {
        says(20, "The least TONE (as told) of a LETTER that is on its way by which it CAME behind n DAYS (0 to 60).");
        int[] least = {6, 9, 0, 0};
        for (int k = 0; k < 4; k++) {
            FrankPost x = told(KIND_NAMES[k] + " 0 10;letter 0 0 0 9;");
            due("need(0, 1), a " + KIND_NAMES[k] + " one", x.need(0, 1), NONE);
            due("need(0, 2), a " + KIND_NAMES[k] + " one", x.need(0, 2), least[k]);
            due("need(0, 60), a " + KIND_NAMES[k] + " one", x.need(0, 60), least[k]);
            x.days(1);
            due("need(0, 1) of leg 1, a " + KIND_NAMES[k] + " one", x.need(0, 1), 0);
        }
        FrankPost far = told("plain 0 10;proud 9 10;letter 0 0 1 0;pace 1;");
        due("need(0, 18), of the longest way", far.need(0, 18), 9);
        due("letter(0, 3), as it was", far.letter(0, 3), 0);
        says(20, "BAD; STATE: it CAME, it is KEPT; NONE: by none.");
        due("need(0, 17), of the longest way", far.need(0, 17), NONE);
        due("need(0, 0)", far.need(0, 0), NONE);
        Call call = (y, a) -> y.need(a[0], a[1]);
        boundsOfLetter("need", call, new int[] {0, 0}, 0);
        bounds("need", this::rich, call, new int[] {0, 0}, 1, 0, 60);
        refused("need, came", this::ended, call, STATE, 0, 60);
        refused("need, kept", this::ended, call, STATE, 1, 60);
    }

    private void about() {
        says(21, "The ONE ABOUT whom a LETTER of LEG 0 had better be so that MOODS are most behind n DAYS (0 to 60), of several the first (what 0), how much (1).");
        FrankPost x = told("plain 0 10;sly 0 10;sly 0 10;letter 0 0 0 12;");
        dueAll("about(0, 0)", x, (y, a) -> y.about(0, 0, a[0]), 0, 30);
        dueAll("about(0, 1)", x, (y, a) -> y.about(0, 1, a[0]), 1, 34);
        due("letter(0, 2), as it was", x.letter(0, 2), 0);
        dueAll("about(0, 60), but one", told("plain 0 10;letter 0 0 0 6;"), (y, a) -> y.about(0, 60, a[0]), 0, 6);
        dueAll("about(0, 0) of moods of 0", told("plain 0 0;plain 0 0;letter 0 0 1 9;"), (y, a) -> y.about(0, 0, a[0]), 0, 0);
        dueAll("about(0, 1), the last", told("plain 0 10;".repeat(4) + "proud 0 10;letter 0 0 0 12;"), (y, a) -> y.about(0, 1, a[0]), 4, 56);
        says(21, "BAD; STATE: it is of another LEG.");
        Call call = (y, a) -> y.about(a[0], a[1], a[2]);
        boundsOfLetter("about", call, new int[] {0, 0, 0}, 0);
        bounds("about", this::rich, call, new int[] {0, 0, 0}, 1, 0, 60);
        bounds("about", this::rich, call, new int[] {0, 0, 0}, 2, 0, 1);
        refused("about, of leg 1", () -> told(ENDED, 1), call, STATE, 0, 1, 0);
        refused("about, came", this::ended, call, STATE, 0, 1, 0);
        refused("about, kept", this::ended, call, STATE, 1, 1, 0);
    }

    private void swap() {
        says(22, "Two ONES who are to change DOORS (LETTERS stay where they are) so that MOODS are most behind n DAYS (0 to 60), more than as it is: 10 times the lesser and the greater, of several the least (what 0), how much (1).");
        // The letter stays at 0, so whoever it is about reads it on the first day if he is moved there.
        FrankPost x = told("plain 0 10;plain 0 10;plain 9 10;letter 0 0 2 12;pace 1;");
        dueAll("swap(1), 02 and 12 are as good", x, (y, a) -> y.swap(1, a[0]), 2, 33);
        due("one(0, 1), as it was", x.one(0, 1), 0);
        dueAll("swap(1), the last two", told("plain 9 1;plain 9 1;plain 9 1;plain 0 1;plain 5 1;letter 3 3 4 12;pace 1;"), (y, a) -> y.swap(1, a[0]), 34, 8);
        dueAll("swap(1), the first two", told("plain 0 0;plain 9 0;letter 0 0 1 10;pace 1;"), (y, a) -> y.swap(1, a[0]), 1, 1);
        dueAll("swap(1), the lesser is the one who is moved there", told("plain 9 0;plain 0 0;letter 1 1 0 10;pace 1;"), (y, a) -> y.swap(1, a[0]), 1, 1);
        says(22, "BAD; NONE: by none.");
        dueAll("swap(0), nothing is read", x, (y, a) -> y.swap(0, a[0]), NONE, NONE);
        dueAll("swap(60), as much as it is", x, (y, a) -> y.swap(60, a[0]), NONE, NONE);
        dueAll("swap(60) of nobody", new FrankPost(), (y, a) -> y.swap(60, a[0]), NONE, NONE);
        dueAll("swap(60) of one", told("plain 0 10;letter 0 0 0 12;"), (y, a) -> y.swap(60, a[0]), NONE, NONE);
        dueAll("swap(1), less than it is", told("plain 0 10;plain 9 10;letter 0 0 0 12;"), (y, a) -> y.swap(1, a[0]), NONE, NONE);
        Call call = (y, a) -> y.swap(a[0], a[1]);
        bounds("swap", this::rich, call, new int[] {0, 0}, 0, 0, 60);
        bounds("swap", this::rich, call, new int[] {0, 0}, 1, 0, 1);
        refused("swap", this::many, call, NONE, 0, 0);
    }

    private void stop() {
        says(23, "The LETTER that had better be KEPT now, of those that are on their way, so that MOODS are most behind n DAYS (0 to 60), more than as it is, of several the first (what 0), how much (1).");
        FrankPost x = told("plain 0 10;letter 0 0 0 8;letter 0 0 0 6;letter 0 0 0 6;");
        dueAll("stop(1), 1 and 2 are as good", x, (y, a) -> y.stop(1, a[0]), 1, 6);
        due("letter(1, 5), as it was", x.letter(1, 5), 0);
        x.days(1);
        dueAll("stop(1), of leg 1", x, (y, a) -> y.stop(1, a[0]), 1, 2);
        dueAll("stop(60), the first", told("proud 0 20;letter 0 0 0 0;"), (y, a) -> y.stop(60, a[0]), 0, 20);
        dueAll("stop(1), the last", told("plain 0 10;" + "letter 0 0 0 9;".repeat(5) + "letter 0 0 0 8;"), (y, a) -> y.stop(1, a[0]), 5, 10);
        says(23, "BAD; NONE: none.");
        x.days(1);
        dueAll("stop(60), all came", x, (y, a) -> y.stop(60, a[0]), NONE, NONE);
        dueAll("stop(0), nothing is read", told("plain 0 10;letter 0 0 0 0;"), (y, a) -> y.stop(0, a[0]), NONE, NONE);
        dueAll("stop(1), as much as it is", told("plain 0 10;letter 0 0 0 9;"), (y, a) -> y.stop(1, a[0]), NONE, NONE);
        dueAll("stop(1), less than it is", told("plain 0 10;letter 0 0 0 10;"), (y, a) -> y.stop(1, a[0]), NONE, NONE);
        dueAll("stop(60) of no letters", told("plain 0 10;"), (y, a) -> y.stop(60, a[0]), NONE, NONE);
        dueAll("stop(60) of nobody", new FrankPost(), (y, a) -> y.stop(60, a[0]), NONE, NONE);
        Call call = (y, a) -> y.stop(a[0], a[1]);
        bounds("stop", this::rich, call, new int[] {0, 0}, 0, 0, 60);
        bounds("stop", this::rich, call, new int[] {0, 0}, 1, 0, 1);
        refused("stop", this::many, call, NONE, 0, 0);
    }

    private void kind() {
        says(24, "The KIND of a ONE by which MOODS are most behind n DAYS (0 to 60), of several the first (what 0), how much (1).");
        FrankPost x = told("sly 0 10;letter 0 0 0 12;");
        dueAll("kind(0, 0), all are as good", x, (y, a) -> y.kind(0, 0, a[0]), 0, 10);
        dueAll("kind(0, 1)", x, (y, a) -> y.kind(0, 1, a[0]), 1, 16);
        due("one(0, 0), as it was", x.one(0, 0), 3);
        dueAll("kind(0, 1), the last", told("plain 0 10;letter 0 0 0 5;"), (y, a) -> y.kind(0, 1, a[0]), 3, 9);
        // Plain and kind feel alike above nothing, and a proud one that much twice; full is full.
        dueAll("kind(0, 1) of 20", told("sly 0 20;letter 0 0 0 12;"), (y, a) -> y.kind(0, 1, a[0]), 0, 20);
        dueAll("kind(0, 60), as good", told("sly 0 0;plain 0 0;letter 1 1 1 0;"), (y, a) -> y.kind(0, 60, a[0]), 0, 0);
        says(24, "BAD.");
        Call call = (y, a) -> y.kind(a[0], a[1], a[2]);
        boundsOfOne("kind", call, new int[] {0, 0, 0}, 0);
        bounds("kind", this::rich, call, new int[] {0, 0, 0}, 1, 0, 60);
        bounds("kind", this::rich, call, new int[] {0, 0, 0}, 2, 0, 1);
    }

    private void luck() {
        says(25, "On each of n DAYS (0 to 8) there is no post by v out of ten (0 to 10), by itself (nothing is done): that a LETTER CAME behind them: 0, 1.");
        FrankPost x = told("plain 0 10;letter 0 0 0 12;letter 0 0 0 0;");
        luckIs(x, 0, 0, 0, 0, 1);
        luckIs(x, 0, 0, 1, 0, 1);
        luckIs(x, 0, 0, 2, 1, 1);
        luckIs(x, 0, 0, 8, 1, 1);
        luckIs(x, 10, 0, 8, 0, 1);
        luckIs(x, 10, 0, 0, 0, 1);
        luckIs(x, 5, 0, 2, 1, 4);
        // By 9 of ten there is none: 1 less 9 to the 8th and 8 times 9 to the 7th, of 10 to the 8th.
        luckIs(x, 9, 0, 8, 100000000L - 43046721L - 8L * 4782969L, 100000000);
        luckIs(x, 1, 0, 8, 99999927, 100000000);
        luckIs(x, 0, 1, 8, 0, 1);
        due("rule(2), as it was", x.rule(2), 0);
        x.days(2);
        luckIs(x, 10, 0, 0, 1, 1);
        luckIs(x, 10, 0, 8, 1, 1);
        luckIs(x, 3, 0, 8, 1, 1);
        luckIs(x, 0, 1, 8, 0, 1);
        // Eight days are just enough for four doors there and four back, one by one.
        luckIs(told("plain 0 10;plain 4 10;letter 0 0 1 9;pace 1;"), 5, 0, 8, 1, 256);
        luckIs(told("plain 0 10;plain 5 10;letter 0 0 1 9;pace 1;"), 0, 0, 8, 0, 1);
        says(25, "BAD.");
        Call call = (y, a) -> y.luck(a[0], a[1], a[2], a[3]);
        bounds("luck", this::rich, call, new int[] {5, 0, 2, 0}, 0, 0, 10);
        boundsOfLetter("luck", call, new int[] {5, 0, 2, 0}, 1);
        bounds("luck", this::rich, call, new int[] {5, 0, 2, 0}, 2, 0, 8);
        bounds("luck", this::rich, call, new int[] {5, 0, 2, 0}, 3, 0, 1);
    }

    private void meanIs(FrankPost x, int v, int n, long over, long under) {
        due("mean(" + v + ", " + n + ", 0)", x.mean(v, n, 0), over);
        due("mean(" + v + ", " + n + ", 1)", x.mean(v, n, 1), under);
    }

    private void mean() {
        says(26, "Likewise, the mean of MOODS behind them: 0, 1.");
        FrankPost x = told("plain 0 10;letter 0 0 0 12;");
        meanIs(x, 0, 0, 10, 1);
        meanIs(x, 10, 8, 10, 1);
        meanIs(x, 0, 8, 14, 1);
        meanIs(x, 5, 2, 25, 2);
        meanIs(x, 9, 1, 103, 10);
        meanIs(x, 1, 1, 127, 10);
        meanIs(new FrankPost(), 5, 8, 0, 1);
        meanIs(told("plain 0 0;letter 0 0 0 0;"), 5, 8, 0, 1);
        meanIs(told("plain 0 20;".repeat(5)), 5, 8, 100, 1);
        // 90 of one way, 93 of 72, 94 of all others, of 10 to the 8th: too much for an int even in lowest terms.
        meanIs(told("plain 0 20;".repeat(4) + "plain 0 10;letter 4 4 4 12;"), 1, 8, 2349999981L, 25000000L);
        says(26, "BAD.");
        Call call = (y, a) -> y.mean(a[0], a[1], a[2]);
        bounds("mean", this::rich, call, new int[] {5, 2, 0}, 0, 0, 10);
        bounds("mean", this::rich, call, new int[] {5, 2, 0}, 1, 0, 8);
        bounds("mean", this::rich, call, new int[] {5, 2, 0}, 2, 0, 1);
    }
}
