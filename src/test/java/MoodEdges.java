/** The edges of what is told from moods, and of days by a seed: promises 27 to 32. */
final class MoodEdges extends Edges {
    private static final int ALL_TONES = 524287;

    @Override
    void run() {
        see();
        forget();
        kinds();
        tones();
        ask();
        drift();
    }

    /** FEW, with as many sights as there may be. */
    private FrankPost seenSix() {
        FrankPost x = few();
        for (int n = 0; n < 6; n++) x.see(0, 0, 10);
        return x;
    }

    private void see() {
        says(27, "SEEN: behind n DAYS (0 to 20) MOOD of a ONE is v (0 to 20): how many are.");
        FrankPost x = told("plain 0 0;plain 0 20;");
        due("see(0, 0, 0)", x.see(0, 0, 0), 1);
        due("see(20, 1, 20)", x.see(20, 1, 20), 2);
        due("see(20, 1, 20), the same again", x.see(20, 1, 20), 3);
        due("kinds(0), all is so", x.kinds(0), 15);
        due("see(20, 1, 0), what can not be", x.see(20, 1, 0), 4);
        due("kinds(0), it is not so", x.kinds(0), 0);
        says(27, "BAD; FULL.");
        Call see = (y, a) -> y.see(a[0], a[1], a[2]);
        bounds("see", this::rich, see, new int[] {0, 0, 0}, 0, 0, 20);
        boundsOfOne("see", see, new int[] {0, 0, 0}, 1);
        bounds("see", this::rich, see, new int[] {0, 0, 0}, 2, 0, 20);
        due("see, the fifth", x.see(0, 0, 0), 5);
        due("see, the sixth", x.see(0, 0, 0), 6);
        due("see, the seventh", x.see(0, 0, 0), FULL);
        refused("see, the seventh", this::seenSix, see, FULL, 0, 0, 10);
        x.forget(5);
        due("see, room for one", x.see(0, 0, 0), 6);
        due("see, full again", x.see(0, 0, 0), FULL);
    }

    private void forget() {
        says(28, "SEEN are the first n alone: how many there were.");
        FrankPost x = told("plain 0 10;letter 0 0 0 12;");
        x.see(1, 0, 13);
        x.see(2, 0, 14);
        x.see(0, 0, 0);
        due("kinds(0), by all three", x.kinds(0), 0);
        due("forget(3), all stay", x.forget(3), 3);
        due("kinds(0), by all three", x.kinds(0), 0);
        due("forget(2)", x.forget(2), 3);
        due("kinds(0), by two", x.kinds(0), 1);
        due("forget(1)", x.forget(1), 2);
        due("kinds(0), by one", x.kinds(0), 5);
        due("forget(0)", x.forget(0), 1);
        due("kinds(0), by none", x.kinds(0), 15);
        due("forget(0) of none", x.forget(0), 0);
        says(28, "BAD.");
        Call forget = (y, a) -> y.forget(a[0]);
        bounds("forget", this::rich, forget, new int[] {0}, 0, 0, 1);
        bounds("forget", this::seenSix, forget, new int[] {0}, 0, 0, 6);
        refused("forget of none", FrankPost::new, forget, BAD, 1);
    }

    private void kinds() {
        says(29, "KINDS of a ONE (bits) by which, all else as it is, all is as SEEN.");
        FrankPost x = told("plain 0 10;sly 0 0;letter 0 0 0 12;");
        due("kinds(0), nothing is seen", x.kinds(0), 15);
        int[][] sights = {{0, 10, 15}, {0, 9, 0}, {0, 11, 0}, {1, 13, 5}, {1, 16, 2}, {1, 14, 8}, {1, 10, 0}, {2, 14, 1}, {20, 14, 1}, {20, 19, 2}, {20, 15, 4}, {20, 17, 8}, {20, 0, 0}};
        for (int[] s : sights) {
            x.see(s[0], 0, s[1]);
            due("kinds(0) by see(" + s[0] + ", 0, " + s[1] + ")", x.kinds(0), s[2]);
            x.forget(0);
        }
        x.see(1, 0, 13);
        due("kinds(1), of whom it does not tell", x.kinds(1), 15);
        due("one(0, 0), as it was", x.one(0, 0), 0);
        x.see(1, 0, 14);
        due("kinds(0), by two that are never so at once", x.kinds(0), 0);
        says(29, "BAD.");
        boundsOfOne("kinds", (y, a) -> y.kinds(a[0]), new int[] {0}, 0);
    }

    private void tones() {
        says(30, "TONES (as told, bits 0 to 18) of a LETTER that is on its way by which, all else as it is, all is as SEEN.");
        FrankPost x = told("plain 0 9;letter 0 0 0 9;");
        due("tones(0), nothing is seen", x.tones(0), ALL_TONES);
        int[][] sights = {{0, 9, ALL_TONES}, {0, 8, 0}, {1, 0, 1}, {1, 9, 1 << 9}, {1, 18, 1 << 18}, {1, 19, 0}, {20, 9, 1 << 9}};
        for (int[] s : sights) {
            x.see(s[0], 0, s[1]);
            due("tones(0) by see(" + s[0] + ", 0, " + s[1] + ")", x.tones(0), s[2]);
            x.forget(0);
        }
        due("letter(0, 3), as it was", x.letter(0, 3), 9);
        FrankPost glad = told("plain 0 20;letter 0 0 0 9;");
        glad.see(1, 0, 20);
        due("tones(0), glad", glad.tones(0), ALL_TONES & -1 << 9);
        FrankPost sad = told("plain 0 0;letter 0 0 0 9;");
        sad.see(1, 0, 0);
        due("tones(0), sad", sad.tones(0), (1 << 10) - 1);
        sad.forget(0);
        sad.days(1);
        sad.see(1, 0, 0);
        due("tones(0) of leg 1", sad.tones(0), (1 << 11) - 1);
        says(30, "BAD; STATE: it CAME, it is KEPT.");
        Call tones = (y, a) -> y.tones(a[0]);
        boundsOfLetter("tones", tones, new int[] {0}, 0);
        refused("tones, came", this::ended, tones, STATE, 0);
        refused("tones, kept", this::ended, tones, STATE, 1);
    }

    private void asks(String when, FrankPost x, int answer, int left) {
        dueAll("ask(0), " + when, x, (y, a) -> y.ask(0, a[0]), answer, left);
    }

    private void ask() {
        says(31, "Behind how many DAYS (0 to 20), whom to ask how his MOOD is, so that of tones() of a LETTER fewest are left at the worst, fewer than now: 10 times the DAYS and who, of several the least (what 0), how many these are (1).");
        // All days from the first on tell the same, of one who is in the middle.
        asks("the least of several days", told("plain 9 10;plain 0 10;letter 1 1 1 9;"), 11, 1);
        // Of a sad one 10 of the 19 leave the mood at 0; to the other 9 leave it as it was.
        asks("another day", told("plain 0 0;plain 0 10;letter 0 1 0 9;"), 21, 9);
        asks("the last one", told("plain 9 1;plain 9 1;plain 9 1;plain 9 1;plain 0 10;letter 4 4 4 9;"), 14, 1);
        asks("the first one", told("plain 0 10;plain 0 10;letter 0 1 0 9;"), 10, 1);
        asks("of leg 1", told("plain 9 10;plain 0 10;letter 1 1 1 9;", 1), 11, 3);
        asks("far on", told("plain 9 10;plain 0 0;letter 1 1 0 9;pace 1;"), 90, 1);
        // 5 to 9 above nothing all make 20 of 15, and 5 to 9 below make 0 of 5; what another one feels is not of it.
        asks("of a glad one", told("plain 9 20;plain 0 15;letter 1 1 1 9;"), 11, 5);
        asks("of a sad one", told("plain 9 0;plain 0 5;letter 1 1 1 9;"), 11, 5);
        FrankPost x = told("plain 0 19;plain 0 10;letter 0 1 0 9;");
        x.see(1, 0, 20);
        due("tones(0)", x.tones(0), ALL_TONES & -1 << 10);
        asks("of nine that are left", x, 21, 2);
        for (int n = 0; n < 5; n++) x.see(20, 0, 20);
        asks("as many are seen as may be", x, 21, 2);
        says(31, "BAD; STATE: it CAME, it is KEPT; NONE: none.");
        x.forget(1);
        x.see(2, 1, 10);
        asks("one is left", x, NONE, NONE);
        x.see(0, 0, 0);
        asks("none is left", x, NONE, NONE);
        FrankPost proud = told("proud 0 0;letter 0 0 0 9;");
        proud.see(1, 0, 0);
        due("tones(0)", proud.tones(0), (1 << 10) - 1);
        asks("nobody can tell", proud, NONE, NONE);
        FrankPost glad = told("plain 0 15;letter 0 0 0 9;");
        glad.see(1, 0, 20);
        due("tones(0)", glad.tones(0), ALL_TONES & -1 << 14);
        asks("nobody can tell of the last five", glad, NONE, NONE);
        Call ask = (y, a) -> y.ask(a[0], a[1]);
        boundsOfLetter("ask", ask, new int[] {0, 0}, 0);
        bounds("ask", this::rich, ask, new int[] {0, 0}, 1, 0, 1);
        refused("ask, came", this::ended, ask, STATE, 0, 0);
        refused("ask, kept", this::ended, ask, STATE, 1, 1);
    }

    private void drift() {
        says(32, "By itself, n DAYS (1 to 60) by a seed: ahead of each the seed becomes seed times 1103515245 and 12345; bits 16 to 30 of it are got");
        FrankPost x = told("plain 0 10;letter 0 0 0 9;");
        String before = state(x);
        // 12345 has no bits from 16 on: tone 0, 9 below nothing.
        due("drift(0, 1, 0)", x.drift(0, 1, 0), 1);
        // 3554416254, of which bits 16 to 30 are 21468: tone 2683 modulo 19, 5 below nothing.
        due("drift(0, 2, 0)", x.drift(0, 2, 0), 0);
        // It wraps around: 3191464396 as well as 1043980748 have 15929 there: tone 1991 modulo 19, 6 above nothing.
        due("drift(-1, 1, 0)", x.drift(-1, 1, 0), 16);
        due("drift(MOST, 1, 0)", x.drift(MOST, 1, 0), 16);
        // Bit 31 is not got.
        due("drift(LEAST, 1, 0)", x.drift(LEAST, 1, 0), 1);
        holds("drift is by itself", state(x).equals(before));
        says(32, "LETTER got modulo LETTERS is AT the DOOR of FROM again, of LEG 0, its TONE (as told) got by 8 (down) modulo 19: MOODS in the end (what 0), how many times a LETTER CAME in them (1).");
        // The only one begins anew each day, so it never comes.
        due("drift(1, 60, 1) of one letter", x.drift(1, 60, 1), 0);
        FrankPost two = told("plain 0 10;plain 3 10;letter 0 0 0 9;letter 1 1 1 12;");
        // Of seed 1: 16838, letter 0, its tone 2104 modulo 19, 14; the other is read too.
        dueAll("drift(1, 1)", two, (y, a) -> y.drift(1, 1, a[0]), 28, 0);
        // Then 5758, letter 0 again, its tone 719 modulo 19, 16; the other comes.
        dueAll("drift(1, 2)", two, (y, a) -> y.drift(1, 2, a[0]), 34, 1);
        two.days(2);
        dueAll("drift(1, 1), both came ahead", two, (y, a) -> y.drift(1, 1, a[0]), two.rule(4) + 5, 0);
        says(32, "BAD; STATE: there are no LETTERS.");
        Call drift = (y, a) -> y.drift(a[0], a[1], a[2]);
        bounds("drift", this::rich, drift, new int[] {7, 1, 0}, 1, 1, 60);
        bounds("drift", this::rich, drift, new int[] {7, 1, 0}, 2, 0, 1);
        for (int seed : new int[] {LEAST, -1, 0, 1, MOST}) {
            refused("drift of no letters", () -> told("plain 0 10;"), drift, STATE, seed, 1, 0);
            refused("drift of nobody", FrankPost::new, drift, STATE, seed, 60, 1);
        }
    }
}
