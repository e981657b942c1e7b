/** The edges of what is changed, and of days: promises 10 to 18. */
final class ChangeEdges extends Edges {
    @Override
    void run() {
        alter();
        tone();
        pace();
        write();
        burn();
        days();
        runs();
        ahead();
        comes();
    }

    private void alter() {
        says(10, "KIND, DOOR, MOOD (what 0 to 2) of a ONE becomes v: what it was.");
        FrankPost x = told("plain 1 2;plain 3 4;letter 0 0 0 9;");
        int[] most = {3, 9, 20}, was = {0, 1, 2};
        for (int what = 0; what <= 2; what++) {
            due("alter(0, " + what + ", most)", x.alter(0, what, most[what]), was[what]);
            due("alter(0, " + what + ", most), again", x.alter(0, what, most[what]), most[what]);
            due("one(0, " + what + ")", x.one(0, what), most[what]);
            due("alter(0, " + what + ", 0)", x.alter(0, what, 0), most[what]);
            due("one(0, " + what + ")", x.one(0, what), 0);
        }
        dueAll("one(1), the other", x, (y, a) -> y.one(1, a[0]), 0, 3, 4);
        due("letter(0, 4) stays where it is", x.letter(0, 4), 1);
        says(10, "BAD.");
        Call alter = (y, a) -> y.alter(a[0], a[1], a[2]);
        boundsOfOne("alter", alter, new int[] {0, 0, 0}, 0);
        bounds("alter", this::rich, alter, new int[] {0, 0, 0}, 1, 0, 2);
        for (int what = 0; what <= 2; what++) bounds("alter", this::rich, alter, new int[] {2, what, 0}, 2, 0, most[what]);
    }

    private void tone() {
        says(11, "TONE of a LETTER becomes v (as told): what it was.");
        FrankPost x = told("plain 0 10;letter 0 0 0 9;letter 0 0 0 7;");
        due("tone(0, 18)", x.tone(0, 18), 9);
        due("tone(0, 0)", x.tone(0, 0), 18);
        due("letter(0, 3)", x.letter(0, 3), 0);
        due("letter(1, 3), the other", x.letter(1, 3), 7);
        x.days(1);
        due("tone(1, 18) of leg 1", x.tone(1, 18), 7);
        says(11, "BAD; STATE: it CAME, it is KEPT.");
        Call tone = (y, a) -> y.tone(a[0], a[1]);
        boundsOfLetter("tone", tone, new int[] {0, 9}, 0);
        bounds("tone", this::rich, tone, new int[] {0, 9}, 1, 0, 18);
        refused("tone, came", this::ended, tone, STATE, 0, 9);
        refused("tone, kept", this::ended, tone, STATE, 1, 0);
    }

    private void pace() {
        says(12, "PACE becomes v: what it was.");
        FrankPost x = new FrankPost();
        due("pace(1)", x.pace(1), 2);
        due("pace(4)", x.pace(4), 1);
        due("pace(4)", x.pace(4), 4);
        due("rule(3)", x.rule(3), 4);
        says(12, "BAD.");
        bounds("pace", this::rich, (y, a) -> y.pace(a[0]), new int[] {1}, 0, 1, 4);
    }

    private void write() {
        says(13, "A LETTER more (its TONE as told): how many there are.");
        FrankPost x = told("plain 1 10;sly 9 10;");
        x.alter(0, 1, 5);
        due("write(0, 1, 0, 0)", x.write(0, 1, 0, 0), 1);
        due("write(1, 0, 1, 18)", x.write(1, 0, 1, 18), 2);
        dueAll("letter(0)", x, (y, a) -> y.letter(0, a[0]), 0, 1, 0, 0, 5, 0);
        dueAll("letter(1)", x, (y, a) -> y.letter(1, a[0]), 1, 0, 1, 18, 9, 0);
        says(13, "BAD; FULL.");
        Call write = (y, a) -> y.write(a[0], a[1], a[2], a[3]);
        for (int at = 0; at <= 2; at++) bounds("write", this::rich, write, new int[] {0, 0, 0, 9}, at, 0, 2);
        bounds("write", this::rich, write, new int[] {0, 0, 0, 9}, 3, 0, 18);
        refused("write by nobody", FrankPost::new, write, BAD, 0, 0, 0, 0);
        refused("write, the seventh", this::many, write, FULL, 0, 0, 0, 9);
        for (int n = 3; n <= 6; n++) due("write", x.write(0, 0, 0, 9), n);
        due("write, the seventh", x.write(0, 0, 0, 9), FULL);
        x.burn(5);
        due("write, room for one", x.write(0, 0, 0, 9), 6);
        due("write, full again", x.write(0, 0, 0, 9), FULL);
    }

    private void burn() {
        says(14, "LETTERS are the first n alone: how many there were.");
        FrankPost x = many();
        due("burn(6), all stay", x.burn(6), 6);
        due("burn(5)", x.burn(5), 6);
        dueAll("letter(4), the last", x, (y, a) -> y.letter(4, a[0]), 4, 0, 1, 9, 8, 0);
        due("letter(5, 0), burnt", x.letter(5, 0), BAD);
        due("one(0, 3)", x.one(0, 3), 8);
        due("burn(0)", x.burn(0), 5);
        due("burn(0) of none", x.burn(0), 0);
        due("rule(1)", x.rule(1), 0);
        FrankPost ended = ended();
        ended.burn(0);
        due("rule(5), burnt", ended.rule(5), 0);
        due("rule(6), burnt", ended.rule(6), 0);
        due("write in the place of what was burnt", ended.write(0, 0, 0, 3), 1);
        dueAll("letter(0), new", ended, (y, a) -> y.letter(0, a[0]), 0, 0, 0, 3, 0, 0);
        says(14, "BAD.");
        Call burn = (y, a) -> y.burn(a[0]);
        bounds("burn", this::rich, burn, new int[] {0}, 0, 0, 2);
        bounds("burn", this::many, burn, new int[] {0}, 0, 0, 6);
        refused("burn of none", FrankPost::new, burn, BAD, 1);
    }

    private void days() {
        says(15, "n DAYS (0 to 30): how many LETTERS CAME in them.");
        FrankPost x = told("plain 0 10;" + "letter 0 0 0 9;".repeat(5) + "letter 0 0 0 0;");
        due("days(0)", x.days(0), 0);
        due("rule(2)", x.rule(2), 0);
        due("days(1), all are sent on or kept", x.days(1), 0);
        due("days(1)", x.days(1), 5);
        due("days(30), those are not told again", x.days(30), 0);
        due("rule(2)", x.rule(2), 32);
        due("days(30) of six", told("plain 0 10;" + "letter 0 0 0 9;".repeat(6)).days(30), 6);
        due("days(17), of the longest way", told("sly 0 0;sly 9 0;letter 0 0 1 0;pace 1;").days(17), 0);
        due("days(18), of the longest way", told("sly 0 0;sly 9 0;letter 0 0 1 0;pace 1;").days(18), 1);
        says(15, "BAD; FULL: DAY would be 1000 or more.");
        Call days = (y, a) -> y.days(a[0]);
        bounds("days", this::rich, days, new int[] {0}, 0, 0, 30);
        refused("days, 1000", () -> atDay(970), days, FULL, 30);
        refused("days, 1001", () -> atDay(971), days, FULL, 30);
        refused("days, 1000", () -> atDay(999), days, FULL, 1);
        due("days(29) at 970", atDay(970).days(29), 1);
        due("days(0) at 999", atDay(999).days(0), 0);
        due("rule(2)", atDay(999).rule(2), 999);
        due("days(31) at 999", atDay(999).days(31), BAD);
        due("days(-1) at 999", atDay(999).days(-1), BAD);
    }

    /** A letter that is on its way there, and so far on. */
    private FrankPost atDay(int day) {
        FrankPost x = told("plain 0 10;");
        for (int d = 0; d + 30 <= day; d += 30) x.days(30);
        x.days(day % 30);
        x.write(0, 0, 0, 12);
        return x;
    }

    private void runs() {
        says(16, "BY DAYS, n of them (0 to 60): MOODS then (what 0), which LETTERS CAME (1; bits), which are KEPT (2; bits), on how many of them nobody reads anything (3).");
        FrankPost x = told("plain 0 10;plain 9 10;letter 0 0 1 12;letter 1 1 1 5;pace 3;");
        int[][] runs = {{0, 20, 0, 0, 0}, {1, 16, 0, 2, 0}, {2, 16, 0, 2, 1}, {3, 19, 0, 2, 1}, {5, 19, 0, 2, 3}, {6, 20, 1, 2, 3}, {60, 20, 1, 2, 57}};
        for (int[] r : runs) dueAll("runs(" + r[0] + ")", x, (y, a) -> y.runs(r[0], a[0]), r[1], r[2], r[3], r[4]);
        dueAll("runs(0), all came", ended(), (y, a) -> y.runs(0, a[0]), 1, 1, 2, 0);
        dueAll("runs(60), all came", ended(), (y, a) -> y.runs(60, a[0]), 1, 1, 2, 60);
        dueAll("runs(60) of nobody", new FrankPost(), (y, a) -> y.runs(60, a[0]), 0, 0, 0, 60);
        says(16, "BAD.");
        Call call = (y, a) -> y.runs(a[0], a[1]);
        bounds("runs", this::rich, call, new int[] {0, 0}, 0, 0, 60);
        bounds("runs", this::rich, call, new int[] {0, 0}, 1, 0, 3);
    }

    private void ahead() {
        says(17, "BY DAYS: MOOD of a ONE behind n of them (0 to 60).");
        FrankPost x = told("plain 0 10;plain 9 10;letter 0 0 1 12;pace 1;");
        int[][] want = {{0, 10, 10}, {8, 10, 10}, {9, 10, 13}, {17, 10, 13}, {18, 11, 13}, {60, 11, 13}};
        for (int[] w : want) for (int p = 0; p <= 1; p++) due("ahead(" + p + ", " + w[0] + ")", x.ahead(p, w[0]), w[p + 1]);
        says(17, "BAD.");
        Call ahead = (y, a) -> y.ahead(a[0], a[1]);
        boundsOfOne("ahead", ahead, new int[] {0, 0}, 0);
        bounds("ahead", this::rich, ahead, new int[] {0, 0}, 1, 0, 60);
    }

    private void comes() {
        says(18, "BY DAYS: behind how many (0 to 60) a LETTER CAME first.");
        due("comes(0), at once there", told("plain 0 10;letter 0 0 0 9;").comes(0), 2);
        due("comes(0), of leg 1", told("plain 0 10;letter 0 0 0 9;", 1).comes(0), 1);
        due("comes(0), come", told("plain 0 10;letter 0 0 0 9;", 2).comes(0), 0);
        due("comes(0), come long ago", told("plain 0 10;letter 0 0 0 9;", 30).comes(0), 0);
        due("comes(0), of the longest way", told("sly 0 0;sly 9 0;letter 0 0 1 0;pace 1;").comes(0), 18);
        says(18, "BAD; NONE: behind none.");
        due("comes(0), to be kept", told("plain 0 10;letter 0 0 0 5;").comes(0), NONE);
        due("comes(0), kept", told("plain 0 10;letter 0 0 0 5;", 1).comes(0), NONE);
        due("comes(0), not to be kept", told("plain 0 10;letter 0 0 0 6;").comes(0), 2);
        boundsOfLetter("comes", (y, a) -> y.comes(a[0]), new int[] {0}, 0);
    }
}
