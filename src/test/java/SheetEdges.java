/** The edges of images and of sheets: promises 33 to 39. */
final class SheetEdges extends Edges {
    @Override
    void run() {
        keep();
        back();
        sheet();
        lay();
        lowestBits();
        read();
        readRefusedByTheMachine();
        readRefusedByWrite();
        torn();
        count();
    }

    private void keep() {
        says(33, "IMAGE k (0, 1) is PEOPLE, LETTERS (all of them), PACE, DAY, what was SEEN: whether there was one (1, 0).");
        for (int k = 0; k <= 1; k++) {
            FrankPost x = many();
            x.see(3, 4, 10);
            x.days(2);
            String kept = state(x);
            due("keep(" + k + ") for the first time", x.keep(k), 0);
            due("keep(" + k + ") again", x.keep(k), 1);
            due("count(1)", x.count(1), 1);
            due("back of the other", x.back(1 - k), STATE);
            spoil(x);
            due("back(" + k + ")", x.back(k), 2);
            holds("all is as it was", state(x).equals(kept));
        }
        FrankPost nobody = new FrankPost();
        due("keep(0) of nobody", nobody.keep(0), 0);
        due("back(0) of nobody", nobody.back(0), 0);
        says(33, "BAD.");
        bounds("keep", this::rich, (x, a) -> x.keep(a[0]), new int[] {0}, 0, 0, 1);
        bounds("keep", FrankPost::new, (x, a) -> x.keep(a[0]), new int[] {0}, 0, 0, 1);
    }

    private static void spoil(FrankPost x) {
        for (int p = 0; p < 5; p++) {
            x.alter(p, 0, 1);
            x.alter(p, 1, 9);
            x.alter(p, 2, 0);
        }
        x.pace(4);
        x.days(9);
        x.forget(0);
        x.see(1, 1, 1);
        x.burn(0);
        for (int n = 0; n < 6; n++) x.write(4, 4, 4, 18);
    }

    private void back() {
        says(34, "All is as IMAGE k: DAY.");
        FrankPost x = told(FEW);
        x.keep(0);
        x.days(30);
        x.keep(1);
        due("back(0)", x.back(0), 0);
        due("rule(2)", x.rule(2), 0);
        due("back(1)", x.back(1), 30);
        due("rule(2)", x.rule(2), 30);
        due("back(0), again", x.back(0), 0);
        x.alter(0, 2, 3);
        x.burn(0);
        due("back(0), what is changed behind is not of it", x.back(0), 0);
        due("one(0, 2)", x.one(0, 2), 10);
        due("rule(1)", x.rule(1), 2);
        due("count(1), both are there still", x.count(1), 2);
        // The tape and sheets are of no image.
        x.sheet(0, 0, 7);
        feed(x, "pace");
        x.back(1);
        due("count(3)", x.count(3), 7);
        due("count(2)", x.count(2), 4);
        says(34, "BAD; STATE: there is none.");
        Call back = (y, a) -> y.back(a[0]);
        bounds("back", this::rich, back, new int[] {0}, 0, 0, 1);
        refused("back of none", this::few, back, STATE, 0);
        refused("back of none", this::few, back, STATE, 1);
        refused("back of none, too large", this::few, back, BAD, 2);
    }

    private void sheet() {
        says(35, "A SHEET is a new row of CELLS 0: 1.");
        for (int k = 0; k <= 3; k++) {
            for (int lane = 0; lane <= 2; lane++) {
                FrankPost x = told("plain 0 10;");
                due("sheet(" + k + ", " + lane + ", 4)", x.sheet(k, lane, 4), 1);
                x.lay(k, 3, 18);
                due("sheet(" + k + ", " + lane + ", 4), new", x.sheet(k, lane, 4), 1);
                due("read of it", x.read(k, lane, 0, 1), 1);
                due("letter(0, 3)", x.letter(0, 3), 0);
                x.lay(k, 0, 1);
                x.sheet(k, 2 - lane, 40);
                due("read of it, longer", x.read(k, 2 - lane, 0, 1), 1);
                due("sheet(" + k + ", " + lane + ", 0)", x.sheet(k, lane, 0), 1);
                due("lay of no cells", x.lay(k, 0, 0), -12);
            }
        }
        says(35, "BAD: also n above 40; -10 - 4.");
        Call sheet = (y, a) -> y.sheet(a[0], a[1], a[2]);
        bounds("sheet", this::rich, sheet, new int[] {0, 0, 4}, 0, 0, 3);
        bounds("sheet", this::rich, sheet, new int[] {0, 0, 4}, 1, 0, 2);
        for (int n : new int[] {41, MOST}) refused("sheet", this::rich, sheet, BAD, 0, 1, n);
        for (int n : new int[] {-1, LEAST}) {
            refused("sheet", this::rich, sheet, -14, 0, 1, n);
            refused("sheet of nothing", FrankPost::new, sheet, -14, 0, 1, n);
            refused("sheet, and no such", this::rich, sheet, BAD, 4, 0, n);
            refused("sheet, and no such lane", this::rich, sheet, BAD, 0, 3, n);
        }
        due("sheet(0, 0, 40)", new FrankPost().sheet(0, 0, 40), 1);
    }

    private void lay() {
        says(36, "CELL i of a SHEET becomes v (its lowest bits): 1.");
        FrankPost x = told("plain 0 10;");
        x.sheet(1, 2, 40);
        due("lay(1, 0, 0)", x.lay(1, 0, 0), 1);
        due("lay(1, 3, 7), the first letter's tone", x.lay(1, 3, 7), 1);
        due("lay(1, 39, 18), the last letter's tone", x.lay(1, 39, 18), 1);
        due("read of the first", x.read(1, 2, 0, 1), 1);
        due("letter(0, 3)", x.letter(0, 3), 7);
        due("read of the last", x.read(1, 2, 36, 1), 1);
        due("letter(1, 3)", x.letter(1, 3), 18);
        says(36, "BAD: k; -10 less the FAULT: NULL, INDEX.");
        Call lay = (y, a) -> y.lay(a[0], a[1], a[2]);
        bounds("lay", this::rich, lay, new int[] {0, 0, 1}, 0, 0, 3);
        for (int i : new int[] {LEAST, -1, 9, MOST}) refused("lay", this::rich, lay, -12, 0, i, 1);
        for (int i : new int[] {LEAST, -1, 0, MOST}) refused("lay of nothing", this::rich, lay, -11, 1, i, 1);
        due("lay(0, 8, 1), the last", rich().lay(0, 8, 1), 1);
        due("lay(0, 0, MOST)", rich().lay(0, 0, MOST), 1);
        due("lay(0, 0, LEAST)", rich().lay(0, 0, LEAST), 1);
    }

    /** Lane, what is laid as a tone, the tone that it is then, or -1: none. */
    private void lowestBits() {
        says(36, "becomes v (its lowest bits)");
        int[][] laid = {
            {0, 256, 0}, {0, 256 + 18, 18}, {0, 256 + 19, -1}, {0, 5 - 256, 5}, {0, 0x7fffff05, 5}, {0, LEAST, 0}, {0, MOST, -1}, {0, 128, -1}, {0, 127, -1}, {0, 65536 + 5, 5},
            {1, 256 + 5, -1}, {1, 65536, 0}, {1, 65536 + 18, 18}, {1, 5 - 65536, 5}, {1, 0x7fff0005, 5}, {1, LEAST, 0}, {1, 32768, -1}, {1, MOST, -1},
            {2, 256 + 5, -1}, {2, 65536 + 5, -1}, {2, LEAST, -1}, {2, MOST, -1}, {2, LEAST + 5, -1}, {2, 18, 18}, {2, 19, -1}, {2, -1, -1}};
        for (int[] l : laid) {
            FrankPost x = told("plain 0 10;");
            x.sheet(3, l[0], 4);
            due("lay(3, 3, " + l[1] + ")", x.lay(3, 3, l[1]), 1);
            due("read of lane " + l[0] + ", " + l[1], x.read(3, l[0], 0, 1), l[2] < 0 ? -20 : 1);
            due("letter(0, 3) of lane " + l[0] + ", " + l[1], x.letter(0, 3), l[2] < 0 ? BAD : l[2]);
        }
    }

    /** Two ones; sheet 0 of shorts has a cell, three letters of tones 7, 8, 9, and a cell. */
    private FrankPost written() {
        FrankPost x = told("plain 0 10;plain 3 10;");
        x.sheet(0, 1, 14);
        int[] cells = {9, 1, 0, 1, 7, 0, 1, 0, 8, 1, 1, 1, 9, 9};
        for (int j = 0; j < cells.length; j++) x.lay(0, j, cells[j]);
        return x;
    }

    private void reads(String when, FrankPost x, int[] a, int answer, int torn, int letters) {
        String call = "read(" + a[0] + ", " + a[1] + ", " + a[2] + ", " + a[3] + "), " + when;
        due(call, x.read(a[0], a[1], a[2], a[3]), answer);
        due("torn() behind " + call, x.torn(), torn);
        due("rule(1) behind " + call, x.rule(1), letters);
    }

    private void read() {
        says(37, "n (0 to 10) LETTERS (FROM, TO, ABOUT, TONE as told) are read of a SHEET taken as of a lane, four CELLS each from CELL f on, one behind another as by write(): how many came.");
        reads("none", written(), new int[] {0, 1, 0, 0}, 0, 0, 0);
        reads("one", written(), new int[] {0, 1, 1, 1}, 1, 0, 1);
        FrankPost x = written();
        x.write(0, 0, 0, 0);
        x.alter(1, 1, 9);
        reads("three", x, new int[] {0, 1, 1, 3}, 3, 0, 4);
        dueAll("letter(1)", x, (y, a) -> y.letter(1, a[0]), 1, 0, 1, 7, 9, 0);
        dueAll("letter(2)", x, (y, a) -> y.letter(2, a[0]), 0, 1, 0, 8, 0, 0);
        dueAll("letter(3)", x, (y, a) -> y.letter(3, a[0]), 1, 1, 1, 9, 9, 0);
        FrankPost zeros = told("plain 0 10;");
        zeros.sheet(3, 0, 40);
        reads("as many as there may be", zeros, new int[] {3, 0, 16, 6}, 6, 0, 6);
        reads("none, full", zeros, new int[] {3, 0, 0, 0}, 0, 0, 6);
        says(37, "BAD: k, lane, n");
        Call read = (y, a) -> y.read(a[0], a[1], a[2], a[3]);
        bounds("read", this::rich, read, new int[] {0, 0, 0, 1}, 0, 0, 3);
        bounds("read", this::rich, read, new int[] {0, 0, 0, 1}, 1, 0, 2);
        bounds("read", this::rich, read, new int[] {0, 0, 0, 1}, 3, 0, 10);
        bounds("read of nothing", this::few, read, new int[] {0, 0, 0, 0}, 3, 0, 10);
    }

    private void readRefusedByTheMachine() {
        says(37, "What the machine refuses: those that were whole ahead came (its FAULT is asked by torn()).");
        reads("the fourth is not whole", written(), new int[] {0, 1, 1, 4}, 3, 2, 3);
        reads("nor are those behind it", written(), new int[] {0, 1, 1, 10}, 3, 2, 3);
        reads("the last that is whole", written(), new int[] {0, 1, 9, 1}, 1, 0, 1);
        // Not whole: of three cells, of none, from ahead of the first, and where the place wraps around.
        for (int f : new int[] {11, 13, 14, 15, -1, -4, LEAST, MOST, MOST - 2, MOST - 3, LEAST + 3}) {
            for (int n : new int[] {1, 2, 10}) reads("not whole", written(), new int[] {0, 1, f, n}, 0, 2, 0);
        }
        for (int lane : new int[] {0, 2}) {
            for (int f : new int[] {0, 1, -1, 14}) reads("another lane", written(), new int[] {0, lane, f, 1}, 0, 3, 0);
        }
        for (int lane = 0; lane <= 2; lane++) {
            for (int f : new int[] {0, -1, MOST}) reads("nothing", written(), new int[] {1, lane, f, 1}, 0, 1, 0);
        }
        // Of no letters nothing is refused, whichever the lane, the place, the sheet.
        for (int k = 0; k <= 1; k++) {
            for (int lane = 0; lane <= 2; lane++) {
                for (int f : new int[] {0, 14, -1, LEAST, MOST}) reads("none", written(), new int[] {k, lane, f, 0}, 0, 0, 0);
            }
        }
        FrankPost six = told("plain 0 10;");
        six.sheet(3, 2, 24);
        reads("six, and the seventh is not whole", six, new int[] {3, 2, 0, 7}, 6, 2, 6);
        reads("the first is not whole, full", six, new int[] {3, 2, 21, 1}, 0, 2, 6);
        FrankPost empty = told("plain 0 10;");
        empty.sheet(3, 2, 0);
        reads("no cells", empty, new int[] {3, 2, 0, 1}, 0, 2, 0);
        empty.sheet(3, 2, 3);
        reads("three cells", empty, new int[] {3, 2, 0, 1}, 0, 2, 0);
        empty.sheet(3, 2, 4);
        reads("four cells", empty, new int[] {3, 2, 0, 1}, 1, 0, 1);
    }

    private void readRefusedByWrite() {
        says(37, "-20 less i: the i-th, whole, is refused by write() (in whichever way): then none came; the first met");
        // Each cell of the second letter in turn is just too large, or too small.
        for (int j = 0; j < 4; j++) {
            for (int v : new int[] {j == 3 ? 19 : 2, -1}) {
                int cell = 5 + j;
                refused("read, cell " + cell + " is " + v, () -> laid(cell, v), (y, a) -> y.read(a[0], a[1], a[2], a[3]), -21, 0, 1, 1, 3);
                due("read of the first alone", laid(cell, v).read(0, 1, 1, 1), 1);
                due("read from the second on", laid(cell, v).read(0, 1, 5, 2), -20);
            }
        }
        // Full: the first, the third, the last of ten.
        FrankPost x = written();
        for (int n = 0; n < 6; n++) x.write(0, 0, 0, 0);
        reads("the first is too many", x, new int[] {0, 1, 1, 1}, -20, 0, 6);
        x.burn(4);
        reads("the third is too many", x, new int[] {0, 1, 1, 3}, -22, 0, 4);
        reads("two are not", x, new int[] {0, 1, 1, 2}, 2, 0, 6);
        FrankPost zeros = told("plain 0 10;");
        zeros.sheet(3, 0, 40);
        reads("the seventh is too many", zeros, new int[] {3, 0, 0, 10}, -26, 0, 0);
        due("read by nobody", nobodysSheet().read(3, 0, 0, 10), -20);
        // The first met: what write() refuses ahead of what the machine does, and the other way round.
        reads("the first is refused ahead", written(), new int[] {0, 1, 0, 10}, -20, 0, 0);
        reads("the second is refused, the fourth is not whole", laid(8, 19), new int[] {0, 1, 1, 4}, -21, 0, 0);
        FrankPost torn = laid(13, 19);
        reads("the fourth is not whole, and is never looked at", torn, new int[] {0, 1, 1, 4}, 3, 2, 3);
    }

    private FrankPost laid(int cell, int v) {
        FrankPost x = written();
        x.lay(0, cell, v);
        return x;
    }

    private static FrankPost nobodysSheet() {
        FrankPost x = new FrankPost();
        x.sheet(3, 0, 40);
        return x;
    }

    private void torn() {
        says(38, "The FAULT of the latest read() that came to an end; 0.");
        FrankPost x = written();
        due("torn() ahead of any", x.torn(), 0);
        due("lay of no such cell", x.lay(0, 14, 0), -12);
        due("sheet below nothing", x.sheet(0, 1, -1), -14);
        due("torn() is of reads alone", x.torn(), 0);
        reads("nothing", x, new int[] {1, 0, 0, 1}, 0, 1, 0);
        reads("another lane", x, new int[] {0, 0, 0, 1}, 0, 3, 0);
        reads("not whole", x, new int[] {0, 1, 11, 1}, 0, 2, 0);
        // A read that is refused did not come to an end: what was, stays.
        reads("refused by write()", x, new int[] {0, 1, 0, 1}, -20, 2, 0);
        for (int[] a : new int[][] {{4, 1, 1, 1}, {-1, 1, 1, 1}, {0, 3, 1, 1}, {0, -1, 1, 1}, {0, 1, 1, 11}, {0, 1, 1, -1}}) reads("BAD", x, a, BAD, 2, 0);
        reads("whole", x, new int[] {0, 1, 1, 1}, 1, 0, 1);
        reads("refused by write()", x, new int[] {0, 1, 0, 1}, -20, 0, 1);
        reads("not whole", x, new int[] {0, 1, 11, 1}, 0, 2, 1);
        reads("none", x, new int[] {0, 1, 0, 0}, 0, 0, 1);
    }

    private void count() {
        says(39, "How many: 0 SEEN, 1 IMAGES, 2 bytes on THE TAPE, 3 CELLS of SHEET 0 (NONE: nothing), 4 TONES of all LETTERS (as told), 5 DOORS of all.");
        FrankPost x = new FrankPost();
        dueAll("count of nothing", x, (y, a) -> y.count(a[0]), 0, 0, 0, NONE, 0, 0);
        x.sheet(1, 0, 9);
        due("count(3), of another sheet", x.count(3), NONE);
        x.sheet(0, 0, 0);
        due("count(3), of no cells", x.count(3), 0);
        FrankPost most = told("sly 9 0;".repeat(5) + "letter 4 4 4 18;".repeat(6));
        for (int n = 0; n < 6; n++) most.see(0, 0, 0);
        most.keep(0);
        most.keep(1);
        feed(most, " ".repeat(160));
        most.sheet(0, 2, 40);
        dueAll("count of the most", most, (y, a) -> y.count(a[0]), 6, 2, 160, 40, 108, 45);
        most.burn(1);
        due("count(4), of one", most.count(4), 18);
        dueAll("count of the least", told("sly 0 0;letter 0 0 0 0;"), (y, a) -> y.count(a[0]), 0, 0, 0, NONE, 0, 0);
        says(39, "BAD.");
        bounds("count", this::rich, (y, a) -> y.count(a[0]), new int[] {0}, 0, 0, 5);
    }
}
