/** Promises 44 to 49: counts, IMAGES and SLOTS, on each bound, just inside, just outside. */
public final class StoreBoundsTest {
    /** By 1 it STANDS in the TICK of the first STEP that is not 0: so a row shows by where it STANDS. */
    private static final String LEVEL = "line long 400;kind long 1 roll 0 brakes 1 1 1;platform at 0 to 400;";
    private static final String WORLD = LEVEL + "train starts 5 speed 10 loses 0;coach 0 for 0 at 10;coach 0 for 0 at 20;"
            + "train starts 60 speed 5 loses 0;";
    private static final Due DUE = new Due();

    public static void main(String[] args) {
        counts();
        countsOfMost();
        slotsCounted();
        numbersOfImages();
        imagesOfNothing();
        imagesApart();
        imagesAndTheRest();
        numbersOfRows();
        rowsReplaced();
        rowsRefused();
        numbersOfWrites();
        cuts();
        numbersOfPastes();
        pastesByPlace();
        pastesRefused();
        pastesOfItsOwn();
        DUE.close("StoreBoundsTest");
    }

    private static void counts() {
        SlipCoach none = new SlipCoach();
        Bounds.of(DUE, "what of count without a LINE", 0, 8, -1, n -> none.count(n));
        for (int what = 0; what <= 8; what++) {
            DUE.is("count " + what + " without a LINE", none.count(what), 0);
        }
        SlipCoach x = Due.told(WORLD);
        Bounds.of(DUE, "what of count", 0, 8, -1, n -> x.count(n));
        int[] due = {400, 1, 1, 2, 2, 1, 0, 0, 0};
        for (int what = 0; what <= 8; what++) {
            DUE.is("count " + what, x.count(what), due[what]);
        }
        x.rain(100);
        DUE.is("RAIN", x.count(7), 100);
        x.feed(1, 2, 3, 4, 5);
        DUE.is("bytes of the TAPE", x.count(6), 20);
        x.end(19);
        DUE.is("bytes of the TAPE", x.count(6), 19);
    }

    private static void countsOfMost() {
        String platform = "platform at 0 to 400;";
        String kind = "kind long 1 roll 0 brakes 1 1 1;";
        SlipCoach x = Due.told("line long 400;" + platform.repeat(6) + kind.repeat(4)
                + "train starts 0 speed 1 loses 0;".repeat(5) + "coach 0 for 0 at 0;".repeat(16) + "\n\n\n");
        int[] due = {400, 4, 6, 5, 16, 3};
        for (int what = 0; what < due.length; what++) {
            DUE.is("count " + what + " of the most", x.count(what), due[what]);
        }
    }

    private static void slotsCounted() {
        SlipCoach x = new SlipCoach();
        for (int slot = 0; slot < 4; slot++) {
            DUE.is("SLOTS that have a row", x.count(8), slot);
            DUE.is("row of none has a row, too", x.row(slot, 0, 0), 0);
            DUE.is("SLOTS that have a row", x.count(8), slot + 1);
            DUE.is("row once more", x.row(slot, 3, 60), 0);
        }
        DUE.is("all SLOTS", x.count(8), 4);
        Due.tape(x, WORLD);
        x.line();
        DUE.is("a LINE takes none of them", x.count(8), 4);
    }

    // Promises 45 and 46.

    private static void numbersOfImages() {
        SlipCoach x = Due.told(WORLD);
        Bounds.of(DUE, "k of back to nothing", 0, 2, -2, n -> x.back(n));
        for (int k = 0; k < 3; k++) {
            DUE.is("back to nothing", x.back(k), -6);
            DUE.is("keep", x.keep(k), 0);
            DUE.is("back", x.back(k), 0);
            for (int other = k + 1; other < 3; other++) {
                DUE.is("others have nothing", x.back(other), -6);
            }
        }
        Bounds.of(DUE, "k of keep", 0, 2, -2, n -> x.keep(n));
        Bounds.of(DUE, "k of back", 0, 2, -2, n -> x.back(n));
    }

    /** No LINE may be kept, too. */
    private static void imagesOfNothing() {
        SlipCoach x = new SlipCoach();
        DUE.is("keep no LINE", x.keep(1), 0);
        Due.tape(x, WORLD);
        x.line();
        x.rain(9);
        DUE.is("keep", x.keep(2), 0);
        DUE.is("back to no LINE", x.back(1), 0);
        int[] due = {0, 0, 0, 0, 0, 0, 0, 0, 0};
        for (int what = 0; what <= 8; what++) {
            DUE.is("count " + what + " of no LINE", x.count(what), due[what]);
        }
        DUE.is("good of no LINE", x.good(), -1);
        DUE.is("yard of no LINE", x.yard(0, 0), -2);
        DUE.is("coach of no LINE", x.coach(0, 0), -2);
        DUE.is("back to the LINE", x.back(2), 0);
        DUE.is("RAIN", x.count(7), 9);
        DUE.is("good", x.good() >= 0 ? 1 : 0, 1);
    }

    private static void isAs(String name, SlipCoach x, int rain, int post, int start, int place) {
        DUE.is(name + ": RAIN", x.count(7), rain);
        DUE.is(name + ": WET", x.yard(7, 1), rain);
        DUE.is(name + ": POST", x.coach(0, 3), post);
        DUE.is(name + ": START", x.passes(0, 0), start);
        DUE.is(name + ": row", x.coach(0, 4), place);
        DUE.is(name + ": row", x.coach(1, 4), 1 - place);
    }

    /** What comes behind keep changes no IMAGE; each one has its own; keep once more is in place of another. */
    private static void imagesApart() {
        SlipCoach x = Due.told(WORLD);
        x.keep(0);
        x.rain(100);
        x.post(0, 400);
        x.shift(0, 300);
        x.swap(0, 1);
        x.keep(1);
        x.rain(1);
        x.post(0, 0);
        x.shift(0, 0);
        x.keep(2);
        for (int times = 0; times < 2; times++) {
            x.back(0);
            isAs("IMAGE 0", x, 0, 10, 5, 0);
            x.post(0, 77);
            x.back(1);
            isAs("IMAGE 1", x, 100, 400, 300, 1);
            x.swap(0, 1);
            x.back(2);
            isAs("IMAGE 2", x, 1, 0, 0, 1);
            x.rain(50);
            x.shift(0, 9);
        }
        x.back(1);
        x.keep(0);
        x.back(2);
        x.back(0);
        isAs("IMAGE 0 once more", x, 100, 400, 300, 1);
    }

    /** TAPE, FAULT and SLOTS are no part of an IMAGE. */
    private static void imagesAndTheRest() {
        SlipCoach x = Due.told(WORLD);
        x.row(0, 0, 3);
        x.write(0, 2, 1);
        x.keep(0);
        x.write(0, 1, 1);
        Due.tape(x, "line long 19;");
        x.line();
        DUE.is("back", x.back(0), 0);
        DUE.is("the FAULT stays", x.fault(0), 2);
        DUE.is("its place stays", x.fault(1), 10);
        DUE.is("the TAPE stays", x.count(6), 13);
        DUE.is("the SLOT stays", x.told(0, 0, 0, 1), 1);
        DUE.is("back refused", x.back(2), -6);
        DUE.is("the LINE stays", x.count(0), 400);
    }

    // Promises 47 to 49.

    private static void numbersOfRows() {
        SlipCoach x = new SlipCoach();
        Bounds.of(DUE, "slot of row", 0, 3, -2, n -> x.row(n, 0, 1));
        Bounds.of(DUE, "width of row", 0, 3, -2, n -> x.row(0, n, 1));
        int[][] due = {{Integer.MIN_VALUE, -3}, {-2, -3}, {-1, -3}, {0, 0}, {1, 0}, {59, 0}, {60, 0}, {61, -2}, {62, -2},
            {Integer.MAX_VALUE, -2}};
        for (int[] d : due) {
            DUE.is("row of " + d[0], x.row(0, 0, d[0]), d[1]);
            DUE.is("no SLOT, and " + d[0], x.row(4, 0, d[0]), -2);
            DUE.is("no SLOT, and " + d[0], x.row(-1, 0, d[0]), -2);
            DUE.is("no WIDTH, and " + d[0], x.row(0, 4, d[0]), -2);
            DUE.is("no WIDTH, and " + d[0], x.row(0, -1, d[0]), -2);
        }
    }

    private static void rowsReplaced() {
        SlipCoach x = Due.told(LEVEL);
        for (int width = 0; width < 4; width++) {
            x.row(0, width, 60);
            for (int i = 0; i < 60; i++) {
                x.write(0, i, 9);
            }
            DUE.is("no STEPS", x.told(0, 0, 0, 1), -2);
            DUE.is("row", x.row(0, 3 - width, 60), 0);
            DUE.is("all 0", x.told(0, 0, 0, 1), 60);
            DUE.is("row of 5", x.row(0, width, 5), 0);
            DUE.is("as many as it has", x.told(0, 0, 0, 1), 5);
            DUE.is("no number behind", x.write(0, 5, 0), -7);
        }
    }

    /** Refused, the SLOT stays: its numbers, how many, its WIDTH. */
    private static void rowsRefused() {
        SlipCoach x = Due.told(LEVEL);
        x.row(1, 1, 9);
        x.write(1, 7, 3);
        x.row(2, 1, 9);
        int[][] wrong = {{1, 1, -1, -3}, {1, 2, -1, -3}, {1, 0, Integer.MIN_VALUE, -3}, {1, 1, 61, -2}, {1, 4, 3, -2},
            {1, -1, 3, -2}, {4, 1, 3, -2}, {-1, 1, 3, -2}, {1, 4, -1, -2}};
        for (int[] w : wrong) {
            DUE.is("row(" + w[0] + ", " + w[1] + ", " + w[2] + ")", x.row(w[0], w[1], w[2]), w[3]);
            DUE.is("its numbers stay", x.told(1, 0, 0, 1), 7);
            DUE.is("as many stay", x.write(1, 8, 0), 0);
            DUE.is("as many stay", x.write(1, 9, 0), -7);
            DUE.is("its WIDTH stays", x.paste(1, 0, 2, 0, 9), 0);
            DUE.is("no SLOT more", x.count(8), 2);
        }
        SlipCoach y = new SlipCoach();
        for (int[] w : wrong) {
            y.row(w[0], w[1], w[2]);
            DUE.is("a SLOT of nothing stays so", y.write(1, 0, 0), -6);
            DUE.is("a SLOT of nothing stays so", y.count(8), 0);
        }
    }

    private static void numbersOfWrites() {
        SlipCoach x = Due.told(LEVEL);
        for (int slot = 0; slot < 4; slot++) {
            DUE.is("write to nothing", x.write(slot, 0, 1), -6);
            DUE.is("write to nothing, no such number", x.write(slot, -1, 1), -6);
            x.row(slot, slot, 1 + slot);
        }
        Bounds.of(DUE, "slot of write", 0, 3, -2, n -> x.write(n, 0, 0));
        Bounds.of(DUE, "slot of write, no such number", 0, 3, -2, n -> x.write(n, 99, 0));
        for (int slot = 0; slot < 4; slot++) {
            int asked = slot;
            Bounds.of(DUE, "i of write to " + slot, 0, slot, -7, n -> x.write(asked, n, 0));
        }
        x.row(0, 0, 60);
        Bounds.of(DUE, "i of write to 60", 0, 59, -7, n -> x.write(0, n, 0));
        x.row(0, 0, 0);
        DUE.is("write to none", x.write(0, 0, 0), -7);
        x.row(0, 0, 3);
        DUE.is("write", x.write(0, 1, 2), 0);
        DUE.is("no such number", x.write(0, 3, 9), -7);
        DUE.is("no such number", x.write(0, -1, 9), -7);
        DUE.is("the row stays", x.told(0, 0, 0, 1), 1);
    }

    /** Just what its bytes hold: one more bit is cut off, one less makes no STEP. */
    private static void cuts() {
        for (int width = 0; width < 4; width++) {
            SlipCoach x = Due.told(LEVEL);
            int bits = 8 << width;
            x.row(0, width, 2);
            for (int bit = 2; bit < 64; bit++) {
                x.write(0, 1, 1L << bit);
                DUE.is("bit " + bit + " of WIDTH " + width, x.told(0, 0, 0, 1), bit >= bits ? 2 : -2);
                x.write(0, 1, (1L << bit) + 3);
                DUE.is("bit " + bit + " and 3 of WIDTH " + width, x.told(0, 0, 0, 1), bit >= bits ? 1 : -2);
                x.write(0, 1, 3 - (1L << bit));
                DUE.is("3 less bit " + bit + " of WIDTH " + width, x.told(0, 0, 0, 1), bit >= bits ? 1 : -2);
            }
            x.write(0, 1, -1);
            DUE.is("-1 of WIDTH " + width, x.told(0, 0, 0, 1), -2);
            x.write(0, 1, 0);
            DUE.is("0 of WIDTH " + width, x.told(0, 0, 0, 1), 2);
        }
    }

    private static void numbersOfPastes() {
        SlipCoach x = Due.told(LEVEL);
        for (int one = -1; one <= 4; one++) {
            for (int other = -1; other <= 4; other++) {
                boolean slots = one >= 0 && one < 4 && other >= 0 && other < 4;
                DUE.is("paste of nothing", x.paste(one, 0, other, 0, 0), slots ? -6 : -2);
                DUE.is("paste of nothing, below 0", x.paste(one, -1, other, -1, -1), slots ? -6 : -2);
            }
        }
        x.row(0, 1, 4);
        x.row(1, 2, 4);
        x.row(2, 1, 4);
        DUE.is("one has nothing", x.paste(0, 0, 3, 0, 1), -6);
        DUE.is("one has nothing", x.paste(3, 0, 0, 0, 1), -6);
        DUE.is("one has nothing, places below 0", x.paste(3, -1, 0, -1, 1), -6);
        DUE.is("no such SLOT, the other has nothing", x.paste(4, 0, 3, 0, 1), -2);
        DUE.is("no such SLOT, the other has nothing", x.paste(3, 0, 4, 0, 1), -2);
        DUE.is("not of one WIDTH", x.paste(0, 0, 1, 0, 1), -8);
        DUE.is("not of one WIDTH, none of them", x.paste(1, 0, 2, 0, 0), -8);
        DUE.is("not of one WIDTH, asked ahead of places", x.paste(0, -1, 1, 9, -1), -8);
        DUE.is("of one WIDTH", x.paste(0, 0, 2, 0, 4), 0);
        Bounds.of(DUE, "slot of paste", 0, 3, -2, n -> x.paste(n, 0, 0, 0, 1));
        Bounds.of(DUE, "to of paste", 0, 3, -2, n -> x.paste(0, 0, n, 0, 1));
    }

    /** n numbers from i on are in a row of 4, if i and n are 0 at least, and together 4 at most. */
    private static void pastesByPlace() {
        int[] tried = {Integer.MIN_VALUE, -1, 0, 1, 3, 4, 5, 6, 7, Integer.MAX_VALUE, Integer.MAX_VALUE - 1};
        for (long i : tried) {
            SlipCoach x = new SlipCoach();
            x.row(0, 1, 4);
            x.row(2, 1, 6);
            for (long k : tried) {
                for (long n : tried) {
                    boolean in = i >= 0 && k >= 0 && n >= 0 && i + n <= 4 && k + n <= 6;
                    DUE.is("paste(0, " + i + ", 2, " + k + ", " + n + ")",
                            x.paste(0, (int) i, 2, (int) k, (int) n), in ? 0 : -7);
                }
            }
        }
    }

    /** Refused, nothing happens: no number of either row is another. */
    private static void pastesRefused() {
        SlipCoach x = Due.told(LEVEL);
        x.row(0, 0, 3);
        x.row(1, 0, 3);
        x.row(2, 1, 3);
        x.write(0, 0, 1);
        x.write(1, 1, 1);
        x.write(2, 2, 1);
        int[][] wrong = {{0, 0, 1, 1, 3}, {0, 1, 1, 0, 3}, {0, 0, 1, 0, 4}, {0, -1, 1, 0, 2}, {0, 0, 1, -1, 2},
            {0, 0, 1, 0, -1}, {0, 0, 0, 1, 3}, {0, 0, 2, 0, 1}, {2, 0, 0, 0, 3}, {0, 0, 3, 0, 1}, {3, 0, 0, 0, 1},
            {0, 0, 4, 0, 1}, {-1, 0, 0, 0, 1}};
        for (int[] w : wrong) {
            DUE.is("refused", x.paste(w[0], w[1], w[2], w[3], w[4]) < 0 ? 1 : 0, 1);
            for (int slot = 0; slot < 3; slot++) {
                DUE.is("the row of " + slot + " stays", x.told(slot, 0, 0, 1), slot);
            }
            DUE.is("the SLOT of nothing stays so", x.told(3, 0, 0, 1), -6);
        }
        DUE.is("none of them, 0", x.paste(0, 0, 1, 0, 0), 0);
        DUE.is("the row stays", x.told(1, 0, 0, 1), 1);
        DUE.is("all of them", x.paste(0, 0, 1, 0, 3), 0);
        DUE.is("as it was", x.told(0, 0, 0, 1), 0);
        DUE.is("as the other was", x.told(1, 0, 0, 1), 0);
    }

    /** To its own row, forwards and backwards: as they were ahead of the call. */
    private static void pastesOfItsOwn() {
        for (int i = 0; i <= 5; i++) {
            for (int k = 0; k <= 5; k++) {
                for (int n = 0; n <= 5 - Math.max(i, k); n++) {
                    SlipCoach x = Due.told("line long 400;kind long 1 roll 0 brakes 1 2 3;");
                    int[] row = {1, 2, 0, 3, 1};
                    x.row(0, 2, 5);
                    for (int j = 0; j < 5; j++) {
                        x.write(0, j, row[j]);
                    }
                    DUE.is("paste to its own", x.paste(0, i, 0, k, n), 0);
                    int[] due = row.clone();
                    System.arraycopy(row, i, due, k, n);
                    x.row(1, 2, 1);
                    for (int j = 0; j < 5; j++) {
                        x.paste(0, j, 1, 0, 1);
                        // By 10, 9, 8 or 7 at first: each STEP is shown by where it STANDS.
                        DUE.is("number " + j + " behind " + n + " from " + i + " to " + k, x.told(1, 0, 0, 10),
                                new int[] {10 + 7 + 4 + 1, 9 + 6 + 3, 8 + 5 + 2, 7 + 4 + 1}[due[j]]);
                    }
                }
            }
        }
    }
}
