/** The boundary cases of promises 20 to 23, sentence by sentence. */
public final class BuildingBoundariesTest extends Boundaries {

    private static PaletteBuilder built(PaletteBuilder x, int n, int rule) {
        x.build(n, rule);
        return x;
    }

    private static void argumentsOfBuild() {
        sentence(20, "`n`: the greatest number of entries, 1 to 16");
        PaletteBuilder x = sample();
        for (int n : new int[] {0, 17, -1, MIN, MAX}) {
            refused("build(" + n + ",0)", x, BAD, b -> b.build(n, 0));
            refused("build(" + n + ",2)", x, BAD, b -> b.build(n, 2));
        }
        // Halves of halves, rule 0: at first 0 to 127 and 128 to 255, then 0 to 63, 128 to 191, 64 to 127, 192 to 255.
        x = allBlues();
        due("build(1,0)", x.build(1, 0), 1);
        palette("build(1,0)", x, 128);
        due("build(16,0)", x.build(16, 0), 16);
        palette("build(16,0)", x, 8, 136, 72, 200, 40, 168, 104, 232, 24, 152, 88, 216, 56, 184, 120, 248);
        due("build(15,0), 224 to 255 stay together", x.build(15, 0), 15);
        palette("build(15,0)", x, 8, 136, 72, 200, 40, 168, 104, 240, 24, 152, 88, 216, 56, 184, 120);
        due("build(4,0)", x.build(4, 0), 4);
        palette("build(4,0)", x, 32, 160, 96, 224);
        sentence(20, "`rule`: the rule, 0 to 2");
        PaletteBuilder y = sample();
        for (int rule : new int[] {-1, 3, MIN, MAX}) {
            refused("build(1," + rule + ")", y, BAD, b -> b.build(1, rule));
            refused("build(16," + rule + ")", y, BAD, b -> b.build(16, rule));
        }
        for (int rule = 0; rule <= 2; rule++) {
            due("build(16," + rule + ")", y.build(16, rule), 2);
            palette("build(16," + rule + ")", y, 10, 200);
        }
    }

    private static void lockedEntriesInBuild() {
        sentence(20, "Returns the number of entries; BAD; STATE if more than n entries are locked.");
        PaletteBuilder x = locked(with(row(1, 2), 7, 8, 9), 0, 2);
        refused("build(1,0), two are locked", x, STATE, b -> b.build(1, 0));
        due("build(2,0), two are locked", x.build(2, 0), 2);
        palette("build(2,0)", x, 7, 9);
        locks("build(2,0)", x, 1, 1);
        due("build(3,0)", x.build(3, 0), 3);
        palette("build(3,0)", x, 7, 9, 2);
        locks("build(3,0)", x, 1, 1, 0);
        x = row(1, 2);
        for (int e = 0; e < 16; e++) {
            x.add(100 + e, true);
        }
        refused("build(15,0), 16 are locked", x, STATE, b -> b.build(15, 0));
        refused("build(1,0), 16 are locked", x, STATE, b -> b.build(1, 0));
        due("build(16,0), 16 are locked", x.build(16, 0), 16);
        due("entry(15,0)", x.entry(15, 0), 115);
        x.lock(3, false);
        due("build(16,0), 15 are locked", x.build(16, 0), 16);
        due("entry(3,0), the one after it", x.entry(3, 0), 104);
        due("entry(15,0), the mean of all", x.entry(15, 0), 2);
        due("entry(15,1)", x.entry(15, 1), 0);
        sentence(20, "All entries that are not locked are removed; the locked ones keep their order.");
        x = locked(with(row(50), 9, 5, 8, 3, 7), 1, 3, 4);
        due("build(3,0)", x.build(3, 0), 3);
        palette("build(3,0)", x, 5, 3, 7);
        x = with(row(50), 9, 5);
        due("build(1,0), none are locked", x.build(1, 0), 1);
        palette("build(1,0)", x, 50);
    }

    private static void noBox() {
        sentence(20, "The colors of all opaque pixels that are not equal to the color of a locked entry form one box, "
                + "if there are any and n is greater than the number of locked entries; otherwise there is no box.");
        PaletteBuilder x = with(plain(2, 1, NONE), 4);
        due("build(16,0), no opaque pixels", x.build(16, 0), 0);
        x = locked(with(row(5, 6, 5), 5, 6), 0, 1);
        due("build(16,0), all colors are locked", x.build(16, 0), 2);
        palette("build(16,0)", x, 5, 6);
        x = locked(with(row(5, 6, 5, 9), 5, 6), 0);
        due("build(16,1), 6 and 9 are left", x.build(16, 1), 3);
        palette("build(16,1)", x, 5, 6, 9);
        due("build(2,1), the mean of 6 and 9", x.build(2, 1), 2);
        palette("build(2,1)", x, 5, 8);
        due("build(1,1), n is the number of locked entries", x.build(1, 1), 1);
        palette("build(1,1)", x, 5);
        x = with(row(5, 6), 5);
        due("build(16,0), an entry that is not locked does not count", x.build(16, 0), 2);
        palette("build(16,0)", x, 5, 6);
    }

    private static void endOfSplitting() {
        sentence(20, "While there are fewer boxes than n minus the number of locked entries, and a box has at least two colors, "
                + "a box with at least two colors is split: the one with the greatest measure, of several the first one.");
        for (int rule = 0; rule <= 2; rule++) {
            due("one color", row(7, 7, 7).build(16, rule), 1);
            PaletteBuilder x = row(0, 10, 100, 110);
            due("fewer colors than n", x.build(16, rule), 4);
            palette("fewer colors than n", x, 0, 100, 10, 110);
            due("as many colors as n", x.build(4, rule), 4);
            palette("as many colors as n", x, 0, 100, 10, 110);
            due("more colors than n, equal measures", x.build(3, rule), 3);
            palette("more colors than n, equal measures", x, 0, 105, 10);
            due("n = 1", x.build(1, rule), 1);
            palette("n = 1", x, 55);
        }
        PaletteBuilder x = row(0, 0, 0, 0, 0, 100, 110);
        palette("the box with the most pixels has one color", built(x, 3, 0), 0, 100, 110);
        // Nothing is left of the boxes of an earlier call.
        for (int rule = 0; rule <= 2; rule++) {
            x = built(allBlues(), 2, rule);
            x.image(2, 1);
            x.paint(0, 0, 1, 1, 9);
            due("two colors, after 256", x.build(16, rule), 2);
            palette("two colors, after 256", x, 0, 9);
        }
        sentence(20, "The lower part takes its place, and the upper part comes to the end of the boxes.");
        x = row(0, 1, 100, 101, 200, 201, 202, 203);
        palette("first split", built(x, 2, 0), 51, 202);
        palette("second split", built(x, 3, 0), 1, 202, 101);
        palette("third split", built(x, 4, 0), 1, 201, 101, 203);
    }

    private static void meansOfBoxes() {
        sentence(20, "At last, for each box in this order, an entry with the mean color of its pixels is added.");
        PaletteBuilder x = row(0, 0, 1, 100, 101, 101, 102);
        due("build(2,0)", x.build(2, 0), 2);
        palette("means of pixels, not of colors: 101 / 4 and 304 / 3", x, 25, 101);
        x = locked(with(row(0, 0, 0, 9), 200, 0), 0);
        due("build(2,0), after the locked one", x.build(2, 0), 2);
        palette("a mean of 9 / 4", x, 200, 2);
        locks("build(2,0)", x, 1, 0);
        x = plain(16, 16, WHITE);
        due("build(16,0), one box of 256 pixels", x.build(16, 0), 1);
        palette("one box of 256 pixels", x, WHITE);
        x = row(0, 1);
        due("build(1,0), a half", x.build(1, 0), 1);
        palette("a half", x, 1);
    }

    private static void stepsOfMerge() {
        sentence(22, "In each step let p(k) be the number of opaque pixels whose nearest entry is k.");
        // p is 3, 1, 1: 20 and 26 are merged, and 23 has 2 pixels then. p is 3, 2 in the next step, so (0 + 46) / 5 = 9.
        PaletteBuilder x = with(row(0, 0, 0, 20, 26), 0, 20, 26);
        due("merge(2)", x.merge(2), 2);
        palette("merge(2)", x, 0, 23);
        due("merge(1)", x.merge(1), 1);
        palette("merge(1)", x, 9);
        x = with(row(0, 0, 0, 20, 26), 0, 20, 26);
        due("merge(1) at once", x.merge(1), 1);
        palette("merge(1) at once", x, 9);
        // The pixel 14 belongs to 8 at first, so that 0 and 8, twice, become 5; it is 9 away from it, and 10 from 24.
        x = with(row(0, 8, 14, 24, NONE), 0, 8, 24);
        due("merge(2)", x.merge(2), 2);
        palette("merge(2)", x, 5, 24);
        due("entry(0,2)", x.entry(0, 2), 3);
        // Of equal entries only the first one has pixels.
        x = with(row(7, 7), 7, 7, 90);
        due("merge(2), the cost of 7 and 7 and of 7 and 90 is 0", x.merge(2), 2);
        palette("merge(2)", x, 7, 90);
    }

    private static void measures() {
        sentence(20, "The measure of a box is, by the rule, 0 the number of its pixels");
        // Boxes after one split: 0 and 4 with 5 pixels, 100 and 200 with 4.
        PaletteBuilder x = row(0, 0, 0, 0, 4, 100, 100, 100, 200);
        palette("two boxes", built(x, 2, 0), 1, 125);
        palette("most pixels", built(x, 3, 0), 0, 125, 4);
        sentence(20, "1 the greatest range (the greatest value minus the least one) of a channel");
        palette("greatest range", built(x, 3, 1), 1, 100, 200);
        // The ranges of the boxes are 0, 0, 20 and 0, 19, 19: only the greatest one counts.
        x = row(0x000000, 0x000014, 0xFF0000, 0xFF1313);
        palette("greatest range of one channel", built(x, 3, 1), 0, 0xFF0A0A, 0x000014);
        sentence(20, "2 the sum, over the channels, of N * Q - S * S");
        palette("greatest sum over the channels", built(x, 3, 2), 0x00000A, 0xFF0000, 0xFF1313);
        // The lower box has 3 * 125 * 125 * (about 255 * 255) = 3040093750, more than an int can hold; the upper one 2304.
        x = plain(16, 16, 0);
        x.paint(0, 0, 16, 7, 0xFEFFFF);
        x.paint(0, 7, 13, 1, 0xFEFFFF);
        x.paint(13, 7, 3, 1, 0xFF0000);
        x.paint(0, 8, 3, 1, 0xFF0010);
        due("color(0,1)", x.color(0, 1), 125);
        due("color(1,1)", x.color(1, 1), 125);
        palette("two boxes", built(x, 2, 2), 0x7F8080, 0xFF0008);
        palette("a great sum", built(x, 3, 2), 0, 0xFF0008, 0xFEFFFF);
        // In each channel: 20 * 20 in the upper box against 19 * 19 of another channel in the lower one.
        x = row(0x000000, 0x130000, 0xC80000, 0xDC0000);
        palette("red counts", built(x, 3, 2), 0x0A0000, 0xC80000, 0xDC0000);
        x = row(0x000000, 0x001300, 0xC80000, 0xC80014);
        palette("blue counts", built(x, 3, 2), 0x000A00, 0xC80000, 0xC80014);
        x = row(0x000000, 0x000013, 0xC80000, 0xC81400);
        palette("green counts", built(x, 3, 2), 0x00000A, 0xC80000, 0xC81400);
        x = row(0x000000, 0x001300, 0x000000, 0xC80000, 0xDC0000, 0xC80000);
        palette("red counts, twice", built(x, 3, 2), 0x000600, 0xC80000, 0xDC0000);
        // Both boxes have 4, with 4 and with 2 pixels: the first one is split.
        palette("equal sums", built(row(0, 0, 1, 1, 100, 102), 3, 2), 0, 101, 1);
        // The boxes are 0 and 2, then 100 and 101, twice each, then 50: the first two have 4.
        palette("equal sums", built(row(0, 2, 50, 50, 100, 100, 101, 101), 4, 2), 0, 101, 50, 2);
        // One color has the sum 0; a box of two colors has more.
        x = row(9, 9, 9, 9, 9, 9, 20, 21);
        palette("a box of one color is not split", built(x, 3, 2), 9, 20, 21);
    }

    private static void channelsOfSplits() {
        sentence(20, "To split a box, the channel with the greatest range is chosen, of several the first one.");
        palette("green and blue", built(row(0x000A00, 0x00000A), 2, 0), 0x00000A, 0x000A00);
        palette("red and green", built(row(0x0A0000, 0x000A00), 2, 0), 0x000A00, 0x0A0000);
        palette("red and blue", built(row(0x0A0000, 0x00000A), 2, 0), 0x00000A, 0x0A0000);
        palette("black and white", built(row(WHITE, 0, WHITE), 2, 0), 0, WHITE);
        palette("white and almost white", built(row(WHITE, 0xFFFFFE, 0xFEFFFF), 3, 0), 0xFEFFFF, WHITE, 0xFFFFFE);
        palette("blue is greater by 1", built(row(0x0A0A00, 0x00000B), 2, 0), 0x0A0A00, 0x00000B);
        palette("green is greater by 1", built(row(0x0A000A, 0x000B00), 2, 0), 0x0A000A, 0x000B00);
        // At first by red; then by blue, whatever the red is: 0x0A0000, twice, comes before 1 and 20.
        PaletteBuilder twice = row(0x000001, 0x000014, 0x0A0000, 0x0A0000, 0xC80000, 0xC80000, 0xC80000, 0xC80000);
        palette("red, then blue", built(twice, 3, 0), 0x0A0000, 0xC80000, 0x00000B);
        sentence(20, "Its colors are ordered by this channel, and those with equal values by the colors as numbers.");
        // By green; of those with green 0, the lower part gets 0x010000 and 0x020000.
        PaletteBuilder x = row(0x030000, 0x010000, 0x00FF00, 0x020000);
        palette("equal values", built(x, 2, 0), 0x020000, 0x028000);
        // The number counts, not the other channels: 0x000005, twice, comes before 0x010000.
        x = row(0x010000, 0x000005, 0x000005, 0x00FF00);
        palette("equal values", built(x, 2, 0), 0x000005, 0x018000);
    }

    private static void halves() {
        sentence(20, "The lower part consists of as few of the first colors as have together at least half of the pixels of the box "
                + "(2 times their number is at least N), but not of all colors: "
                + "if it would, it consists of all but the last color. This is a change.");
        palette("exactly half", built(row(1, 1, 2, 3), 2, 0), 1, 3);
        palette("one less than half", built(row(1, 1, 2, 3, 3), 2, 0), 1, 3);
        palette("one less than half: 2 belongs to the lower part", built(row(1, 1, 20, 30, 30), 2, 0), 7, 30);
        palette("exactly half: 20 belongs to the upper part", built(row(1, 1, 20, 30), 2, 0), 1, 25);
        palette("it would be all: 1, 2 and 3", built(row(1, 2, 3, 9, 9, 9, 9), 2, 0), 2, 9);
        palette("it would be all, of two", built(row(1, 9, 9), 2, 0), 1, 9);
        palette("the first has all but one", built(row(1, 1, 1, 1, 9), 2, 0), 1, 9);
        palette("two colors with one pixel each", built(row(9, 1), 2, 0), 1, 9);
        PaletteBuilder x = plain(16, 16, 200);
        x.paint(0, 0, 1, 1, 4);
        x.paint(1, 0, 1, 1, 6);
        palette("it would be all, of 256 pixels", built(x, 2, 0), 5, 200);
        change("build(2,0)", sample(), 2, 0, b -> b.build(2, 0));
        change("build(1,1)", sample(), 1, 0, b -> b.build(1, 1));
        change("build(1,0), nothing becomes different", with(new PaletteBuilder(), 0), 1, 0, b -> b.build(1, 0));
    }

    private static void roundsOfRefine() {
        sentence(21, "`rounds`: the greatest number of rounds, 1 to 20");
        PaletteBuilder x = sample();
        for (int rounds : new int[] {0, 21, -1, MIN, MAX}) {
            refused("refine(" + rounds + ")", x, BAD, b -> b.refine(rounds));
        }
        sentence(21, "Rounds follow one another, at most so many, until a round changes no entry. This is a change.");
        // The blues 0 to 255 with the entries 0 to 3 need 24 rounds.
        x = with(allBlues(), 0, 1, 2, 3);
        due("refine(20)", x.refine(20), 20);
        due("refine(20)", x.refine(20), 4);
        palette("refine(20)", x, 32, 97, 161, 224);
        due("refine(20)", x.refine(20), 0);
        palette("refine(20)", x, 32, 97, 161, 224);
        // With the entries 0 to 2 they need 17.
        x = with(allBlues(), 0, 1, 2);
        due("refine(16)", x.refine(16), 16);
        due("refine(1)", x.refine(1), 1);
        due("refine(1)", x.refine(1), 0);
        palette("refine, one more changes nothing", x, 43, 128, 213);
        x = with(allBlues(), 0, 1, 2);
        due("refine(18)", x.refine(18), 17);
        change("refine(1)", sample(), 1, 0, b -> b.refine(1));
        change("refine(20)", sample(), 1, 0, b -> b.refine(20));
        change("refine(5), nothing becomes different", with(row(3), 3), 0, 0, b -> b.refine(5));
        sentence(21, "Returns the number of rounds that changed an entry; BAD; STATE if the palette is empty.");
        refused("refine(1), no entries", new PaletteBuilder(), STATE, b -> b.refine(1));
        refused("refine(20), no entries", plain(2, 2, NONE), STATE, b -> b.refine(20));
        refused("refine(0), no entries", new PaletteBuilder(), BAD, b -> b.refine(0));
        due("refine(1), one entry", with(row(9), 4).refine(1), 1);
        due("refine(20), one entry", with(row(9), 4).refine(20), 1);
    }

    private static void entriesThatStay() {
        sentence(21, "then each entry that is not locked, and is the nearest one of some pixels, gets their mean color.");
        PaletteBuilder x = with(row(10, 20), 12, 200, 12);
        due("refine(1)", x.refine(1), 1);
        palette("entries without pixels stay", x, 15, 200, 12);
        due("refine(20)", x.refine(20), 1);
        palette("one of them has pixels by now", x, 20, 200, 10);
        x = locked(with(row(10, 20), 0, 200), 0, 1);
        due("refine(20), all are locked", x.refine(20), 0);
        palette("all are locked", x, 0, 200);
        x = with(plain(4, 4, NONE), 6, 7);
        due("refine(20), no opaque pixels", x.refine(20), 0);
        palette("no opaque pixels", x, 6, 7);
        // Locked ones have their pixels all the same: 10 and 20 belong to 12, and 100 to 90.
        x = locked(with(row(10, 20, 100), 12, 90), 0);
        due("refine(20), one is locked", x.refine(20), 1);
        palette("one is locked", x, 12, 100);
        x = sized(16, 1);
        for (int i = 0; i < 16; i++) {
            x.paint(i, 0, 1, 1, 0x010307 + 16 * i);
            x.add(16 * i, false);
        }
        due("refine(20), each of 16 has a pixel", x.refine(20), 1);
        for (int e = 0; e < 16; e++) {
            due("entry(" + e + ",0)", x.entry(e, 0), 0x010307 + 16 * e);
        }
        x = with(row(0x102030, 0x122438, 0xE0D0C0, 0xE2D4C8), 0, WHITE);
        due("refine(20), each channel has its own mean", x.refine(20), 1);
        palette("each channel has its own mean", x, 0x112234, 0xE1D2C4);
        // The nearest entries are found before any entry moves: 14 belongs to 10, though 10 moves to 6 and 20 to 24.
        x = with(row(0, 4, 14, 24), 10, 20);
        due("refine(1)", x.refine(1), 1);
        palette("refine(1)", x, 6, 24);
    }

    private static void numberOfMerge() {
        sentence(22, "`n`: the number, 1 to 16");
        PaletteBuilder x = sample();
        for (int n : new int[] {0, 17, -1, MIN, MAX}) {
            refused("merge(" + n + ")", x, BAD, b -> b.merge(n));
        }
        sentence(22, "Merges entries, until there are at most n, or there are no two entries of which at most one is locked.");
        x = filled(new PaletteBuilder(), 16, 10);
        due("merge(16) of 16", x.merge(16), 16);
        due("entry(15,0)", x.entry(15, 0), 150);
        due("merge(15) of 16", x.merge(15), 15);
        due("merge(15) of 15", x.merge(15), 15);
        due("merge(1) of 15", x.merge(1), 1);
        due("merge(1) of one", x.merge(1), 1);
        due("merge(16) of one", x.merge(16), 1);
        due("merge(1) of none", new PaletteBuilder().merge(1), 0);
        due("merge(16) of none", new PaletteBuilder().merge(16), 0);
        x = locked(with(row(1, 2, 3), 1, 2, 3), 0, 1, 2);
        due("merge(1), all are locked", x.merge(1), 3);
        palette("all are locked", x, 1, 2, 3);
        x = locked(with(row(1, 2, 3), 1, 2, 3, 90), 0, 1, 2);
        due("merge(1), one is not locked", x.merge(1), 3);
        palette("one is not locked", x, 1, 2, 3);
        x = locked(with(row(1, 2, 3), 1, 2, 3), 1);
        due("merge(1), one is locked", x.merge(1), 1);
        palette("one is locked", x, 2);
        locks("one is locked", x, 1);
        sentence(22, "Returns the number of entries; BAD.");
        due("merge(2)", with(row(1, 2, 3), 1, 2, 3).merge(2), 2);
        due("merge(3)", with(row(1, 2, 3), 1, 2, 3).merge(3), 3);
        due("merge(4)", with(row(1, 2, 3), 1, 2, 3).merge(4), 3);
    }

    private static PaletteBuilder merged(PaletteBuilder x, int n) {
        x.merge(n);
        return x;
    }

    private static void pairsOfMerge() {
        sentence(22, "Of all two entries i < j that are not both locked, those with the least cost are merged, "
                + "of several those with the least i, then with the least j.");
        palette("equal costs", merged(with(row(0, 10, 20, 30), 0, 10, 20, 30), 3), 5, 20, 30);
        palette("equal costs, the least j", merged(with(row(0, 10, 20), 10, 0, 20), 2), 5, 20);
        palette("equal costs, the least i", merged(with(row(0, 10, 100, 110), 0, 100, 110, 10), 3), 5, 100, 110);
        palette("0 and 1 are both locked", merged(locked(with(row(0, 1, 50, 90), 0, 1, 50, 90), 0, 1), 3), 0, 1, 70);
        palette("the last two", merged(with(row(0, 50, 90, 92), 0, 50, 90, 92), 3), 0, 50, 91);
        palette("in each step the numbers are new", merged(with(row(0, 0, 4, 20, 26), 0, 4, 20, 26), 2), 1, 23);
        sentence(22, "Entry i becomes the merged one, and entry j is removed.");
        palette("1 and 3 of 5", merged(with(row(0, 100, 200, 104, 255), 0, 100, 200, 104, 255), 4), 0, 102, 200, 255);
    }

    private static void costsOfMerge() {
        sentence(22, "The cost is 0 if p(i) + p(j) is 0, and otherwise p(i) * p(j) * (the distance of their colors) / (p(i) + p(j)), rounded down.");
        palette("no pixels at all", merged(with(plain(1, 1, NONE), 70, 90, 80), 2), 70, 80);
        palette("only one of them has pixels", merged(with(row(0), 0, 90, 80), 2), 0, 80);
        palette("the second has the pixels", merged(with(row(90), 0, 90, 85), 2), 90, 85);
        // 1 * 1 * 1 / 2 is 0, as is the cost of the equal entries.
        palette("a half is 0", merged(with(row(10, 11, 50, 50), 10, 11, 50, 50), 3), 11, 50, 50);
        // 1 * 2 * 4 / 3 = 2 for 0 and 2, and 1 * 1 * 5 / 2 = 2 for the other two, 0x000064 and 0x000166.
        palette("8 / 3 and 5 / 2 are both 2", merged(with(row(0, 2, 2, 0x64, 0x166), 0, 2, 0x64, 0x166), 3), 1, 0x64, 0x166);
        // 86 * 86 * 585225 is more than an int can hold, even more than twice as much.
        PaletteBuilder x = plain(16, 16, 0x404040);
        x.paint(0, 0, 16, 5, 0);
        x.paint(0, 5, 6, 1, 0);
        x.paint(0, 6, 16, 5, WHITE);
        x.paint(10, 5, 6, 1, WHITE);
        x.setMetric(1);
        with(x, 0, WHITE, 0x404040);
        due("entry(0,2)", x.entry(0, 2), 86);
        due("entry(1,2)", x.entry(1, 2), 86);
        due("entry(2,2)", x.entry(2, 2), 84);
        palette("a great cost", merged(x, 2), 0x202020, WHITE);
    }

    private static void colorsOfMerge() {
        sentence(22, "The color of the merged entry is that of the locked one, if one of them is locked, and it is locked then");
        PaletteBuilder x = merged(locked(with(row(0, 0, 10), 0, 10), 1), 1);
        palette("j is locked", x, 10);
        locks("j is locked", x, 1);
        x = merged(locked(with(row(0, 10, 10), 0, 10), 0), 1);
        palette("i is locked", x, 0);
        locks("i is locked", x, 1);
        x = merged(locked(with(plain(1, 1, NONE), 3, 4), 1), 1);
        palette("j is locked, no pixels", x, 4);
        locks("j is locked, no pixels", x, 1);
        x = merged(with(row(0, 10), 0, 10), 1);
        locks("none is locked", x, 0);
        sentence(22, "otherwise, if p(i) + p(j) is 0, that of i");
        palette("no pixels", merged(with(plain(1, 1, NONE), 8, 2), 1), 8);
        palette("no pixels for these two", merged(locked(with(row(100), 8, 2, 100), 2), 2), 8, 100);
        sentence(22, "otherwise, in each channel, (2 * (p(i) * a + p(j) * b) + p(i) + p(j)) / (2 * (p(i) + p(j))), rounded down");
        palette("a half", merged(with(row(0x000001, 0x000100), 0x000001, 0x000100), 1), 0x000101);
        palette("a third", merged(with(row(0, 0, 1), 0, 1), 1), 0);
        palette("two thirds", merged(with(row(0, 1, 1), 0, 1), 1), 1);
        palette("white and white", merged(with(row(WHITE), WHITE, WHITE), 1), WHITE);
        palette("one side has no pixels", merged(with(row(77, 77, 77), 77, 200), 1), 77);
        palette("the entries count, not the pixels", merged(with(row(0, 0, 0, 90), 20, 80), 1), 35);
        sentence(22, "where a and b are the values of i and j. This is a change.");
        change("merge(1)", sample(), 1, 0, b -> b.merge(1));
        change("merge(2), nothing becomes different", sample(), 2, 0, b -> b.merge(2));
        change("merge(9), no entries", new PaletteBuilder(), 0, 0, b -> b.merge(9));
    }

    private static void placesOfSort() {
        sentence(23, "`order`: the order, 0 to 2");
        PaletteBuilder x = sample();
        for (int order : new int[] {-1, 3, MIN, MAX}) {
            refused("sort(" + order + ")", x, BAD, b -> b.sort(order));
        }
        sentence(23, "Sorts the entries that are not locked; locked ones keep their numbers.");
        for (int order = 0; order <= 2; order++) {
            x = locked(with(new PaletteBuilder(), 30, 20, 10), 0, 1, 2);
            due("sort(" + order + "), all are locked", x.sort(order), 0);
            palette("all are locked", x, 30, 20, 10);
            x = locked(with(new PaletteBuilder(), 30, 20, 10), 0, 2);
            due("sort(" + order + "), one is not locked", x.sort(order), 0);
            palette("one is not locked", x, 30, 20, 10);
            due("sort(" + order + "), no entries", new PaletteBuilder().sort(order), 0);
            due("sort(" + order + "), one entry", with(new PaletteBuilder(), 5).sort(order), 0);
        }
        x = locked(with(new PaletteBuilder(), 30, 25, 20, 1, 10), 1, 3);
        due("sort(0), the locked ones stay between the others", x.sort(0), 2);
        palette("sort(0)", x, 10, 25, 20, 1, 30);
        locks("sort(0)", x, 0, 1, 0, 1, 0);
        x = locked(with(new PaletteBuilder(), 9, 30, 20, 10, 0), 0, 4);
        due("sort(0), the first and the last one are locked", x.sort(0), 2);
        palette("sort(0)", x, 9, 10, 20, 30, 0);
        x = new PaletteBuilder();
        for (int e = 0; e < 16; e++) {
            x.add(160 - 10 * e, false);
        }
        due("sort(0) of 16, all other way round", x.sort(0), 16);
        for (int e = 0; e < 16; e++) {
            due("entry(" + e + ",0)", x.entry(e, 0), 10 * e + 10);
        }
        x = with(allBlues(), 255, 0);
        x.map(0, 0);
        due("sort(0), 256 pixels", x.sort(0), 2);
        due("index(0,0)", x.index(0, 0), 0);
        due("index(15,15)", x.index(15, 15), 1);
    }

    private static void ordersOfSort() {
        sentence(23, "with order 0 by ascending 2 * red + 5 * green + blue");
        // 2 * 255 = 510, 5 * 102 = 510; 5 * 255 = 1275; 255; 2 * 127 + 255 = 509.
        PaletteBuilder x = with(new PaletteBuilder(), 0x00FF00, 0xFF0000, 0x006600, 0x7F00FF, 0x0000FF);
        due("sort(0)", x.sort(0), 5);
        palette("sort(0)", x, 0x0000FF, 0x7F00FF, 0xFF0000, 0x006600, 0x00FF00);
        sentence(23, "with order 1 by descending numbers of opaque pixels whose nearest entry they are");
        x = with(row(1, 2, 2, 3, 3, 3, NONE, NONE, NONE, NONE), 1, 2, 3, 9);
        due("sort(1)", x.sort(1), 2);
        palette("sort(1)", x, 3, 2, 1, 9);
        sentence(23, "with order 2 as a chain: first the one with the least color, "
                + "then each time, of those that are left, the one with the least distance to the one before.");
        x = with(new PaletteBuilder(), 100, 0x010000, 60, 10, 90);
        due("sort(2)", x.sort(2), 3);
        palette("sort(2), from 10 the nearest is 65536", x, 10, 0x010000, 60, 90, 100);
        x = locked(with(new PaletteBuilder(), 100, 0, 60, 10), 1);
        due("sort(2), a locked one is no part of the chain", x.sort(2), 2);
        palette("sort(2)", x, 10, 0, 60, 100);
        // Seen from 0, the green one would come with 625 before 28 with 784; but it is 19 that comes before.
        x = with(new PaletteBuilder(), 0x001900, 28, 19, 10, 0);
        due("sort(2)", x.sort(2), 4);
        palette("sort(2), the last one counts", x, 0, 10, 19, 28, 0x001900);
    }

    private static void equalInSort() {
        sentence(23, "Those that are equal in this respect keep the order that they had. This is a change.");
        PaletteBuilder x = with(new PaletteBuilder(), 0x000005, 0x000100, 0x010003, 0x020001);
        due("sort(0), all have 5", x.sort(0), 0);
        palette("sort(0)", x, 0x000005, 0x000100, 0x010003, 0x020001);
        x = with(new PaletteBuilder(), 0x020001, 0, 0x000100, 9, 0x000005);
        due("sort(0), three have 5", x.sort(0), 4);
        palette("sort(0)", x, 0, 0x020001, 0x000100, 0x000005, 9);
        x = with(plain(3, 3, NONE), 5, 3, 9, 1);
        due("sort(1), no opaque pixels", x.sort(1), 0);
        palette("sort(1)", x, 5, 3, 9, 1);
        x = with(row(5, 3, 9, 9), 1, 5, 3, 9);
        due("sort(1), two have one pixel", x.sort(1), 2);
        palette("sort(1)", x, 9, 5, 3, 1);
        x = with(new PaletteBuilder(), 0x00040A, 14, 10, 6);
        due("sort(2), from 6 to 10, and then two are equally far", x.sort(2), 4);
        palette("sort(2)", x, 6, 10, 0x00040A, 14);
        x = with(new PaletteBuilder(), 14, 0x00040A, 10, 6);
        x.sort(2);
        palette("sort(2)", x, 6, 10, 14, 0x00040A);
        x = mapped(with(row(7), 7, 7), 0, 0);
        due("sort(2), equal colors", x.sort(2), 0);
        indices("sort(2)", x, 0);
        x = mapped(with(row(7), 9, 7, 7), 0, 0);
        due("sort(2), equal colors", x.sort(2), 3);
        palette("sort(2)", x, 7, 7, 9);
        indices("sort(2), the first of them is still the first", x, 0);
        change("sort(0), nothing becomes different", sample(), 0, 1, b -> b.sort(0));
        change("sort(0)", mapped(with(row(1, 9, NONE), 9, 1), 0, 0), 2, 1, b -> b.sort(0));
        change("sort(2), no entries", new PaletteBuilder(), 0, 0, b -> b.sort(2));
        sentence(23, "Returns how many entries have another number than before; BAD.");
        due("none", with(new PaletteBuilder(), 1, 2, 3).sort(0), 0);
        due("all but the one in the middle", with(new PaletteBuilder(), 3, 2, 1).sort(0), 2);
        due("all", with(new PaletteBuilder(), 3, 1, 2).sort(0), 3);
        due("two of four", with(new PaletteBuilder(), 1, 3, 2, 4).sort(0), 2);
    }

    public static void main(String[] args) {
        argumentsOfBuild();
        lockedEntriesInBuild();
        noBox();
        endOfSplitting();
        meansOfBoxes();
        measures();
        channelsOfSplits();
        halves();
        roundsOfRefine();
        entriesThatStay();
        numberOfMerge();
        stepsOfMerge();
        pairsOfMerge();
        costsOfMerge();
        colorsOfMerge();
        placesOfSort();
        ordersOfSort();
        equalInSort();
        end();
    }
}
