/** The boundary cases of promises 24 to 30, sentence by sentence. */
public final class MappingBoundariesTest extends Boundaries {
    /** Row by row, as the document gives it. */
    private static final int[] MATRIX = {0, 8, 2, 10, 12, 4, 14, 6, 3, 11, 1, 9, 15, 7, 13, 5};

    private static void argumentsOfMap() {
        sentence(24, "`method`: the method, 0 to 3");
        PaletteBuilder x = sample();
        for (int method : new int[] {-1, 4, MIN, MAX}) {
            refused("map(" + method + ",0)", x, BAD, b -> b.map(method, 0));
            refused("map(" + method + ",64)", x, BAD, b -> b.map(method, 64));
        }
        sentence(24, "`strength`: the strength, 0 to 64");
        for (int strength : new int[] {-1, 65, MIN, MAX}) {
            for (int method = 0; method <= 3; method++) {
                int which = method;
                refused("map(" + method + "," + strength + ")", x, BAD, b -> b.map(which, strength));
            }
        }
        sentence(24, "The strength has a meaning only for this method.");
        for (int method : new int[] {0, 2, 3}) {
            x = with(sized(16, 16), 0, 0x404040, 0xA0A0A0, WHITE);
            x.gradient(0, WHITE, false);
            x.noise(7, 30);
            x.map(method, 0);
            long plain = x.digest();
            x.undo();
            x.map(method, 64);
            due("digest() after map(" + method + ",64)", x.digest(), plain);
        }
        sentence(24, "Maps the image to the palette. This is a change.");
        for (int method = 0; method <= 3; method++) {
            int which = method;
            change("map(" + method + ",0), mapped already", sample(), 2, 1, b -> b.map(which, 0));
            change("map(" + method + ",0)", with(row(9), 9), 1, 1, b -> b.map(which, 0));
        }
        sentence(24, "Returns the number of different entries that are used as indices; BAD; STATE if the palette is empty.");
        for (int method = 0; method <= 3; method++) {
            int which = method;
            refused("map(" + method + ",0), no entries", new PaletteBuilder(), STATE, b -> b.map(which, 0));
            refused("map(" + method + ",0), no entries, no pixels", plain(1, 1, NONE), STATE, b -> b.map(which, 0));
            refused("map(" + method + ",65), no entries", new PaletteBuilder(), BAD, b -> b.map(which, 65));
            due("map(" + method + ",0), no opaque pixels", with(plain(4, 4, NONE), 1, 2).map(method, 0), 0);
            due("map(" + method + ",0), equal entries", with(row(5, 5), 5, 5).map(method, 0), 1);
            due("map(" + method + ",0), a transparent pixel", with(row(5, NONE), 5, 6).map(method, 0), 1);
            PaletteBuilder all = filled(sized(16, 1), 16, 17);
            all.gradient(0, 255, false);
            due("map(" + method + ",0), all of 16", all.map(method, 0), 16);
        }
    }

    private static void plainMapping() {
        sentence(24, "With method 0, the index of each opaque pixel is the nearest entry of its color.");
        PaletteBuilder x = mapped(with(row(10, 14, 15, 16, 20, NONE), 20, 10, 20), 0, 0);
        indices("15 is equally far from both", x, 1, 1, 0, 0, 0, 3);
        x = mapped(filled(allBlues(), 16, 17), 0, 0);
        due("index(0,0)", x.index(0, 0), 0);
        due("index(15,15)", x.index(15, 15), 15);
        due("index(8,0), 8 is nearer to 0", x.index(8, 0), 0);
        due("index(9,0), 9 is nearer to 17", x.index(9, 0), 1);
    }

    private static void matrix() {
        sentence(24, "B is element y modulo 4, x modulo 4 of the matrix with the rows 0 8 2 10, 12 4 14 6, 3 11 1 9, 15 7 13 5.");
        // With strength 16 a gray of 128 is moved by 2 * B - 15; entry e is the gray 128 + 2 * e - 15.
        PaletteBuilder x = plain(16, 16, 0x808080);
        for (int e = 0; e < 16; e++) {
            x.add(0x010101 * (128 + 2 * e - 15), false);
        }
        due("map(1,16)", x.map(1, 16), 16);
        for (int y = 0; y < 16; y++) {
            for (int at = 0; at < 16; at++) {
                due("index(" + at + "," + y + ")", x.index(at, y), MATRIX[4 * (y % 4) + at % 4]);
            }
        }
    }

    private static void strengthOfDithering() {
        sentence(24, "whose channels are those of the pixel plus (2 * B - 15) * strength / 16, rounded toward zero, "
                + "and then limited to 0 to 255");
        PaletteBuilder x = with(plain(4, 4, 0x808080), 0x7F7F7F, 0x808080, 0x818181);
        due("map(1,0), no steps", x.map(1, 0), 1);
        indices("map(1,0)", x, 1, 1, 1, 1, 1, 1, 1, 1, 1, 1, 1, 1, 1, 1, 1, 1);
        due("map(1,1), all steps are below 1", x.map(1, 1), 1);
        indices("map(1,1)", x, 1, 1, 1, 1, 1, 1, 1, 1, 1, 1, 1, 1, 1, 1, 1, 1);
        // 15 * 2 / 16 is 1; 7 * 2 / 16 is 0: the steps are 1 from 8 on, so for B of 0 to 3 and of 12 to 15.
        due("map(1,2)", x.map(1, 2), 3);
        indices("map(1,2)", x, 0, 1, 0, 1, 2, 1, 2, 1, 0, 1, 0, 1, 2, 1, 2, 1);
        // Strength 64 in one column: -60, 36, -36, 60.
        x = with(plain(1, 4, 0x808080), 0x444444, 0x808080, 0xBCBCBC, 0xA4A4A4, 0x5C5C5C);
        due("map(1,64)", x.map(1, 64), 4);
        indices("map(1,64)", x, 0, 3, 4, 2);
        // (0, 0, 255) becomes (0, 0, 195), to which (10, 0, 195) is nearer than (0, 0, 184); seen from -60 it is farther.
        x = mapped(with(row(0x0000FF), 0x0A00C3, 0x0000B8), 1, 64);
        indices("limited to 0", x, 0);
        // (255, 255, 0) becomes (255, 255, 60) at 0,3, to which (245, 255, 60) is nearer than (255, 255, 49).
        x = mapped(with(plain(1, 4, 0xFFFF00), 0xF5FF3C, 0xFFFF31), 1, 64);
        due("limited to 255: index(0,3)", x.index(0, 3), 0);
        // 60 - 60 and 195 + 60 are at the limits themselves.
        x = mapped(with(plain(1, 4, 0x3C3C3C), 0x000000, 0x010101), 1, 64);
        due("60 - 60: index(0,0)", x.index(0, 0), 0);
        x = mapped(with(plain(1, 4, 0x3D3D3D), 0x000000, 0x010101), 1, 64);
        due("61 - 60: index(0,0)", x.index(0, 0), 1);
        x = mapped(with(plain(1, 4, 0xC3C3C3), 0xFEFEFE, 0xFFFFFF), 1, 64);
        due("195 + 60: index(0,3)", x.index(0, 3), 1);
        x = mapped(with(plain(1, 4, 0xC2C2C2), 0xFEFEFE, 0xFFFFFF), 1, 64);
        due("194 + 60: index(0,3)", x.index(0, 3), 0);
        // Each channel for itself: at 0,1 the step is 9; the other entries have a channel in the place of another one.
        x = mapped(with(plain(1, 2, 0x102040), 0x292949, 0x492949, 0x191949, 0x194949, 0x192919, 0x192929, 0x192949), 1, 16);
        due("9 in each channel: index(0,1)", x.index(0, 1), 6);
        x = mapped(with(plain(4, 4, NONE), 1), 1, 64);
        due("transparent pixels stay transparent: index(0,3)", x.index(0, 3), 1);
    }

    /**
     * The blue that a pixel of 200 is mapped to, in a transparent image with one other pixel, which has 99 and is
     * mapped to 0: its error is 1584, and the parts of method 2 are 693, 297, 495 and 99, those of method 3 are 198.
     */
    private static int received(int method, int side, int from, int to) {
        PaletteBuilder x = plain(side, side, NONE);
        x.paint(from % side, from / side, 1, 1, 99);
        x.paint(to % side, to / side, 1, 1, 200);
        with(x, 0, 200, 206, 212, 219, 231, 243);
        x.map(method, 0);
        return x.entry(x.index(to % side, to / side), 0);
    }

    private static int dueInFour(int right, int down, int ahead) {
        if (down == 0 && right == ahead) {
            return 243;
        }
        if (down != 1) {
            return 200;
        }
        return right == -ahead ? 219 : right == 0 ? 231 : right == ahead ? 206 : 200;
    }

    private static int dueInSix(int right, int down, int ahead) {
        boolean inRow = down == 0 && (right == ahead || right == 2 * ahead);
        boolean below = down == 1 && right >= -1 && right <= 1;
        return inRow || below || (down == 2 && right == 0) ? 212 : 200;
    }

    private static void lostParts() {
        sentence(24, "a part for a pixel that is transparent or outside of the image is lost.");
        // From each pixel to each other one: at the edges nothing comes in on the other side.
        int side = 4;
        for (int from = 0; from < side * side; from++) {
            int ahead = from / side % 2 == 0 ? 1 : -1;
            for (int to = 0; to < side * side; to++) {
                if (to == from) {
                    continue;
                }
                int right = to % side - from % side;
                int down = to / side - from / side;
                String when = " from " + from + " to " + to;
                due("map(2,0)" + when, received(2, side, from, to), dueInFour(right, down, ahead));
                due("map(3,0)" + when, received(3, side, from, to), dueInSix(right, down, ahead));
            }
        }
        // One column: only what goes below arrives. 1600 -> 0; 1600 + 500 = 2100 -> 255; 1600 - 619 = 981 -> 0;
        // 1600 + 306 = 1906 -> 0; 1600 + 595 = 2195 -> 255.
        PaletteBuilder x = mapped(with(plain(1, 5, 100), 0, 255), 2, 0);
        indices("one column, method 2", x, 0, 1, 0, 0, 1);
        x = mapped(with(new PaletteBuilder(), 7, 1), 2, 0);
        indices("one pixel, method 2", x, 1);
        x = mapped(with(new PaletteBuilder(), 7, 1), 3, 0);
        indices("one pixel, method 3", x, 1);
        x = mapped(with(plain(16, 16, 0), WHITE), 2, 0);
        due("error(), 256 pixels far off, method 2", x.error(), 256 * 195075);
        x = mapped(with(plain(16, 16, WHITE), 0), 3, 0);
        due("error(), 256 pixels far off, method 3", x.error(), 256 * 195075);
    }

    private static void orderOfRows() {
        sentence(24, "The rows are visited from y = 0 on, those with an even y from the least x to the greatest one, the others the other way");
        // In row 0 the left one of two passes a part on, in row 1 the right one: 99 -> 0, and 200 + 43 = 243.
        PaletteBuilder x = mapped(with(row(99, 200), 0, 200, 243), 2, 0);
        indices("row 0, to the right", x, 0, 2);
        x = mapped(with(row(200, 99), 0, 200, 243), 2, 0);
        indices("row 0, not to the left", x, 1, 0);
        x = plain(2, 2, NONE);
        x.paint(0, 1, 1, 1, 200);
        x.paint(1, 1, 1, 1, 99);
        indices("row 1, to the left", mapped(with(x, 0, 200, 243), 2, 0), 3, 3, 2, 0);
        x.paint(0, 1, 1, 1, 99);
        x.paint(1, 1, 1, 1, 200);
        x.map(2, 0);
        indices("row 1, not to the right", x, 3, 3, 0, 1);
    }

    private static void limitsOfSums() {
        sentence(24, "its index is the nearest entry of the color whose channels are (its sums + 8) / 16, rounded down, and limited to 0 to 255.");
        // Red 255 -> 200, e = 880, so 4080 + 385 = 4465: 279, limited to 255. To (255, 0, 200) the entry (245, 0, 200)
        // is nearer than (255, 0, 211); from 279 it would be farther.
        PaletteBuilder x = mapped(with(row(0xFF0000, 0xFF00C8), 0xC80000, 0xF500C8, 0xFF00D3), 2, 0);
        indices("limited to 255", x, 0, 1);
        // Red 0 -> 55, e = -880, so 0 - 385: -24, limited to 0.
        x = mapped(with(row(0x000000, 0x0000C8), 0x370000, 0x0A00C8, 0x0000D3), 2, 0);
        indices("limited to 0", x, 0, 1);
        // 99 -> 0 and e = 1584 give 198 to the next two; 3200 + 198 + 8 = 3406 = 16 * 212 + 14.
        x = mapped(with(row(99, NONE, 200), 0, 212, 213), 3, 0);
        indices("rounded down", x, 0, 3, 1);
        // 100 -> 0 and 1600 / 8 = 200: 3200 + 200 + 8 = 16 * 213 exactly.
        x = mapped(with(row(100, NONE, 200), 0, 212, 213), 3, 0);
        indices("exactly a half", x, 0, 3, 2);
        // 97 -> 0 and a = 679: 3200 + 679 + 8 = 16 * 243 - 1; 104 -> 0 and a = 728: 3200 + 728 + 8 = 16 * 246.
        x = mapped(with(row(97, 200), 0, 242, 243), 2, 0);
        indices("just below a half", x, 0, 1);
        x = mapped(with(row(104, 200), 0, 245, 246), 2, 0);
        indices("exactly a half", x, 0, 2);
        for (int method = 2; method <= 3; method++) {
            x = with(row(0x102040), 0x202040, 0x402040, 0x101040, 0x104040, 0x102010, 0x102020, 0x102040);
            indices("each channel for itself", mapped(x, method, 0), 6);
        }
        sentence(24, "The error e of a channel is its sum minus 16 times the value of the entry.");
        // As above, then e = 4465 - 3920 = 545, not 4080 - 3920: 1600 + 238 = 1838 gives 115, not 104.
        x = with(row(0xFF0000, 0xFF00C8, 0x640064), 0xC80000, 0xF500C8, 0xFF00D3, 0x730064, 0x680064);
        indices("the sum itself is not limited", mapped(x, 2, 0), 0, 1, 3);
    }

    private static void roundedParts() {
        sentence(24, "With method 2 the parts are a = 7 * e / 16 for the pixel ahead, b = 3 * e / 16 for the one behind the pixel below, "
                + "c = 5 * e / 16 for the pixel below (all rounded down), and e - a - b - c for the one ahead of the pixel below.");
        // 100 -> 105, a = -35; 800 - 35 -> 49, e = -19: a = -133 / 16 = -9; (3200 - 9 + 8) / 16 is 199, with -8 it is 200.
        PaletteBuilder x = mapped(with(row(100, 50, 200), 105, 49, 199, 200), 2, 0);
        indices("a", x, 0, 1, 2);
        // 100 -> 102, a = -14, below -10; 800 - 14 -> 54, e = -78: b = -234 / 16 = -15; 3200 - 25 is 198, -24 is 199.
        x = plain(2, 2, NONE);
        x.paint(0, 0, 1, 1, 100);
        x.paint(1, 0, 1, 1, 50);
        x.paint(0, 1, 1, 1, 200);
        indices("b", mapped(with(x, 102, 54, 198, 199), 2, 0), 0, 1, 2, 4);
        // 100 -> 101, a = -7, ahead below -1; 800 - 7 -> 51, e = -23: c = -115 / 16 = -8; 3200 - 9 is 199, -8 is 200.
        x = plain(2, 2, NONE);
        x.paint(0, 0, 1, 1, 100);
        x.paint(1, 0, 1, 1, 50);
        x.paint(1, 1, 1, 1, 200);
        indices("c", mapped(with(x, 101, 51, 199, 200), 2, 0), 0, 1, 4, 2);
        // 100 -> 107, a = -49; 800 - 49 -> 56, e = -145: a = -64, b = -28, c = -46, so -7 is left, and not -145 / 16.
        x = plain(3, 2, NONE);
        x.paint(0, 0, 1, 1, 100);
        x.paint(1, 0, 1, 1, 50);
        x.paint(2, 1, 1, 1, 200);
        indices("what is left", mapped(with(x, 107, 56, 199, 200), 2, 0), 0, 1, 4, 4, 4, 3);
        sentence(24, "With method 3 the part is e / 8, rounded down, for each of the pixel ahead, the one after it, "
                + "the pixel below and its two neighbors in its row, and the pixel below the pixel below.");
        // 100 -> 101, -2 each; 800 - 2 -> 53, e = -50: -7; 3200 - 2 - 7 is 199, with -6 it is 200.
        x = mapped(with(row(100, 50, 200), 101, 53, 199, 200), 3, 0);
        indices("-50 / 8 is -7", x, 0, 1, 2);
    }

    private static void indexOfAPixel() {
        sentence(25, "Returns the index; BAD; STATE if there are no indices.");
        PaletteBuilder x = with(sized(3, 2), 0, 9);
        refused("index(0,0), no indices", x, STATE, b -> b.index(0, 0));
        refused("index(2,1), no indices", x, STATE, b -> b.index(2, 1));
        int[][] none = {{3, 0}, {0, 2}, {-1, 0}, {0, -1}, {3, 2}, {MIN, 0}, {0, MIN}, {MAX, 0}, {0, MAX}, {-1, 1}, {3, -1}};
        for (int[] at : none) {
            refused("index(" + at[0] + "," + at[1] + "), no indices", x, BAD, b -> b.index(at[0], at[1]));
        }
        x.paint(2, 1, 1, 1, 9);
        x.paint(0, 1, 1, 1, NONE);
        x.map(0, 0);
        indices("map(0,0)", x, 0, 0, 0, 2, 0, 1);
        for (int[] at : none) {
            refused("index(" + at[0] + "," + at[1] + ")", x, BAD, b -> b.index(at[0], at[1]));
        }
        x.undo();
        refused("index(0,0), undone", x, STATE, b -> b.index(0, 0));
    }

    private static void errors() {
        sentence(26, "the sum of the distances of the colors of all opaque pixels to those of the indexed image.");
        PaletteBuilder x = with(plain(16, 16, WHITE), 0);
        x.setMetric(1);
        x.map(0, 0);
        due("error(), the greatest one", x.error(), 256 * 585225);
        x.setMetric(0);
        due("error(), the metric is that of now", x.error(), 256 * 195075);
        x = mapped(with(plain(3, 3, NONE), 0), 0, 0);
        due("error(), no opaque pixels", x.error(), 0);
        x = mapped(with(row(5, NONE, 6), 5, 6), 0, 0);
        due("error(), none is off", x.error(), 0);
        x = mapped(with(plain(1, 4, 0x808080), 0x444444, 0x808080, 0xBCBCBC), 1, 64);
        due("error(), the indices count, not the nearest entries", x.error() > x.bestError() ? 1 : 0, 1);
        sentence(26, "Returns the error; STATE if there are no indices.");
        refused("error() of a new object", new PaletteBuilder(), STATE, PaletteBuilder::error);
        x.add(1, false);
        refused("error(), indices discarded", x, STATE, PaletteBuilder::error);
        x.undo();
        due("error(), undone", x.error() >= 0 ? 1 : 0, 1);
    }

    private static void worstPixels() {
        sentence(27, "of several the first one in row-major order.");
        PaletteBuilder x = with(sized(3, 3), 0);
        x.paint(2, 1, 1, 1, 5);
        x.paint(0, 2, 1, 1, 5);
        x.map(0, 0);
        due("worst(), two with 25", x.worst(), 18);
        x.image(3, 3);
        x.map(0, 0);
        due("worst(), all with 0", x.worst(), 0);
        x.paint(0, 0, 3, 1, NONE);
        x.paint(0, 1, 1, 1, NONE);
        x.map(0, 0);
        due("worst(), the first opaque one", x.worst(), 17);
        sentence(27, "Returns 16 * y + x; STATE if there are no indices; NONE if there are no opaque pixels.");
        x = with(sized(16, 16), 0);
        x.paint(15, 15, 1, 1, 1);
        x.map(0, 0);
        due("worst(), the last pixel", x.worst(), 255);
        x = with(sized(1, 16), 0);
        x.paint(0, 15, 1, 1, 1);
        x.map(0, 0);
        due("worst(), one column", x.worst(), 240);
        refused("worst() of a new object", new PaletteBuilder(), STATE, PaletteBuilder::worst);
        refused("worst(), no indices, no opaque pixels", plain(2, 2, NONE), STATE, PaletteBuilder::worst);
        due("worst(), no opaque pixels", mapped(with(plain(2, 2, NONE), 0), 0, 0).worst(), NONE);
        sentence(27, "Finds the opaque pixel whose color has the greatest distance to that of the indexed image");
        x = with(row(0x000009, 0x000800), 0);
        x.map(0, 0);
        due("worst(), metric 0: 81 and 64", x.worst(), 0);
        x.setMetric(1);
        due("worst(), metric 1: 243 and 256", x.worst(), 1);
    }

    private static void meanErrors() {
        sentence(28, "the float (error()) / the float (number of opaque pixels), in float arithmetic.");
        // 254 * 130050 + 1 = 33032701 has no float; as 33032700 / 255 it gives 129540, otherwise the next float.
        PaletteBuilder x = plain(16, 16, 0xFFFF00);
        x.paint(0, 0, 1, 1, 1);
        x.paint(1, 0, 1, 1, NONE);
        x.add(0, false);
        x.map(0, 0);
        due("error()", x.error(), 33032701);
        due("meanError(), the error is rounded first", x.meanError(), 0x47FD0200);
        x = with(plain(16, 16, WHITE), 0);
        x.setMetric(1);
        x.map(0, 0);
        due("meanError(), the greatest one", x.meanError(), Float.floatToIntBits(585225f));
        sentence(28, "Returns its bits, as Float.floatToIntBits returns them; STATE if there are no indices; NONE if there are no opaque pixels.");
        due("meanError(), 0", mapped(with(row(5, 5), 5), 0, 0).meanError(), 0);
        due("meanError(), 1", mapped(with(row(1), 0), 0, 0).meanError(), 0x3F800000);
        due("meanError(), a third", mapped(with(row(0, 1, 0), 0), 0, 0).meanError(), 0x3EAAAAAB);
        x = with(sized(16, 16), 0);
        x.paint(8, 8, 1, 1, 1);
        x.map(0, 0);
        due("meanError(), 1 / 256", x.meanError(), 0x3B800000);
        x.paint(0, 0, 1, 1, NONE);
        x.map(0, 0);
        due("meanError(), 1 / 255", x.meanError(), Float.floatToIntBits(1f / 255f));
        refused("meanError() of a new object", new PaletteBuilder(), STATE, PaletteBuilder::meanError);
        refused("meanError(), no indices, no opaque pixels", plain(2, 2, NONE), STATE, PaletteBuilder::meanError);
        due("meanError(), no opaque pixels", mapped(with(plain(2, 2, NONE), 0), 0, 0).meanError(), NONE);
    }

    private static void runsOfIndices() {
        sentence(29, "Returns the number of runs: longest sequences of equal indices in row-major order.");
        due("runs(), one pixel", mapped(with(new PaletteBuilder(), 0), 0, 0).runs(), 1);
        due("runs(), 256 equal ones", mapped(with(sized(16, 16), 0), 0, 0).runs(), 1);
        PaletteBuilder x = sized(16, 16);
        for (int y = 0; y < 16; y++) {
            for (int at = y % 2; at < 16; at += 2) {
                x.paint(at, y, 1, 1, 9);
            }
        }
        mapped(with(x, 0, 9), 0, 0);
        due("runs(), a board: the ends of rows join the next ones", x.runs(), 241);
        x = sized(15, 15);
        for (int i = 0; i < 225; i += 2) {
            x.paint(i % 15, i / 15, 1, 1, 9);
        }
        mapped(with(x, 0, 9), 0, 0);
        due("runs(), each pixel is one", x.runs(), 225);
        due("runs(), only transparent pixels", mapped(with(plain(4, 4, NONE), 0), 0, 0).runs(), 1);
        due("runs(), transparent ones between", mapped(with(row(0, NONE, NONE, 0), 0), 0, 0).runs(), 3);
        due("runs(), equal colors of two entries are one", mapped(with(row(7, 7), 7, 7), 0, 0).runs(), 1);
        sentence(29, "Returns the number; STATE if there are no indices.");
        refused("runs() of a new object", new PaletteBuilder(), STATE, PaletteBuilder::runs);
        x.paint(0, 0, 1, 1, 9);
        refused("runs(), indices discarded", x, STATE, PaletteBuilder::runs);
    }

    private static void bytes(String when, PaletteBuilder x, int... bytes) {
        due(when + ": packed(NONE)", x.packed(NONE), bytes.length);
        for (int k = 0; k < bytes.length; k++) {
            due(when + ": packed(" + k + ")", x.packed(k), bytes[k]);
        }
        due(when + ": packed(" + bytes.length + ")", x.packed(bytes.length), NONE);
    }

    /** Entries 0 to so many, at the blues with these numbers, and a row with some of them. */
    private static PaletteBuilder indexed(int entries, int... colors) {
        return mapped(filled(row(colors), entries, 1), 0, 0);
    }

    private static void bitsOfAnIndex() {
        sentence(30, "Each index takes 1, 2, 4 or 8 bits, the fewest with which all indices that the image has can be written");
        bytes("0 alone takes 1 bit", indexed(16, 0, 0), 0);
        bytes("1 takes 1 bit", indexed(16, 1, 0), 0x80);
        bytes("2 takes 2 bits", indexed(16, 2, 0), 0x80);
        bytes("2 takes 2 bits", indexed(16, 0, 2), 0x20);
        bytes("3 takes 2 bits", indexed(16, 0, 3), 0x30);
        bytes("4 takes 4 bits", indexed(16, 0, 4), 0x04);
        bytes("15 takes 4 bits", indexed(16, 0, 15), 0x0F);
        bytes("16 takes 8 bits", indexed(16, 0, NONE), 0x00, 0x10);
        bytes("a transparent pixel, one entry", indexed(1, 0, NONE), 0x40);
        bytes("a transparent pixel, two entries", indexed(2, 0, NONE), 0x20);
        bytes("a transparent pixel, three entries", indexed(3, 0, NONE), 0x30);
        bytes("a transparent pixel, four entries", indexed(4, 0, NONE), 0x04);
        bytes("a transparent pixel, 15 entries", indexed(15, 0, NONE), 0x0F);
        bytes("transparent pixels alone", indexed(2, NONE, NONE), 0xA0);
        bytes("transparent pixels alone, 16 entries", indexed(16, NONE), 0x10);
    }

    private static void rowsOfBytes() {
        sentence(30, "each row begins with a new byte, and its indices fill the bytes from the highest bits on; bits that are left are 0.");
        bytes("one index of 1 bit", indexed(2, 1), 0x80);
        bytes("7 of 1 bit", indexed(2, 1, 1, 1, 1, 1, 1, 1), 0xFE);
        bytes("8 of 1 bit", indexed(2, 1, 1, 1, 1, 1, 1, 1, 1), 0xFF);
        bytes("9 of 1 bit", indexed(2, 0, 1, 1, 1, 1, 1, 1, 1, 1), 0x7F, 0x80);
        bytes("16 of 1 bit", indexed(2, 1, 0, 0, 0, 0, 0, 0, 1, 0, 0, 0, 0, 0, 0, 0, 1), 0x81, 0x01);
        bytes("3 of 2 bits", indexed(4, 3, 2, 1), 0xE4);
        bytes("4 of 2 bits", indexed(4, 3, 2, 1, 1), 0xE5);
        bytes("5 of 2 bits", indexed(4, 0, 1, 2, 3, 3), 0x1B, 0xC0);
        bytes("one of 4 bits", indexed(16, 9), 0x90);
        bytes("2 of 4 bits", indexed(16, 9, 15), 0x9F);
        bytes("3 of 4 bits", indexed(16, 9, 15, 1), 0x9F, 0x10);
        bytes("3 of 8 bits", indexed(16, 15, NONE, 1), 15, 16, 1);
        sentence(30, "The rows follow one another.");
        PaletteBuilder x = sized(9, 3);
        x.paint(8, 0, 1, 1, 1);
        x.paint(0, 1, 1, 1, 1);
        x.paint(7, 2, 1, 1, 1);
        bytes("9 x 3 of 1 bit", mapped(filled(x, 2, 1), 0, 0), 0, 0x80, 0x80, 0, 0x01, 0);
        x = sized(1, 16);
        x.paint(0, 15, 1, 1, 1);
        bytes("1 x 16 of 1 bit", mapped(filled(x, 2, 1), 0, 0), 0, 0, 0, 0, 0, 0, 0, 0, 0, 0, 0, 0, 0, 0, 0, 0x80);
        x = sized(16, 16);
        x.paint(15, 15, 1, 1, NONE);
        mapped(filled(x, 16, 1), 0, 0);
        due("packed(NONE), 256 of 8 bits", x.packed(NONE), 256);
        due("packed(255)", x.packed(255), 16);
        due("packed(254)", x.packed(254), 0);
        due("packed(256)", x.packed(256), NONE);
        x.remove(15);
        x.map(0, 0);
        due("packed(NONE), 256 of 4 bits", x.packed(NONE), 128);
        due("packed(127)", x.packed(127), 15);
        due("packed(128)", x.packed(128), NONE);
    }

    private static void bytesThatAreNotThere() {
        sentence(30, "`k`: the index of the byte, from 0, or NONE for the number of bytes");
        PaletteBuilder x = sample();
        due("packed(NONE)", x.packed(NONE), 1);
        due("packed(0)", x.packed(0), 0x18);
        sentence(30, "Returns the byte, 0 to 255, or the number; BAD if k is less than NONE; STATE if there are no indices; NONE if there is no such byte.");
        for (int k : new int[] {-2, -3, MIN}) {
            refused("packed(" + k + ")", x, BAD, b -> b.packed(k));
            refused("packed(" + k + "), no indices", new PaletteBuilder(), BAD, b -> b.packed(k));
        }
        for (int k : new int[] {1, 2, 16, 255, 256, MAX, 1 << 28, 1 << 29}) {
            due("packed(" + k + ")", x.packed(k), NONE);
        }
        for (int k : new int[] {NONE, 0, 1, MAX}) {
            refused("packed(" + k + "), no indices", new PaletteBuilder(), STATE, b -> b.packed(k));
        }
        due("packed(0), the greatest byte", indexed(2, 1, 1, 1, 1, 1, 1, 1, 1).packed(0), 255);
        due("packed(0), the greatest byte of 4 bits", indexed(16, 15, 15).packed(0), 255);
    }

    public static void main(String[] args) {
        argumentsOfMap();
        plainMapping();
        matrix();
        strengthOfDithering();
        lostParts();
        orderOfRows();
        limitsOfSums();
        roundedParts();
        indexOfAPixel();
        errors();
        worstPixels();
        meanErrors();
        runsOfIndices();
        bitsOfAnIndex();
        rowsOfBytes();
        bytesThatAreNotThere();
        end();
    }
}
