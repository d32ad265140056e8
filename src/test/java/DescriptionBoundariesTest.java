import java.util.function.ToIntFunction;

/** The boundary cases that the document names before its promises, in "What it is" and "Description". */
public final class DescriptionBoundariesTest extends Boundaries {

    private static void callsOfAnObject() {
        sentence(0, "An object is used for at most 512 calls after it has been made");
        PaletteBuilder x = sized(2, 1);
        x.add(0, false);
        for (int call = 3; call < 512; call++) {
            if (call % 2 == 0) {
                due("call " + call + ", setMetric", x.setMetric(call / 2 % 2), (call / 2 + 1) % 2 * (call > 4 ? 1 : 0));
            } else {
                due("call " + call + ", paint", x.paint(0, 0, 1, 1, call), 1);
            }
        }
        PaletteBuilder fresh = with(row(511, 0), 0);
        while (fresh.count(8) < 10) {
            fresh.setMetric(1);
        }
        due("call 512, digest()", x.digest(), fresh.digest());
    }

    private static void sizeOfTheImage() {
        sentence(0, "The image has a width and a height from 1 to 16; at first it has one pixel.");
        PaletteBuilder x = new PaletteBuilder();
        due("count(0)", x.count(0), 1);
        due("count(1)", x.count(1), 1);
        due("count(2)", x.count(2), 1);
        pixels("a new object", x, 0);
        for (int side = 1; side <= 16; side++) {
            due("image(" + side + ",1)", x.image(side, 1), side);
            due("image(1," + side + ")", x.image(1, side), side);
            due("image(" + side + "," + side + ")", x.image(side, side), side * side);
            due("count(0)", x.count(0), side);
            due("count(1)", x.count(1), side);
        }
        refused("image(17,16)", x, BAD, b -> b.image(17, 16));
        refused("image(16,17)", x, BAD, b -> b.image(16, 17));
        refused("image(0,16)", x, BAD, b -> b.image(0, 16));
        refused("image(16,0)", x, BAD, b -> b.image(16, 0));
    }

    private static void coordinates() {
        sentence(0, "Pixels have coordinates x from 0 and y from 0");
        PaletteBuilder x = sized(3, 2);
        x.paint(0, 0, 1, 1, 1);
        x.paint(2, 1, 1, 1, 6);
        due("pixel(0,0)", x.pixel(0, 0), 1);
        due("pixel(2,1)", x.pixel(2, 1), 6);
        due("pixel(-1,0)", x.pixel(-1, 0), BAD);
        due("pixel(0,-1)", x.pixel(0, -1), BAD);
        due("pixel(3,1)", x.pixel(3, 1), BAD);
        due("pixel(2,2)", x.pixel(2, 2), BAD);
        sentence(0, "in row-major order all pixels of row 0 come first, by ascending x, then those of row 1, and so on.");
        // Equally far from the entry: (2,0) comes before (0,1).
        x = sized(3, 2);
        x.paint(2, 0, 1, 1, 9);
        x.paint(0, 1, 1, 1, 9);
        x.add(0, false);
        x.map(0, 0);
        due("worst()", x.worst(), 2);
        due("runs(), the two are neighbors", x.runs(), 1);
        x.add(9, false);
        x.map(0, 0);
        due("runs(), the two are neighbors", x.runs(), 3);
    }

    private static void newImages() {
        sentence(0, "A pixel is transparent, or opaque with a color; a new image is opaque and black.");
        PaletteBuilder x = plain(2, 2, NONE);
        pixels("transparent", x, NONE, NONE, NONE, NONE);
        x.image(2, 2);
        pixels("a new image", x, 0, 0, 0, 0);
        due("count(2)", x.count(2), 4);
        due("count(3)", x.count(3), 0);
    }

    private static void colorsFromTo() {
        sentence(0, "A color is a number from 0 to 16777215");
        PaletteBuilder x = with(new PaletteBuilder(), 5);
        for (int color : new int[] {0, MAX_COLOR}) {
            due("paint(0,0,1,1," + color + ")", x.paint(0, 0, 1, 1, color), 1);
            due("pixel(0,0)", x.pixel(0, 0), color);
            due("gradient(" + color + ",0,true)", x.gradient(color, 0, true), 1);
            due("pixel(0,0)", x.pixel(0, 0), color);
            due("gradient(0," + color + ",true)", x.gradient(0, color, true), 1);
            due("nearest(" + color + ")", x.nearest(color), 0);
            due("gain(" + color + ")", x.gain(color), color == 0 ? 25 : 0);
            due("add(" + color + ",false)", x.add(color, false), color == 0 ? 1 : 2);
        }
        for (int color : new int[] {-1, MAX_COLOR + 1, MIN, MAX, -MAX_COLOR, 1 << 25}) {
            String name = "(" + color + ")";
            if (color != NONE) {
                refused("paint" + name, x, BAD, b -> b.paint(0, 0, 1, 1, color));
            }
            refused("gradient from " + name, x, BAD, b -> b.gradient(color, 0, true));
            refused("gradient to " + name, x, BAD, b -> b.gradient(0, color, false));
            refused("add" + name, x, BAD, b -> b.add(color, false));
            refused("nearest" + name, x, BAD, b -> b.nearest(color));
            refused("gain" + name, x, BAD, b -> b.gain(color));
        }
        sentence(0, "65536 * red + 256 * green + blue, each of these channels from 0 to 255.");
        // One step from 255 to the next number is one of 255 in one channel and of 1 in the one before.
        x = with(row(0x00FFFF), 0x010000);
        due("bestError(), 65535 and 65536", x.bestError(), 1 + 2 * 255 * 255);
        x = with(row(0x0000FF), 0x000100);
        due("bestError(), 255 and 256", x.bestError(), 1 + 255 * 255);
        x = row(0x00FF00, 0x0000FF, 0xFF0000);
        x.build(1, 0);
        palette("each channel has its own mean", x, 0x555555);
    }

    private static void orderOfChannels() {
        sentence(0, "The channels are always treated in the order red, green, blue.");
        // From 0 the steps of noise are -64, -10, -9.
        PaletteBuilder x = row(0x646464);
        x.noise(0, 64);
        pixels("noise(0,64)", x, 0x245A5B);
        // All ranges are 10: red is the first one.
        x = row(0x0A0000, 0x000A0A);
        x.build(2, 0);
        palette("build(2,0)", x, 0x000A0A, 0x0A0000);
        typed(x, "#123#456789");
        x.load();
        palette("load()", x, 0x112233, 0x456789);
    }

    private static void sizeOfThePalette() {
        sentence(0, "The palette has 0 to 16 entries, at first none, numbered from 0.");
        PaletteBuilder x = new PaletteBuilder();
        due("count(4)", x.count(4), 0);
        due("entry(0,0), none", x.entry(0, 0), BAD);
        for (int e = 0; e < 16; e++) {
            due("add, entry " + e, x.add(100 + e, false), e);
            due("entry(" + e + ",0)", x.entry(e, 0), 100 + e);
            due("entry(" + (e + 1) + ",0)", x.entry(e + 1, 0), BAD);
        }
        refused("add, a 17th one", x, FULL, b -> b.add(1, false));
        for (int e = 15; e >= 0; e--) {
            due("remove(" + e + ")", x.remove(e), 100 + e);
            due("count(4)", x.count(4), e);
        }
        due("entry(0,0), none again", x.entry(0, 0), BAD);
        sentence(0, "a palette of up to 16 entries, some of which are locked");
        x = new PaletteBuilder();
        for (int e = 0; e < 16; e++) {
            x.add(e, true);
            due("count(5)", x.count(5), e + 1);
        }
        due("count(4)", x.count(4), 16);
        sentence(0, "An entry has a color, and is locked or not.");
        x = new PaletteBuilder();
        x.add(0, false);
        x.add(0, true);
        x.add(MAX_COLOR, false);
        x.add(MAX_COLOR, true);
        palette("add", x, 0, 0, MAX_COLOR, MAX_COLOR);
        locks("add", x, 0, 1, 0, 1);
    }

    private static void metrics() {
        sentence(0, "There is a metric, 0 or 1, at first 0.");
        PaletteBuilder x = new PaletteBuilder();
        due("count(6)", x.count(6), 0);
        due("setMetric(1)", x.setMetric(1), 0);
        refused("setMetric(2)", x, BAD, b -> b.setMetric(2));
        refused("setMetric(-1)", x, BAD, b -> b.setMetric(-1));
        due("setMetric(0)", x.setMetric(0), 1);
        due("count(6)", x.count(6), 0);
    }

    /** The distance of two colors with metric 0, and with metric 1. */
    private static void distances(int one, int other, int plain, int weighted) {
        PaletteBuilder x = with(row(one), other);
        due("metric 0, " + one + " and " + other, x.bestError(), plain);
        x.setMetric(1);
        due("metric 1, " + one + " and " + other, x.bestError(), weighted);
    }

    private static void distancesOfColors() {
        sentence(0, "is r * r + g * g + b * b with metric 0, and 2 * r * r + 4 * g * g + 3 * b * b with metric 1.");
        distances(0, 0, 0, 0);
        distances(WHITE, WHITE, 0, 0);
        distances(0, WHITE, 195075, 585225);
        distances(WHITE, 0, 195075, 585225);
        distances(0xFF0000, 0, 65025, 130050);
        distances(0, 0x00FF00, 65025, 260100);
        distances(0x0000FF, 0, 65025, 195075);
        distances(0x010203, 0x030201, 8, 20);
    }

    private static void nearestOfSeveral() {
        sentence(0, "The nearest entry of a color is the one with the least distance, of several the one with the least number.");
        PaletteBuilder x = with(new PaletteBuilder(), 20, 10, 30, 20);
        due("nearest(15), 0 and 1 and 3 are equally far", x.nearest(15), 0);
        due("nearest(25), 0 and 2 and 3 are equally far", x.nearest(25), 0);
        due("nearest(20), 0 and 3 are equal", x.nearest(20), 0);
        due("nearest(14)", x.nearest(14), 1);
        due("nearest(26)", x.nearest(26), 2);
        due("swap(0,2)", x.swap(0, 2), 20);
        due("nearest(20), 2 and 3 are equal", x.nearest(20), 2);
        due("nearest(15), 1 and 2 and 3 are equally far", x.nearest(15), 1);
    }

    private static void bestErrors() {
        sentence(0, "The best error of a palette is the sum of the distances of all opaque pixels to their nearest entries.");
        PaletteBuilder x = with(plain(16, 16, WHITE), 0);
        x.setMetric(1);
        due("bestError(), the greatest one", x.bestError(), 256 * 585225);
        x.paint(0, 0, 16, 15, NONE);
        due("bestError() of one row", x.bestError(), 16 * 585225);
        x.paint(0, 15, 16, 1, NONE);
        due("bestError() without opaque pixels", x.bestError(), 0);
    }

    /** Builds one entry from so many pixels, of which some have a value of 1 more than the others. */
    private static int meanOf(int width, int height, int value, int more) {
        PaletteBuilder x = plain(width, height, value);
        for (int i = 0; i < more; i++) {
            x.paint(i % width, i / width, 1, 1, value + 1);
        }
        x.build(1, 0);
        return x.entry(0, 0);
    }

    private static void means() {
        sentence(0, "The mean of some pixels in a channel is (2 * S + N) / (2 * N), rounded down");
        due("one pixel of 0", meanOf(1, 1, 0, 0), 0);
        due("one pixel of 255", meanOf(1, 1, 255, 0), 255);
        due("a half", meanOf(2, 1, 0, 1), 1);
        due("a third", meanOf(3, 1, 0, 1), 0);
        due("two thirds", meanOf(3, 1, 0, 2), 1);
        due("254 and a half", meanOf(2, 1, 254, 1), 255);
        due("256 pixels of 255", meanOf(16, 16, 255, 0), 255);
        due("128 of 256", meanOf(16, 16, 9, 128), 10);
        due("127 of 256", meanOf(16, 16, 9, 127), 9);
        sentence(0, "Their mean color has these means as channels.");
        PaletteBuilder x = row(0x01FE00, 0x00FF00, 0x00FF02);
        x.build(1, 0);
        palette("means of 1/3, 254 2/3 and 2/3", x, 0x00FF01);
    }

    private static void indicesOfTransparentPixels() {
        sentence(0, "map() gives each opaque pixel the number of an entry as its index, "
                + "and each transparent pixel the number of entries as its index.");
        for (int method = 0; method < 4; method++) {
            for (int entries : new int[] {1, 2, 15, 16}) {
                PaletteBuilder x = filled(row(0, NONE), entries, 1);
                due("map(" + method + ",0), " + entries + " entries", x.map(method, 0), 1);
                indices("map(" + method + ",0), " + entries + " entries", x, 0, entries);
            }
        }
        sentence(0, "The indexed image has the colors of the entries at the pixels with their indices.");
        PaletteBuilder x = mapped(with(row(0, 100, NONE), 3, 90), 0, 0);
        due("error()", x.error(), 9 + 100);
    }

    private static PaletteBuilder sampleWithText() {
        return typed(sample(), "#00a");
    }

    private static void discards(String call, int answer, ToIntFunction<PaletteBuilder> action) {
        change(call, sampleWithText(), answer, 0, action);
        PaletteBuilder x = sampleWithText();
        action.applyAsInt(x);
        due("index(0,0) after " + call, x.index(0, 0), STATE);
        due("entry(0,3) after " + call, Math.max(0, x.entry(0, 3)), 0);
    }

    private static void discardedIndices() {
        sentence(0, "Each call of image(), paint(), gradient(), noise(), add(), remove(), load(), build(), refine() and merge() "
                + "that returns no error discards the indices; there are none then.");
        discards("image(3,1)", 3, b -> b.image(3, 1));
        discards("paint(0,0,1,1,10)", 1, b -> b.paint(0, 0, 1, 1, 10));
        discards("gradient(1,2,false)", 3, b -> b.gradient(1, 2, false));
        discards("noise(0,1)", 2, b -> b.noise(0, 1));
        discards("add(7,false)", 2, b -> b.add(7, false));
        discards("remove(1)", 255, b -> b.remove(1));
        discards("build(2,0)", 2, b -> b.build(2, 0));
        discards("refine(1)", 1, b -> b.refine(1));
        discards("merge(16)", 2, b -> b.merge(16));
        PaletteBuilder x = sampleWithText();
        due("load()", x.load(), 1);
        due("count(7) after load()", x.count(7), 0);
        due("index(0,0) after load()", x.index(0, 0), STATE);
        x = sample();
        refused("image(0,1)", x, BAD, b -> b.image(0, 1));
        refused("paint(0,0,1,1,-2)", x, BAD, b -> b.paint(0, 0, 1, 1, -2));
        refused("gradient(-1,0,true)", x, BAD, b -> b.gradient(-1, 0, true));
        refused("noise(0,0)", x, BAD, b -> b.noise(0, 0));
        refused("add(-1,true)", x, BAD, b -> b.add(-1, true));
        refused("remove(2)", x, BAD, b -> b.remove(2));
        refused("build(0,0)", x, BAD, b -> b.build(0, 0));
        refused("refine(0)", x, BAD, b -> b.refine(0));
        refused("merge(0)", x, BAD, b -> b.merge(0));
        typed(x, "#");
        refused("load()", x, STATE, PaletteBuilder::load);
        due("count(7) after refused calls", x.count(7), 1);
        indices("after refused calls", x, 0, 1, 2);
    }

    private static void keptIndices() {
        sentence(0, "lock() and setMetric() keep them; sort() and swap() change them so that the indexed image stays as it is.");
        PaletteBuilder x = mapped(with(row(10, 200, NONE), 255, 0), 0, 0);
        indices("map", x, 1, 0, 2);
        x.lock(0, true);
        x.lock(0, false);
        indices("lock()", x, 1, 0, 2);
        x.setMetric(1);
        indices("setMetric()", x, 1, 0, 2);
        int error = x.error();
        due("sort(0)", x.sort(0), 2);
        indices("sort()", x, 0, 1, 2);
        due("error() after sort()", x.error(), error);
        due("swap(0,1)", x.swap(0, 1), 0);
        indices("swap()", x, 1, 0, 2);
        due("error() after swap()", x.error(), error);
        // The indices stay those of map() even if another entry is nearest by now.
        x = mapped(with(row(0), 0x00000A, 0x000900), 0, 0);
        indices("metric 0: 100 and 81", x, 1);
        x.setMetric(1);
        due("nearest(0), metric 1: 300 and 324", x.nearest(0), 0);
        indices("metric 1, but mapped before", x, 1);
    }

    private static void idle(String call, PaletteBuilder x, int answer, ToIntFunction<PaletteBuilder> action) {
        int indices = x.count(7);
        change(call, x, answer, indices, action);
    }

    private static void changesWithoutADifference() {
        sentence(0, "that return no error, also if nothing becomes different.");
        PaletteBuilder x = with(new PaletteBuilder(), 0);
        idle("image(1,1)", x, 1, b -> b.image(1, 1));
        idle("paint(0,0,1,1,0)", x, 1, b -> b.paint(0, 0, 1, 1, 0));
        idle("gradient(0,0,true)", x, 1, b -> b.gradient(0, 0, true));
        idle("lock(0,false)", x, 0, b -> b.lock(0, false));
        idle("swap(0,0)", x, 0, b -> b.swap(0, 0));
        idle("build(1,0)", x, 1, b -> b.build(1, 0));
        idle("refine(20)", x, 0, b -> b.refine(20));
        idle("merge(1)", x, 1, b -> b.merge(1));
        idle("sort(2)", x, 0, b -> b.sort(2));
        idle("setMetric(0)", x, 0, b -> b.setMetric(0));
        x.map(0, 0);
        idle("map(0,0)", x, 1, b -> b.map(0, 0));
        x = new PaletteBuilder();
        idle("load() of an empty text", x, 0, PaletteBuilder::load);
        idle("merge(1) of no entries", x, 0, b -> b.merge(1));
        idle("sort(0) of no entries", x, 0, b -> b.sort(0));
        x.paint(0, 0, 1, 1, NONE);
        idle("noise(5,5) without opaque pixels", x, 0, b -> b.noise(5, 5));
        idle("build(16,2) without opaque pixels", x, 0, b -> b.build(16, 2));
        // add() and remove() always make a difference: together they make none.
        due("add(1,false)", x.add(1, false), 0);
        due("remove(0)", x.remove(0), 1);
        due("count(8)", x.count(8), 3);
    }

    private static void callsThatAreNoChanges() {
        sentence(0, "Changes are the calls of image(), paint(), gradient(), noise(), add(), remove(), lock(), swap(), load(), "
                + "build(), refine(), merge(), sort(), map() and setMetric()");
        PaletteBuilder x = sample();
        x.pixel(0, 0);
        x.colors();
        x.color(0, 0);
        x.entry(0, 2);
        x.nearest(9);
        x.index(0, 0);
        x.error();
        x.worst();
        x.meanError();
        x.runs();
        x.packed(0);
        x.bestError();
        x.loss(0);
        x.cheapest();
        x.gain(9);
        x.bestAddition();
        x.count(0);
        x.digest();
        x.type(65);
        x.fault();
        x.clearText();
        due("count(8)", x.count(8), 7);
        due("undo()", x.undo(), 6);
        due("count(7), map() was the latest change", x.count(7), 0);
        due("count(4)", x.count(4), 2);
    }

    private static void historyOfTen() {
        sentence(0, "A history of at most 10 states is kept: each change records the state before it, "
                + "and when one more is recorded, the oldest one is dropped.");
        for (int changes : new int[] {0, 1, 9, 10, 11, 20, 21, 35}) {
            PaletteBuilder x = new PaletteBuilder();
            for (int i = 1; i <= changes; i++) {
                x.paint(0, 0, 1, 1, i);
            }
            int kept = Math.min(changes, 10);
            due("count(8) after " + changes, x.count(8), kept);
            for (int i = 1; i <= kept; i++) {
                due("undo() " + i + " after " + changes, x.undo(), kept - i);
                due("pixel(0,0), undo() " + i + " after " + changes, x.pixel(0, 0), changes - i);
            }
            refused("undo(), none is left of " + changes, x, STATE, PaletteBuilder::undo);
        }
        sentence(0, "undo() removes the latest one and restores it.");
        PaletteBuilder x = new PaletteBuilder();
        for (int i = 1; i <= 13; i++) {
            x.paint(0, 0, 1, 1, i);
        }
        for (int i = 0; i < 4; i++) {
            x.undo();
        }
        due("pixel(0,0), 4 of 13 undone", x.pixel(0, 0), 9);
        for (int i = 21; i <= 26; i++) {
            x.paint(0, 0, 1, 1, i);
        }
        // 6 states were left (3 to 8), then came 9 and 21 to 25, so that 3 and 4 are dropped.
        int[] due = {25, 24, 23, 22, 21, 9, 8, 7, 6, 5};
        due("count(8)", x.count(8), 10);
        for (int i = 0; i < 10; i++) {
            due("undo()", x.undo(), 9 - i);
            due("pixel(0,0)", x.pixel(0, 0), due[i]);
        }
        due("undo(), none is left", x.undo(), STATE);
    }

    /** 256 pixels, of which the last one alone is not black, and 16 entries, of which the last one is locked. */
    private static PaletteBuilder full() {
        PaletteBuilder x = sized(16, 16);
        x.paint(15, 15, 1, 1, 150);
        for (int e = 0; e < 16; e++) {
            typed(x, String.format("#%06x", 10 * e));
        }
        x.type('!');
        x.load();
        return x;
    }

    private static void partsOfAState() {
        sentence(0, "A state consists of the image, the palette, the metric and the indices.");
        PaletteBuilder x = sample();
        long before = x.digest();
        x.image(16, 16);
        x.paint(0, 0, 16, 16, NONE);
        x.build(3, 0);
        due("undo()", x.undo(), 9);
        palette("the palette is back", x, 0, 255);
        due("undo()", x.undo(), 8);
        due("undo()", x.undo(), 7);
        due("digest(), all is back", x.digest(), before);
        x.setMetric(1);
        x.lock(1, true);
        x.swap(0, 1);
        x.undo();
        x.undo();
        x.undo();
        due("digest(), all is back", x.digest(), before);
        // The last pixel, its index and the last entry of a full state come back, too.
        x = mapped(full(), 0, 0);
        before = x.digest();
        x.swap(0, 15);
        x.load();
        x.paint(15, 15, 1, 1, 3);
        x.undo();
        x.undo();
        x.undo();
        due("digest(), all of a full state is back", x.digest(), before);
        due("pixel(15,15)", x.pixel(15, 15), 150);
        due("index(15,15)", x.index(15, 15), 15);
        due("entry(15,0)", x.entry(15, 0), 150);
        due("entry(15,1)", x.entry(15, 1), 1);
        x = sample();
        typed(x, "ab");
        x.lock(0, true);
        typed(x, "c");
        x.undo();
        due("count(9), the text is no part of it", x.count(9), 3);
        x.lock(0, true);
        x.clearText();
        x.undo();
        due("count(9), the text is no part of it", x.count(9), 0);
    }

    private static void kindsOfErrors() {
        sentence(0, "BAD: an argument is out of range, or names something that does not exist.");
        PaletteBuilder x = sample();
        refused("sort(3), out of range", x, BAD, b -> b.sort(3));
        refused("count(10), out of range", x, BAD, b -> b.count(10));
        refused("pixel(3,0), there is none", x, BAD, b -> b.pixel(3, 0));
        refused("entry(2,0), there is none", x, BAD, b -> b.entry(2, 0));
        refused("remove(2), there is none", x, BAD, b -> b.remove(2));
        x.image(4, 1);
        x.add(1, false);
        due("pixel(3,0), there is one by now", x.pixel(3, 0), 0);
        due("entry(2,0), there is one by now", x.entry(2, 0), 1);
        sentence(0, "STATE: the call is not possible now, as the method says.");
        x = new PaletteBuilder();
        refused("map(0,0), no entries", x, STATE, b -> b.map(0, 0));
        x.add(1, true);
        refused("remove(0), locked", x, STATE, b -> b.remove(0));
        refused("loss(0), the only one", x, STATE, b -> b.loss(0));
        refused("error(), no indices", x, STATE, PaletteBuilder::error);
        due("map(0,0), it is possible by now", x.map(0, 0), 1);
        due("error(), it is possible by now", x.error(), 1);
        x.lock(0, false);
        due("remove(0), it is possible by now", x.remove(0), 1);
        sentence(0, "FULL: a limit would be exceeded.");
        x = filled(row(155, 5), 16, 10);
        refused("add(1,false), 16 entries", x, FULL, b -> b.add(1, false));
        due("gain(155), nothing is added", x.gain(155), 25);
        due("build(16,0), the others are removed before", x.build(16, 0), 2);
        typed(x, "#123".repeat(35));
        refused("type(32), 140 bytes", x, FULL, b -> b.type(32));
        refused("load(), the text has a fault", x, STATE, PaletteBuilder::load);
        due("fault(), the 17th entry", x.fault(), 64);
        // An 11th state is no error: the oldest one goes.
        for (int i = 0; i < 11; i++) {
            due("setMetric(0)", x.setMetric(0), 0);
        }
        due("count(8)", x.count(8), 10);
    }

    private static void severalErrors() {
        sentence(0, "If several errors apply to a call, the one that comes first in this list is returned.");
        PaletteBuilder full = filled(new PaletteBuilder(), 16, 1);
        refused("add(-1), 16 entries", full, BAD, b -> b.add(-1, false));
        refused("add(16777216), 16 entries", full, BAD, b -> b.add(16777216, true));
        refused("add(0), 16 entries", full, FULL, b -> b.add(0, false));
        PaletteBuilder text = typed(new PaletteBuilder(), " ".repeat(140));
        refused("type(-1), 140 bytes", text, BAD, b -> b.type(-1));
        refused("type(128), 140 bytes", text, BAD, b -> b.type(128));
        refused("type(0), 140 bytes", text, FULL, b -> b.type(0));
        PaletteBuilder two = locked(with(new PaletteBuilder(), 1, 2), 0, 1);
        refused("build(1,3), two are locked", two, BAD, b -> b.build(1, 3));
        refused("build(1,-1), two are locked", two, BAD, b -> b.build(1, -1));
        refused("build(0,0), two are locked", two, BAD, b -> b.build(0, 0));
        refused("build(1,0), two are locked", two, STATE, b -> b.build(1, 0));
        PaletteBuilder empty = new PaletteBuilder();
        refused("refine(0), no entries", empty, BAD, b -> b.refine(0));
        refused("refine(21), no entries", empty, BAD, b -> b.refine(21));
        refused("refine(20), no entries", empty, STATE, b -> b.refine(20));
        refused("map(-1,0), no entries", empty, BAD, b -> b.map(-1, 0));
        refused("map(0,65), no entries", empty, BAD, b -> b.map(0, 65));
        refused("map(3,64), no entries", empty, STATE, b -> b.map(3, 64));
        refused("index(1,0), no indices", empty, BAD, b -> b.index(1, 0));
        refused("index(0,0), no indices", empty, STATE, b -> b.index(0, 0));
        refused("packed(-2), no indices", empty, BAD, b -> b.packed(-2));
        refused("packed(-1), no indices", empty, STATE, b -> b.packed(-1));
        refused("gain(-1), no entries", empty, BAD, b -> b.gain(-1));
        refused("gain(0), no entries", empty, STATE, b -> b.gain(0));
        PaletteBuilder one = with(new PaletteBuilder(), 1);
        refused("loss(1), one entry", one, BAD, b -> b.loss(1));
        refused("loss(0), one entry", one, STATE, b -> b.loss(0));
    }

    private static void noneIsNoError() {
        sentence(0, "NONE is no error; it means that there is no such thing, and is returned only if no error applies.");
        PaletteBuilder x = plain(2, 1, NONE);
        due("pixel(0,0)", x.pixel(0, 0), NONE);
        due("pixel(2,0)", x.pixel(2, 0), BAD);
        due("color(0,0)", x.color(0, 0), NONE);
        due("color(0,2), no colors", x.color(0, 2), BAD);
        due("nearest(0), no entries", x.nearest(0), NONE);
        due("nearest(-1), no entries", x.nearest(-1), BAD);
        due("fault() of an empty text", x.fault(), NONE);
        due("worst(), no indices, no opaque pixels", x.worst(), STATE);
        due("meanError(), no indices, no opaque pixels", x.meanError(), STATE);
        due("packed(9), no indices", x.packed(9), STATE);
        due("bestAddition(), no entries, no opaque pixels", x.bestAddition(), STATE);
        x.add(7, true);
        due("cheapest(), one entry, locked", x.cheapest(), STATE);
        due("bestAddition(), no opaque pixels", x.bestAddition(), NONE);
        x.add(8, true);
        due("cheapest(), all are locked", x.cheapest(), NONE);
        x.map(0, 0);
        due("worst(), no opaque pixels", x.worst(), NONE);
        due("meanError(), no opaque pixels", x.meanError(), NONE);
        due("packed(9)", x.packed(9), NONE);
    }

    /** Every call that an object with two locked entries, indices and a faulty text can refuse. */
    private static void refuseAll(PaletteBuilder x) {
        due("image(0,1)", x.image(0, 1), BAD);
        due("paint(0,0,9,1,0)", x.paint(0, 0, 9, 1, 0), BAD);
        due("gradient(0,-1,true)", x.gradient(0, -1, true), BAD);
        due("noise(-1,1)", x.noise(-1, 1), BAD);
        due("pixel(9,9)", x.pixel(9, 9), BAD);
        due("color(-1,0)", x.color(-1, 0), BAD);
        due("add(-1,true)", x.add(-1, true), BAD);
        due("remove(16)", x.remove(16), BAD);
        due("remove(0)", x.remove(0), STATE);
        due("lock(-1,true)", x.lock(-1, true), BAD);
        due("swap(0,16)", x.swap(0, 16), BAD);
        due("setMetric(2)", x.setMetric(2), BAD);
        due("entry(0,4)", x.entry(0, 4), BAD);
        due("nearest(-1)", x.nearest(-1), BAD);
        due("type(128)", x.type(128), BAD);
        due("load()", x.load(), STATE);
        due("build(17,0)", x.build(17, 0), BAD);
        due("build(1,0)", x.build(1, 0), STATE);
        due("refine(21)", x.refine(21), BAD);
        due("merge(0)", x.merge(0), BAD);
        due("sort(3)", x.sort(3), BAD);
        due("map(4,0)", x.map(4, 0), BAD);
        due("index(9,9)", x.index(9, 9), BAD);
        due("packed(-2)", x.packed(-2), BAD);
        due("loss(16)", x.loss(16), BAD);
        due("gain(-1)", x.gain(-1), BAD);
        due("count(10)", x.count(10), BAD);
    }

    private static PaletteBuilder stepped(boolean refusing) {
        PaletteBuilder x = typed(sample(), "#12 ");
        locked(x, 0, 1);
        for (int i = 0; i < 4; i++) {
            x.map(i, 0);
            if (refusing) {
                refuseAll(x);
            }
        }
        return x;
    }

    private static void errorsChangeNothing() {
        sentence(0, "A call that returns an error changes nothing.");
        PaletteBuilder x = stepped(true);
        PaletteBuilder twin = stepped(false);
        due("digest()", x.digest(), twin.digest());
        for (int i = 0; i < 10; i++) {
            due("undo()", x.undo(), twin.undo());
            due("digest() after undo()", x.digest(), twin.digest());
        }
        refused("undo(), none is left", x, STATE, PaletteBuilder::undo);
        PaletteBuilder full = typed(filled(new PaletteBuilder(), 16, 3), "#".repeat(140));
        refused("add(), 16 entries", full, FULL, b -> b.add(0, true));
        refused("type(), 140 bytes", full, FULL, b -> b.type(32));
        refused("load(), a fault", full, STATE, PaletteBuilder::load);
        PaletteBuilder empty = new PaletteBuilder();
        refused("map(), no entries", empty, STATE, b -> b.map(0, 0));
        refused("refine(), no entries", empty, STATE, b -> b.refine(1));
        refused("bestError(), no entries", empty, STATE, PaletteBuilder::bestError);
        refused("cheapest(), no entries", empty, STATE, PaletteBuilder::cheapest);
        refused("bestAddition(), no entries", empty, STATE, PaletteBuilder::bestAddition);
        refused("error(), no indices", empty, STATE, PaletteBuilder::error);
        refused("worst(), no indices", empty, STATE, PaletteBuilder::worst);
        refused("meanError(), no indices", empty, STATE, PaletteBuilder::meanError);
        refused("runs(), no indices", empty, STATE, PaletteBuilder::runs);
        refused("undo(), no changes", empty, STATE, PaletteBuilder::undo);
    }

    private static void constants() {
        sentence(0, "`BAD = -2, STATE = -3, FULL = -4`: Error codes.");
        due("BAD", PaletteBuilder.BAD, -2);
        due("STATE", PaletteBuilder.STATE, -3);
        due("FULL", PaletteBuilder.FULL, -4);
        sentence(0, "`NONE = -1`: There is no such thing; also the \"color\" of transparent pixels.");
        due("NONE", PaletteBuilder.NONE, -1);
        PaletteBuilder x = plain(1, 1, PaletteBuilder.NONE);
        due("pixel(0,0)", x.pixel(0, 0), PaletteBuilder.NONE);
        due("count(3)", x.count(3), 1);
    }

    private static void newObjects() {
        sentence(1, "Creates a builder with an image of one black pixel, an empty palette, metric 0, no indices, and an empty text.");
        int[] counts = {1, 1, 1, 0, 0, 0, 0, 0, 0, 0};
        PaletteBuilder x = new PaletteBuilder();
        long h = 77;
        for (int what = 0; what < 10; what++) {
            due("count(" + what + ")", x.count(what), counts[what]);
            h = 31 * h + counts[what];
        }
        pixels("a new object", x, 0);
        due("digest()", x.digest(), 31 * h);
        due("index(0,0)", x.index(0, 0), STATE);
        due("undo()", x.undo(), STATE);
        due("clearText()", x.clearText(), 0);
        // What one object does is nothing to another.
        typed(sample(), "#");
        due("digest() of one more", new PaletteBuilder().digest(), 31 * h);
        due("digest()", x.digest(), 31 * h);
    }

    public static void main(String[] args) {
        callsOfAnObject();
        sizeOfTheImage();
        coordinates();
        newImages();
        colorsFromTo();
        orderOfChannels();
        sizeOfThePalette();
        metrics();
        distancesOfColors();
        nearestOfSeveral();
        bestErrors();
        means();
        indicesOfTransparentPixels();
        discardedIndices();
        keptIndices();
        changesWithoutADifference();
        callsThatAreNoChanges();
        historyOfTen();
        partsOfAState();
        kindsOfErrors();
        severalErrors();
        noneIsNoError();
        errorsChangeNothing();
        constants();
        newObjects();
        end();
    }
}
