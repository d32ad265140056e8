/** Each promise of the document: ordinary inputs worked out by hand, the edges it names, and wrong inputs. */
public final class PromisesTest {
    private static final int BAD = -2, STATE = -3, FULL = -4, NONE = -1;
    private static final int MIN = Integer.MIN_VALUE, MAX = Integer.MAX_VALUE;
    private static final int WHITE = 0xFFFFFF;

    private static int promise = 0;
    private static int wrong = 0;

    private static void due(String call, long got, long want) {
        if (got != want) {
            wrong++;
            System.out.println("promise " + promise + ": " + call + " answered " + got + ", due is " + want);
        }
    }

    private static PaletteBuilder sized(int width, int height) {
        PaletteBuilder x = new PaletteBuilder();
        x.image(width, height);
        return x;
    }

    /** An image of one row with these colors. */
    private static PaletteBuilder row(int... colors) {
        PaletteBuilder x = sized(colors.length, 1);
        for (int i = 0; i < colors.length; i++) {
            x.paint(i, 0, 1, 1, colors[i]);
        }
        return x;
    }

    private static PaletteBuilder withEntries(PaletteBuilder x, int... colors) {
        for (int color : colors) {
            x.add(color, false);
        }
        return x;
    }

    private static PaletteBuilder withText(String text) {
        PaletteBuilder x = new PaletteBuilder();
        for (char letter : text.toCharArray()) {
            x.type(letter);
        }
        return x;
    }

    private static void pixels(String when, PaletteBuilder x, int... colors) {
        int width = x.count(0);
        for (int i = 0; i < colors.length; i++) {
            due(when + ": pixel(" + i % width + "," + i / width + ")", x.pixel(i % width, i / width), colors[i]);
        }
    }

    private static void palette(String when, PaletteBuilder x, int... colors) {
        due(when + ": count(4)", x.count(4), colors.length);
        for (int e = 0; e < colors.length; e++) {
            due(when + ": entry(" + e + ",0)", x.entry(e, 0), colors[e]);
        }
    }

    private static void indices(String when, PaletteBuilder x, int... indices) {
        int width = x.count(0);
        for (int i = 0; i < indices.length; i++) {
            due(when + ": index(" + i % width + "," + i / width + ")", x.index(i % width, i / width), indices[i]);
        }
    }

    /** An object with an image, a palette of three, and indices; 7 changes can be undone. */
    private static PaletteBuilder mapped() {
        PaletteBuilder x = row(10, 200, NONE);
        x.add(0, false);
        x.add(255, false);
        x.map(0, 0);
        due("a mapped image: count(7)", x.count(7), 1);
        due("a mapped image: count(8)", x.count(8), 7);
        return x;
    }

    /** After a change: whether indices are still there, one more undo, and what undo brings back. */
    private static void changed(String call, PaletteBuilder x, long before, int hasIndices) {
        due(call + ": count(7)", x.count(7), hasIndices);
        due(call + ": count(8)", x.count(8), 8);
        due(call + ": undo()", x.undo(), 7);
        due(call + ": digest() after undo()", x.digest(), before);
    }

    private static void promise1() {
        PaletteBuilder x = new PaletteBuilder();
        int[] counts = {1, 1, 1, 0, 0, 0, 0, 0, 0, 0};
        long h = 77;
        for (int what = 0; what < 10; what++) {
            due("count(" + what + ")", x.count(what), counts[what]);
            h = 31 * h + counts[what];
        }
        due("pixel(0,0)", x.pixel(0, 0), 0);
        due("digest()", x.digest(), 31 * h);
        due("undo()", x.undo(), STATE);
        due("index(0,0)", x.index(0, 0), STATE);
        new PaletteBuilder().image(2, 2);
        due("count(0), another object changed", x.count(0), 1);
    }

    private static void promise2() {
        PaletteBuilder x = mapped();
        long before = x.digest();
        int[][] bad = {{0, 1}, {1, 0}, {17, 1}, {1, 17}, {-1, -1}, {MIN, 1}, {1, MAX}, {MAX, MAX}, {65536, 65536}};
        for (int[] a : bad) {
            due("image(" + a[0] + "," + a[1] + ")", x.image(a[0], a[1]), BAD);
        }
        due("digest() after errors", x.digest(), before);
        due("image(3,1)", x.image(3, 1), 3);
        pixels("image(3,1)", x, 0, 0, 0);
        due("count(4)", x.count(4), 2);
        changed("image", x, before, 0);
        due("image(16,16)", x.image(16, 16), 256);
        due("pixel(15,15)", x.pixel(15, 15), 0);
        due("count(2)", x.count(2), 256);
        x.paint(0, 0, 16, 16, NONE);
        due("image(5,3)", x.image(5, 3), 15);
        due("count(0)", x.count(0), 5);
        due("count(1)", x.count(1), 3);
        due("count(2)", x.count(2), 15);
        due("pixel(4,2)", x.pixel(4, 2), 0);
        due("pixel(5,2)", x.pixel(5, 2), BAD);
        due("image(1,1)", x.image(1, 1), 1);
    }

    private static void promise3() {
        PaletteBuilder x = sized(3, 2);
        due("paint(1,0,2,2,7)", x.paint(1, 0, 2, 2, 7), 4);
        pixels("paint", x, 0, 7, 7, 0, 7, 7);
        due("paint(0,1,2,1,NONE)", x.paint(0, 1, 2, 1, NONE), 2);
        pixels("paint", x, 0, 7, 7, NONE, NONE, 7);
        due("paint(0,0,3,2,WHITE)", x.paint(0, 0, 3, 2, WHITE), 6);
        pixels("paint", x, WHITE, WHITE, WHITE, WHITE, WHITE, WHITE);
        x = mapped();
        long before = x.digest();
        int[][] bad = {{-1, 0, 1, 1, 0}, {0, -1, 1, 1, 0}, {3, 0, 1, 1, 0}, {0, 1, 1, 1, 0}, {0, 0, 0, 1, 0}, {0, 0, 1, 0, 0},
            {0, 0, 4, 1, 0}, {0, 0, 1, 2, 0}, {2, 0, 2, 1, 0}, {0, 0, 1, 1, -2}, {0, 0, 1, 1, 16777216}, {1, 0, MAX, 1, 0},
            {0, 0, 1, MAX, 0}, {1, 0, -1, 1, 0}, {MIN, 0, 1, 1, 0}, {MAX, 0, 1, 1, 0}, {0, MAX, 1, 1, 0}, {0, 0, 1, 1, MIN},
            {2, 0, MIN, 1, 0}};
        for (int[] a : bad) {
            due("paint" + java.util.Arrays.toString(a), x.paint(a[0], a[1], a[2], a[3], a[4]), BAD);
        }
        due("digest() after errors", x.digest(), before);
        due("paint(0,0,1,1,10)", x.paint(0, 0, 1, 1, 10), 1);
        changed("paint without a difference", x, before, 0);
    }

    private static void promise4() {
        PaletteBuilder x = sized(4, 2);
        x.paint(1, 0, 2, 2, NONE);
        due("gradient", x.gradient(0x0A0000, 0x00FF10, false), 8);
        pixels("gradient", x, 0x0A0000, 0x075505, 0x04AA0A, 0x00FF10, 0x0A0000, 0x075505, 0x04AA0A, 0x00FF10);
        x = sized(2, 3);
        due("gradient", x.gradient(0x0000FF, 0x010000, true), 6);
        pixels("gradient", x, 0x0000FF, 0x0000FF, 0x000080, 0x000080, 0x010000, 0x010000);
        due("gradient", x.gradient(0, WHITE, false), 6);
        pixels("gradient", x, 0, WHITE, 0, WHITE, 0, WHITE);
        x = sized(1, 2);
        due("gradient of one step", x.gradient(5, 9, false), 2);
        pixels("gradient of one step", x, 5, 5);
        x = mapped();
        long before = x.digest();
        due("gradient(-1,0)", x.gradient(-1, 0, true), BAD);
        due("gradient(0,-1)", x.gradient(0, -1, true), BAD);
        due("gradient(16777216,0)", x.gradient(16777216, 0, false), BAD);
        due("gradient(0,16777216)", x.gradient(0, 16777216, false), BAD);
        due("gradient(MIN,MAX)", x.gradient(MIN, MAX, false), BAD);
        due("digest() after errors", x.digest(), before);
        due("gradient(1,2,true)", x.gradient(1, 2, true), 3);
        due("count(3)", x.count(3), 0);
        changed("gradient", x, before, 0);
    }

    private static void promise5() {
        // With seed 1 the numbers x / 65536 begin with 16838, 5758, 10113, 17515, 31051, 5627.
        PaletteBuilder x = row(0x646464, NONE, 0xFAE664);
        due("noise(1,64)", x.noise(1, 64), 2);
        pixels("noise(1,64)", x, 0x687657, NONE, 0xFFFF74);
        x = row(0x646464, 0x0A0101);
        due("noise(1,1)", x.noise(1, 1), 2);
        pixels("noise(1,1)", x, 0x656463, 0x0A0102);
        x = row(0, 0);
        x.noise(2147483647, 1);
        // 2^31 - 1 gives 12345 - 1103515245 modulo 2^31 = 1043980748, and 1043980748 / 65536 = 15929.
        due("noise(MAX,1): red", x.pixel(0, 0) / 65536, 1);
        x = mapped();
        long before = x.digest();
        int[][] bad = {{-1, 1}, {MIN, 1}, {0, 0}, {0, 65}, {0, -1}, {0, MIN}, {0, MAX}};
        for (int[] a : bad) {
            due("noise(" + a[0] + "," + a[1] + ")", x.noise(a[0], a[1]), BAD);
        }
        due("digest() after errors", x.digest(), before);
        due("noise(0,1)", x.noise(0, 1), 2);
        changed("noise", x, before, 0);
        x.paint(0, 0, 3, 1, NONE);
        due("noise(0,64) without opaque pixels", x.noise(0, 64), 0);
    }

    private static void promise6() {
        PaletteBuilder x = sized(3, 2);
        x.paint(2, 1, 1, 1, 99);
        x.paint(0, 1, 1, 1, NONE);
        due("pixel(2,1)", x.pixel(2, 1), 99);
        due("pixel(0,1)", x.pixel(0, 1), NONE);
        due("pixel(0,0)", x.pixel(0, 0), 0);
        int[][] bad = {{3, 0}, {0, 2}, {-1, 0}, {0, -1}, {3, -1}, {MIN, MIN}, {MAX, MAX}};
        for (int[] a : bad) {
            due("pixel(" + a[0] + "," + a[1] + ")", x.pixel(a[0], a[1]), BAD);
        }
        due("count(8)", x.count(8), 3);
    }

    private static void promise7() {
        PaletteBuilder x = row(5, 5, NONE, 6, 5, 0);
        due("colors()", x.colors(), 3);
        x.paint(0, 0, 6, 1, NONE);
        due("colors() without opaque pixels", x.colors(), 0);
        x = sized(16, 16);
        for (int i = 0; i < 256; i++) {
            x.paint(i % 16, i / 16, 1, 1, 65793 * (255 - i));
        }
        due("colors() of 256", x.colors(), 256);
    }

    private static void promise8() {
        PaletteBuilder x = row(9, 3, 200000, 3, 200000, NONE, 16777215);
        int[][] due = {{3, 2}, {200000, 2}, {9, 1}, {16777215, 1}};
        for (int k = 0; k < 4; k++) {
            due("color(" + k + ",0)", x.color(k, 0), due[k][0]);
            due("color(" + k + ",1)", x.color(k, 1), due[k][1]);
        }
        due("color(4,0)", x.color(4, 0), NONE);
        due("color(MAX,1)", x.color(MAX, 1), NONE);
        due("color(-1,0)", x.color(-1, 0), BAD);
        due("color(MIN,0)", x.color(MIN, 0), BAD);
        due("color(0,-1)", x.color(0, -1), BAD);
        due("color(9,2)", x.color(9, 2), BAD);
        x = sized(16, 16);
        due("color(0,1) of 256", x.color(0, 1), 256);
        x.paint(0, 0, 16, 16, NONE);
        due("color(0,0) without opaque pixels", x.color(0, 0), NONE);
    }

    private static void promise9() {
        PaletteBuilder x = mapped();
        long before = x.digest();
        due("add(-1)", x.add(-1, true), BAD);
        due("add(16777216)", x.add(16777216, false), BAD);
        due("add(MIN)", x.add(MIN, false), BAD);
        due("digest() after errors", x.digest(), before);
        due("add(WHITE,true)", x.add(WHITE, true), 2);
        palette("add", x, 0, 255, WHITE);
        due("entry(2,1)", x.entry(2, 1), 1);
        due("entry(1,1)", x.entry(1, 1), 0);
        changed("add", x, before, 0);
        x = new PaletteBuilder();
        for (int e = 0; e < 16; e++) {
            due("add(" + e + ")", x.add(e, false), e);
        }
        before = x.digest();
        due("add(0), a 17th one", x.add(0, false), FULL);
        due("add(-1), a 17th one", x.add(-1, false), BAD);
        due("digest() after errors", x.digest(), before);
    }

    private static void promise10() {
        PaletteBuilder x = mapped();
        long before = x.digest();
        due("remove(0)", x.remove(0), 0);
        palette("remove(0)", x, 255);
        changed("remove", x, before, 0);
        x = withEntries(new PaletteBuilder(), 1, 2, 3, 4);
        x.lock(2, true);
        before = x.digest();
        due("remove(2), locked", x.remove(2), STATE);
        due("remove(-1)", x.remove(-1), BAD);
        due("remove(4)", x.remove(4), BAD);
        due("remove(MAX)", x.remove(MAX), BAD);
        due("remove(MIN)", x.remove(MIN), BAD);
        due("digest() after errors", x.digest(), before);
        due("remove(1)", x.remove(1), 2);
        palette("remove(1)", x, 1, 3, 4);
        due("entry(1,1)", x.entry(1, 1), 1);
        due("entry(2,1)", x.entry(2, 1), 0);
        due("remove(2)", x.remove(2), 4);
        due("remove(1), locked", x.remove(1), STATE);
    }

    private static void promise11() {
        PaletteBuilder x = mapped();
        long before = x.digest();
        due("lock(-1)", x.lock(-1, true), BAD);
        due("lock(2)", x.lock(2, true), BAD);
        due("lock(MIN)", x.lock(MIN, false), BAD);
        due("digest() after errors", x.digest(), before);
        due("lock(1,true)", x.lock(1, true), 0);
        due("entry(1,1)", x.entry(1, 1), 1);
        due("entry(0,1)", x.entry(0, 1), 0);
        due("index(1,0)", x.index(1, 0), 1);
        changed("lock", x, before, 1);
        x.lock(1, true);
        due("lock(1,true) again", x.lock(1, true), 1);
        due("lock(1,false)", x.lock(1, false), 1);
        due("lock(1,false) again", x.lock(1, false), 0);
        due("count(8)", x.count(8), 10);
    }

    private static void promise12() {
        PaletteBuilder x = mapped();
        long before = x.digest();
        due("swap(-1,0)", x.swap(-1, 0), BAD);
        due("swap(0,-1)", x.swap(0, -1), BAD);
        due("swap(2,0)", x.swap(2, 0), BAD);
        due("swap(0,2)", x.swap(0, 2), BAD);
        due("digest() after errors", x.digest(), before);
        due("swap(1,0)", x.swap(1, 0), 255);
        palette("swap(1,0)", x, 255, 0);
        indices("swap(1,0)", x, 1, 0, 2);
        changed("swap", x, before, 1);
        due("swap(1,1)", x.swap(1, 1), 255);
        indices("swap(1,1)", x, 0, 1, 2);
        changed("swap of the same", x, before, 1);
        x = withEntries(new PaletteBuilder(), 5, 6, 7);
        x.lock(2, true);
        due("swap(0,2), one is locked", x.swap(0, 2), 5);
        palette("swap(0,2)", x, 7, 6, 5);
        due("entry(0,1)", x.entry(0, 1), 1);
        due("entry(2,1)", x.entry(2, 1), 0);
    }

    private static void promise13() {
        PaletteBuilder x = mapped();
        long before = x.digest();
        due("setMetric(-1)", x.setMetric(-1), BAD);
        due("setMetric(2)", x.setMetric(2), BAD);
        due("setMetric(MAX)", x.setMetric(MAX), BAD);
        due("digest() after errors", x.digest(), before);
        due("error(), metric 0", x.error(), 100 + 3025);
        due("setMetric(1)", x.setMetric(1), 0);
        due("error(), metric 1", x.error(), 3 * 100 + 3 * 3025);
        changed("setMetric", x, before, 1);
        due("setMetric(0), the same", x.setMetric(0), 0);
        changed("setMetric, the same", x, before, 1);
        x.setMetric(1);
        due("setMetric(1) again", x.setMetric(1), 1);
        due("setMetric(0)", x.setMetric(0), 1);
        x = withEntries(row(0x030507), 0);
        due("bestError(), metric 0", x.bestError(), 9 + 25 + 49);
        x.setMetric(1);
        due("bestError(), metric 1", x.bestError(), 18 + 100 + 147);
        due("count(6)", x.count(6), 1);
    }

    private static void promise14() {
        PaletteBuilder x = withEntries(row(10, 12, 30, NONE, 12), 10, 12, 12, 200);
        x.lock(3, true);
        int[][] due = {{10, 0, 1}, {12, 0, 3}, {12, 0, 0}, {200, 1, 0}};
        for (int e = 0; e < 4; e++) {
            for (int what = 0; what < 3; what++) {
                due("entry(" + e + "," + what + ")", x.entry(e, what), due[e][what]);
            }
            due("entry(" + e + ",3) without indices", x.entry(e, 3), 0);
        }
        x.map(0, 0);
        x.swap(1, 2);
        due("entry(1,2), the first of two equal ones", x.entry(1, 2), 3);
        due("entry(1,3)", x.entry(1, 3), 0);
        due("entry(2,3), which was 1", x.entry(2, 3), 3);
        due("entry(0,3)", x.entry(0, 3), 1);
        x.add(1, false);
        due("entry(2,3), indices discarded", x.entry(2, 3), 0);
        due("entry(5,0)", x.entry(5, 0), BAD);
        due("entry(-1,0)", x.entry(-1, 0), BAD);
        due("entry(0,-1)", x.entry(0, -1), BAD);
        due("entry(0,4)", x.entry(0, 4), BAD);
        due("entry(MIN,MAX)", x.entry(MIN, MAX), BAD);
    }

    private static void promise15() {
        PaletteBuilder x = new PaletteBuilder();
        due("nearest(5), empty palette", x.nearest(5), NONE);
        due("nearest(-1), empty palette", x.nearest(-1), BAD);
        due("nearest(16777216)", x.nearest(16777216), BAD);
        due("nearest(MIN)", x.nearest(MIN), BAD);
        withEntries(x, 10, 20, 10, 15);
        due("nearest(10)", x.nearest(10), 0);
        due("nearest(15)", x.nearest(15), 3);
        due("nearest(18), 1 or 3", x.nearest(18), 1);
        due("nearest(0)", x.nearest(0), 0);
        due("nearest(WHITE)", x.nearest(WHITE), 1);
        x = withEntries(new PaletteBuilder(), 0x0A0000, 0x000900);
        due("nearest(0), metric 0", x.nearest(0), 1);
        x.setMetric(1);
        due("nearest(0), metric 1", x.nearest(0), 0);
    }

    private static void promise16() {
        PaletteBuilder x = new PaletteBuilder();
        due("type(-1)", x.type(-1), BAD);
        due("type(128)", x.type(128), BAD);
        due("type(MIN)", x.type(MIN), BAD);
        due("type(MAX)", x.type(MAX), BAD);
        due("count(9)", x.count(9), 0);
        for (int i = 1; i <= 140; i++) {
            due("type, call " + i, x.type(i % 2 == 0 ? 0 : 127), i);
        }
        long before = x.digest();
        due("type(0), full", x.type(0), FULL);
        due("type(128), full", x.type(128), BAD);
        due("digest() after errors", x.digest(), before);
        due("count(8), no change", x.count(8), 0);
    }

    private static void promise17() {
        PaletteBuilder x = withText("#fff");
        due("clearText()", x.clearText(), 4);
        due("clearText() again", x.clearText(), 0);
        due("count(9)", x.count(9), 0);
        due("load()", x.load(), 0);
        due("type(35)", x.type(35), 1);
        due("fault()", x.fault(), 1);
        due("count(8)", x.count(8), 1);
    }

    private static void fault(String text, int want) {
        PaletteBuilder x = withText(text);
        due("fault() of '" + text + "'", x.fault(), want);
        due("count(9) of '" + text + "'", x.count(9), text.length());
    }

    private static void promise18() {
        String[] right = {"", " ", ", ,", "#abc", "#ABCDEF", "#09afAF!", "#fff!#000", " ,#fff ,#ffffff!,", "#123#456#789abc"};
        for (String text : right) {
            fault(text, NONE);
        }
        fault("#", 1);
        fault("#f", 2);
        fault("#ff", 3);
        fault("#ffff", 5);
        fault("#fffff", 6);
        fault("#fffffff", 7);
        fault("#ffffff!!", 8);
        fault("#fff !", 5);
        fault("# fff", 1);
        fault("#ff f", 3);
        fault("#ffff f", 5);
        fault("#g", 1);
        fault("##", 1);
        fault("#!", 1);
        fault("!", 0);
        fault("fff", 0);
        fault(" ,x", 2);
        fault("#fff#", 5);
        fault("#ff! x", 3);
        fault("#fff\t", 4);
        fault("#ff/", 3);
        fault("#ff:", 3);
        fault("#ff@", 3);
        fault("#ffG", 3);
        fault("#ff`", 3);
        fault("#fffg", 4);
        fault("#fff\0", 4);
        String sixteen = "#123!".repeat(15) + "#abcdef";
        fault(sixteen, NONE);
        fault(sixteen + " ,", NONE);
        fault(sixteen + " #", sixteen.length() + 1);
        fault(sixteen + "#000", sixteen.length());
        fault(sixteen + "!#zzz", sixteen.length() + 1);
        fault("#123456! ".repeat(15) + "    #", 140);
        fault("#12345!" + " ".repeat(133), 6);
    }

    private static void promise19() {
        PaletteBuilder x = mapped();
        for (char letter : "#f0A! #0180fE,#00F".toCharArray()) {
            x.type(letter);
        }
        due("load()", x.load(), 3);
        palette("load()", x, 0xFF00AA, 0x0180FE, 0x0000FF);
        due("entry(0,1)", x.entry(0, 1), 1);
        due("entry(1,1)", x.entry(1, 1), 0);
        due("entry(2,1)", x.entry(2, 1), 0);
        due("count(9)", x.count(9), 0);
        due("count(7)", x.count(7), 0);
        due("undo()", x.undo(), 7);
        palette("undo()", x, 0, 255);
        due("count(9), the text does not come back", x.count(9), 0);
        x.type('x');
        long before = x.digest();
        due("load() with a fault", x.load(), STATE);
        due("digest() after errors", x.digest(), before);
        x = withText("#123!".repeat(16));
        due("load() of 16", x.load(), 16);
        due("count(5)", x.count(5), 16);
        x = withEntries(new PaletteBuilder(), 7);
        x.lock(0, true);
        due("load() of none", x.load(), 0);
        due("count(4)", x.count(4), 0);
        due("count(8)", x.count(8), 3);
    }

    private static void promise20() {
        PaletteBuilder x = mapped();
        long before = x.digest();
        int[][] bad = {{0, 0}, {17, 0}, {1, -1}, {1, 3}, {MIN, 0}, {MAX, 0}, {1, MAX}};
        for (int[] a : bad) {
            due("build(" + a[0] + "," + a[1] + ")", x.build(a[0], a[1]), BAD);
        }
        due("digest() after errors", x.digest(), before);
        due("build(16,2), two colors", x.build(16, 2), 2);
        palette("build(16,2)", x, 10, 200);
        changed("build", x, before, 0);
        locksInBuild();
        rulesOfBuild();
        splitsOfBuild();
    }

    private static void locksInBuild() {
        PaletteBuilder x = withEntries(row(10, 20, 30, 30), 1, 30, 2, 77);
        x.lock(1, true);
        x.lock(3, true);
        long before = x.digest();
        due("build(1,0), two are locked", x.build(1, 0), STATE);
        due("build(0,0), two are locked", x.build(0, 0), BAD);
        due("digest() after errors", x.digest(), before);
        due("build(2,0)", x.build(2, 0), 2);
        palette("build(2,0)", x, 30, 77);
        due("build(3,0)", x.build(3, 0), 3);
        palette("build(3,0)", x, 30, 77, 15);
        due("count(5)", x.count(5), 2);
        due("build(16,0)", x.build(16, 0), 4);
        palette("build(16,0)", x, 30, 77, 10, 20);
        x.paint(0, 0, 4, 1, NONE);
        due("build(16,0) without opaque pixels", x.build(16, 0), 2);
        x.lock(0, false);
        x.lock(1, false);
        due("build(16,0) without anything", x.build(16, 0), 0);
    }

    private static void rulesOfBuild() {
        // The first split, by red, leaves 4 pixels from blue 0 to 10, and 2 with red 200, blue 0 and 150.
        int[] colors = {0, 0, 10, 10, 0xC80000, 0xC80096};
        PaletteBuilder x = row(colors);
        due("build(2,0)", x.build(2, 0), 2);
        palette("build(2,0)", x, 5, 0xC8004B);
        due("build(3,0): most pixels", x.build(3, 0), 3);
        palette("build(3,0)", x, 0, 0xC8004B, 10);
        due("build(3,1): greatest range", x.build(3, 1), 3);
        palette("build(3,1)", x, 5, 0xC80000, 0xC80096);
        due("build(3,2): greatest spread", x.build(3, 2), 3);
        palette("build(3,2)", x, 5, 0xC80000, 0xC80096);
        // Below 6 pixels with 0 and 20 (spread 6 * 1200 - 3600 = 3600), above 3 with 200 and 230 (3 * 900 * 2 / 3).
        x = row(0, 0, 0, 20, 20, 20, 200, 200, 230);
        palette("build(2,2)", built(x, 2, 2), 10, 210);
        palette("build(3,1)", built(x, 3, 1), 10, 200, 230);
        palette("build(3,2)", built(x, 3, 2), 0, 210, 20);
        palette("build(4,1)", built(x, 4, 1), 0, 200, 230, 20);
        palette("build(5,1)", built(x, 5, 1), 0, 200, 230, 20);
        // Equal measures: the first box is split.
        x = row(0, 10, 100, 110);
        palette("build(3,0)", built(x, 3, 0), 0, 105, 10);
        palette("build(3,1)", built(x, 3, 1), 0, 105, 10);
        palette("build(3,2)", built(x, 3, 2), 0, 105, 10);
        // The box with the most pixels has one color: another one is split.
        x = row(0, 0, 0, 0, 0, 100, 110);
        palette("build(3,0)", built(x, 3, 0), 0, 100, 110);
    }

    private static PaletteBuilder built(PaletteBuilder x, int n, int rule) {
        x.build(n, rule);
        return x;
    }

    private static void splitsOfBuild() {
        // Ranges 10, 10, 10: red is chosen. The lower part is 0x000A00 and 0x00000A.
        PaletteBuilder x = row(0x000A00, 0x00000A, 0x0A0000, 0x0A0A0A);
        palette("equal ranges", built(x, 2, 0), 0x000505, 0x0A0505);
        // Equal values are ordered by the color: by green 0, then 0x010000 before 0x020000.
        x = row(0x020000, 0x010000, 0x00FF00);
        palette("equal values", built(x, 2, 0), 0x020000, 0x00FF00);
        palette("equal values", built(x, 3, 0), 0x010000, 0x00FF00, 0x020000);
        // The last color has most of the pixels: all but it are the lower part.
        x = row(1, 2, 3, 9, 9, 9, 9, 9);
        palette("heavy last color", built(x, 2, 0), 2, 9);
        // The first color has exactly half of the pixels.
        x = row(1, 1, 2, 3);
        palette("exact half", built(x, 2, 0), 1, 3);
        // Means: (2 * 1 + 2) / 4 = 1 for half, (2 * 1 + 3) / 6 = 0 for a third.
        x = row(0x000000, 0x010001);
        palette("mean of half", built(x, 1, 0), 0x010001);
        x = row(0, 0, 1);
        palette("mean of a third", built(x, 1, 0), 0);
        // The spread of 256 pixels of black and white does not fit into an int.
        x = sized(16, 16);
        x.paint(0, 0, 8, 16, WHITE);
        x.paint(8, 0, 1, 1, 1);
        palette("build(2,2)", built(x, 2, 2), 0, WHITE);
    }

    private static void promise21() {
        PaletteBuilder x = mapped();
        long before = x.digest();
        int[] bad = {0, 21, -1, MIN, MAX};
        for (int rounds : bad) {
            due("refine(" + rounds + ")", x.refine(rounds), BAD);
        }
        due("digest() after errors", x.digest(), before);
        due("refine(20)", x.refine(20), 1);
        palette("refine(20)", x, 10, 200);
        changed("refine", x, before, 0);
        x = new PaletteBuilder();
        due("refine(1), empty palette", x.refine(1), STATE);
        due("refine(0), empty palette", x.refine(0), BAD);
        due("count(8)", x.count(8), 0);
        // 0, 1 -> 0 and 2 to 100 -> 1; means 0 and 38; then 0 to 12 -> 5, 100; then no more.
        x = withEntries(row(0, 2, 12, 100), 0, 3);
        due("refine(1)", x.refine(1), 1);
        palette("refine(1)", x, 0, 38);
        due("refine(1)", x.refine(1), 1);
        palette("refine(1)", x, 5, 100);
        due("refine(1)", x.refine(1), 0);
        x = withEntries(row(0, 2, 12, 100), 0, 3, 3, 16777215);
        // 0, 38, 3; then 0, 100, 7, since 2 and 12 are now nearest to the third; then 1, 100, 12.
        due("refine(20)", x.refine(20), 3);
        palette("refine(20), unused entries stay", x, 1, 100, 12, 16777215);
        x = withEntries(row(0, 2, 12, 100), 0, 3, 3);
        due("refine(2)", x.refine(2), 2);
        palette("refine(2)", x, 0, 100, 7);
        x = withEntries(row(0, 2, 12, 100), 0, 3);
        x.lock(1, true);
        due("refine(5), one is locked", x.refine(5), 0);
        palette("refine(5)", x, 0, 3);
        due("count(8)", x.count(8), 9);
        x.lock(0, true);
        x.lock(1, false);
        due("refine(2), the other is locked", x.refine(2), 2);
        palette("refine(2)", x, 0, 100);
        x = withEntries(row(NONE), 4);
        due("refine(3) without opaque pixels", x.refine(3), 0);
        due("count(8)", x.count(8), 4);
    }

    private static void promise22() {
        PaletteBuilder x = mapped();
        long before = x.digest();
        int[] bad = {0, 17, -1, MIN, MAX};
        for (int n : bad) {
            due("merge(" + n + ")", x.merge(n), BAD);
        }
        due("digest() after errors", x.digest(), before);
        due("merge(2)", x.merge(2), 2);
        changed("merge without a difference", x, before, 0);
        due("merge(1)", x.merge(1), 1);
        palette("merge(1)", x, 128);
        // p = 3, 1, 1; costs 3 * 400 / 4 = 300, 3 * 2500 / 4, 900 / 2 = 450: 0 and 1 give (0 * 3 + 20) / 4 = 5.
        x = withEntries(row(0, 0, 0, 20, 50), 0, 20, 50);
        due("merge(2)", x.merge(2), 2);
        palette("merge(2)", x, 5, 50);
        due("merge(1)", x.merge(1), 1);
        palette("merge(1)", x, 14);
        due("merge(16)", x.merge(16), 1);
        due("merge(5), empty palette", new PaletteBuilder().merge(5), 0);
        locksInMerge();
        costsOfMerge();
    }

    private static void locksInMerge() {
        PaletteBuilder x = withEntries(row(0, 10, 100), 0, 10, 100);
        x.lock(0, true);
        x.lock(2, true);
        due("merge(1), two are locked", x.merge(1), 2);
        palette("merge(1)", x, 0, 100);
        due("count(5)", x.count(5), 2);
        due("merge(1), no pair is left", x.merge(1), 2);
        x = withEntries(row(0, 10, 100), 0, 10, 100);
        x.lock(1, true);
        due("merge(2), the second of the pair is locked", x.merge(2), 2);
        palette("merge(2)", x, 10, 100);
        due("entry(0,1)", x.entry(0, 1), 1);
        due("entry(1,1)", x.entry(1, 1), 0);
        x = withEntries(row(NONE), 3, 4);
        x.lock(1, true);
        due("merge(1) without pixels, a locked one", x.merge(1), 1);
        palette("merge(1)", x, 4);
    }

    private static void costsOfMerge() {
        // Without pixels the cost is 0: the first two, and the color of the first.
        PaletteBuilder x = withEntries(row(0), 0, 90, 80, 255);
        due("merge(3)", x.merge(3), 3);
        palette("merge(3), cost 0 with p = 1 and 0", x, 0, 80, 255);
        x = withEntries(row(NONE), 70, 90, 80);
        due("merge(2)", x.merge(2), 2);
        palette("merge(2), no pixels at all", x, 70, 80);
        // Rounded down, 1 * 1 * 1 / 2 and 1 * 1 * 0 / 2 are equal.
        x = withEntries(row(10, 11, 50, 50), 10, 11, 50, 50);
        due("merge(3)", x.merge(3), 3);
        palette("merge(3), rounded costs", x, 11, 50, 50);
        // With metric 1, green weighs more than blue.
        x = withEntries(row(0, 0x000A00, 0x00000B), 0, 0x000A00, 0x00000B);
        x.setMetric(1);
        due("merge(2), metric 1", x.merge(2), 2);
        palette("merge(2), metric 1", x, 6, 0x000A00);
        // 128 * 128 * 195075 / 256 = 12484800, though the product does not fit into an int.
        x = sized(16, 16);
        x.paint(0, 0, 8, 16, WHITE);
        x.paint(0, 0, 1, 2, 0x00FFFF);
        withEntries(x, 0, WHITE, 0x00FFFF);
        due("merge(2), great costs", x.merge(2), 2);
        palette("merge(2), great costs", x, 0, 0xFBFFFF);
    }

    private static void promise23() {
        PaletteBuilder x = mapped();
        long before = x.digest();
        int[] bad = {-1, 3, MIN, MAX};
        for (int order : bad) {
            due("sort(" + order + ")", x.sort(order), BAD);
        }
        due("digest() after errors", x.digest(), before);
        due("sort(0)", x.sort(0), 0);
        changed("sort without a difference", x, before, 1);
        due("sort(0), empty palette", new PaletteBuilder().sort(0), 0);
        // 2 * red + 5 * green + blue: 6, 5, 5, 7, 0.
        x = withEntries(new PaletteBuilder(), 0x030000, 0x000100, 0x020001, 7, 0);
        due("sort(0)", x.sort(0), 3);
        palette("sort(0)", x, 0, 0x000100, 0x020001, 0x030000, 7);
        x = withEntries(new PaletteBuilder(), 9, 0x020001, 1, 0x000100, 0);
        x.lock(2, true);
        due("sort(0), one is locked", x.sort(0), 2);
        palette("sort(0)", x, 0, 0x020001, 1, 0x000100, 9);
        due("entry(2,1)", x.entry(2, 1), 1);
        due("entry(0,1)", x.entry(0, 1), 0);
        sortByPixels();
        sortAsChain();
    }

    private static void sortByPixels() {
        PaletteBuilder x = withEntries(row(10, 20, 20, 30, 40, 40, NONE), 10, 20, 30, 40, 50);
        x.map(0, 0);
        int error = x.error();
        due("sort(1)", x.sort(1), 4);
        palette("sort(1)", x, 20, 40, 10, 30, 50);
        indices("sort(1)", x, 2, 0, 0, 3, 1, 1, 5);
        due("error()", x.error(), error);
        due("sort(1) again", x.sort(1), 0);
        due("undo()", x.undo(), 9);
    }

    private static void sortAsChain() {
        PaletteBuilder x = withEntries(row(5, 60, 30), 60, 5, 100, 30, 5, 32);
        x.map(0, 0);
        due("sort(2)", x.sort(2), 6);
        palette("sort(2)", x, 5, 5, 30, 32, 60, 100);
        indices("sort(2)", x, 0, 4, 2);
        // The first one is that with the least color, not the least sum; the locked one is no part of the chain.
        x = withEntries(new PaletteBuilder(), 0x000100, 30, 1, 20, 10);
        x.lock(2, true);
        due("sort(2), one is locked", x.sort(2), 4);
        palette("sort(2), one is locked", x, 10, 20, 1, 30, 0x000100);
        // From 10, the two others are equally near.
        x = withEntries(new PaletteBuilder(), 14, 10, 0x00040A);
        due("sort(2), equally near", x.sort(2), 2);
        palette("sort(2), equally near", x, 10, 14, 0x00040A);
        x = withEntries(new PaletteBuilder(), 0x00040A, 10, 14);
        due("sort(2), equally near", x.sort(2), 2);
        palette("sort(2), equally near", x, 10, 0x00040A, 14);
        x = withEntries(new PaletteBuilder(), 0x000300, 0x000004, 0);
        due("sort(2), metric 0", x.sort(2), 3);
        palette("sort(2), metric 0", x, 0, 0x000300, 4);
        x = withEntries(new PaletteBuilder(), 0x000400, 0x000004, 0);
        x.setMetric(1);
        due("sort(2), metric 1", x.sort(2), 2);
        palette("sort(2), metric 1", x, 0, 4, 0x000400);
    }

    private static void promise24() {
        PaletteBuilder x = mapped();
        long before = x.digest();
        int[][] bad = {{-1, 0}, {4, 0}, {0, -1}, {0, 65}, {1, 65}, {2, MIN}, {3, MAX}, {MIN, 0}, {MAX, 0}};
        for (int[] a : bad) {
            due("map(" + a[0] + "," + a[1] + ")", x.map(a[0], a[1]), BAD);
        }
        due("digest() after errors", x.digest(), before);
        due("map(0,64)", x.map(0, 64), 2);
        indices("map(0,64)", x, 0, 1, 2);
        changed("map", x, before, 1);
        x = new PaletteBuilder();
        due("map(0,0), empty palette", x.map(0, 0), STATE);
        due("map(4,0), empty palette", x.map(4, 0), BAD);
        due("count(8)", x.count(8), 0);
        for (int method = 0; method < 4; method++) {
            x = withEntries(row(NONE, NONE), 1, 2);
            due("map without opaque pixels", x.map(method, 0), 0);
            indices("map without opaque pixels", x, 2, 2);
        }
        orderedDithering();
        diffusionInFour();
        diffusionInSix();
        partsOfDiffusion();
    }

    private static void orderedDithering() {
        // With strength 16 the shift is 2 * B - 15 itself; an entry at 128 + 1 is taken if it is above 0.
        PaletteBuilder x = sized(5, 5);
        x.gradient(0x808080, 0x808080, false);
        withEntries(x, 0x7F7F7F, 0x828282);
        due("map(1,16)", x.map(1, 16), 2);
        indices("map(1,16)", x, 0, 1, 0, 1, 0, 1, 0, 1, 0, 1, 0, 1, 0, 1, 0, 1, 0, 1, 0, 1, 0, 1, 0, 1, 0);
        due("map(1,0)", x.map(1, 0), 1);
        // Strength 4: shifts -15, 1, -11, 5, 9, -7, 13, -3 ... times 4 / 16, toward zero: -3, 0, -2, 1, 2, -1, 3, 0.
        x = sized(4, 2);
        x.gradient(0x101010, 0x101010, false);
        withEntries(x, 0x0D0D0D, 0x0E0E0E, 0x0F0F0F, 0x101010, 0x111111, 0x121212, 0x131313);
        due("map(1,4)", x.map(1, 4), 7);
        indices("map(1,4)", x, 0, 3, 1, 4, 5, 2, 6, 3);
        // Entry e is the gray 128 + 2 * e - 15, so that each index is B itself.
        x = sized(6, 5);
        x.gradient(0x808080, 0x808080, false);
        for (int e = 0; e < 16; e++) {
            x.add(0x010101 * (128 + 2 * e - 15), false);
        }
        due("map(1,16)", x.map(1, 16), 16);
        indices("map(1,16)", x, 0, 8, 2, 10, 0, 8, 12, 4, 14, 6, 12, 4, 3, 11, 1, 9, 3, 11, 15, 7, 13, 5, 15, 7, 0, 8, 2, 10, 0, 8);
        // Each channel is shifted for itself.
        x = withEntries(row(0, 0x500AF0), 0x510BF1, 0x500AF0, 0x510AF0, 0x500BF0, 0x500AF1);
        x.map(1, 16);
        due("index(1,0), shifted by 1", x.index(1, 0), 0);
        // Values are limited: 0 - 60 is 0, and 255 + 4 is 255.
        x = withEntries(row(0x0000FF, 0xFF0000), 0x0000C3, 0xFF0404);
        due("map(1,64)", x.map(1, 64), 2);
        indices("map(1,64)", x, 0, 1);
    }

    private static void diffusionInFour() {
        // 16 * 100 = 1600 -> entry 0, e = 1600: 700 ahead; 1600 + 700 = 2300 -> 144 -> entry 1 (255),
        // e = 2300 - 4080 = -1780: 7 * -1780 / 16 = -779 rounded down; 1600 - 779 = 821 -> 51 -> entry 0.
        PaletteBuilder x = withEntries(row(0x646464, 0x646464, 0x646464), 0, WHITE);
        due("map(2,0)", x.map(2, 0), 2);
        indices("map(2,0)", x, 0, 1, 0);
        // A transparent pixel takes its part away.
        x = withEntries(row(0x646464, NONE, 0x646464), 0, WHITE);
        due("map(2,9)", x.map(2, 9), 1);
        indices("map(2,9)", x, 0, 2, 0);
        // Row 0 to the right, row 1 to the left; only blue differs. All sums begin with 1600.
        // (0,0): e = 1600: ahead 700, below 500, ahead below 1600 - 700 - 300 - 500 = 100.
        // (1,0): 2300 -> 144 -> 255, e = -1780: behind below -334, below -557; the others are lost.
        // (1,1): 1600 + 100 - 557 = 1143 -> 71 -> 0, e = 1143: ahead, which is (0,1), 500.
        // (0,1): 1600 + 500 - 334 + 500 = 2266 -> 142 -> 255.
        x = sized(2, 2);
        x.gradient(100, 100, false);
        withEntries(x, 0, 255);
        due("map(2,0)", x.map(2, 0), 2);
        indices("map(2,0)", x, 0, 1, 1, 0);
    }

    /** The blue that a pixel of 200 is mapped to, after one of 99, mapped to 0, with all others transparent. */
    private static int received(int method, int fromX, int fromY, int toX, int toY, int channel) {
        PaletteBuilder x = sized(5, 6);
        x.paint(0, 0, 5, 6, NONE);
        int unit = channel == 0 ? 65536 : channel == 1 ? 256 : 1;
        x.paint(fromX, fromY, 1, 1, 99 * unit);
        x.paint(toX, toY, 1, 1, 200 * unit);
        withEntries(x, 0, 200 * unit, 206 * unit, 212 * unit, 219 * unit, 231 * unit, 243 * unit);
        x.map(method, 0);
        return x.entry(x.index(toX, toY), 0) / unit;
    }

    private static void partsOfDiffusion() {
        // e = 1584; with method 2 the parts are 693, 297, 495 and 99, with method 3 they are 198.
        // (3200 + part + 8) / 16 is 243, 219, 231, 206 and 212, and without a part 200.
        for (int fromY = 1; fromY <= 3; fromY++) {
            int ahead = fromY % 2 == 0 ? 1 : -1;
            for (int dy = 0; dy <= 2; dy++) {
                for (int dx = -2; dx <= 2; dx++) {
                    if (dy == 0 && dx * ahead <= 0) {
                        continue;
                    }
                    int four = dy == 0 && dx == ahead ? 243 : dy != 1 ? 200
                            : dx == -ahead ? 219 : dx == 0 ? 231 : dx == ahead ? 206 : 200;
                    int six = dy == 0 || (dy == 1 && dx * dx <= 1) || (dy == 2 && dx == 0) ? 212 : 200;
                    for (int channel = 0; channel < 3; channel++) {
                        String when = " from row " + fromY + " by " + dx + "," + dy + ", channel " + channel;
                        due("map(2,0)" + when, received(2, 2, fromY, 2 + dx, fromY + dy, channel), four);
                        due("map(3,0)" + when, received(3, 2, fromY, 2 + dx, fromY + dy, channel), six);
                    }
                }
            }
        }
    }

    private static void diffusionInSix() {
        // 1600 -> 0, e = 1600: 200 each; (1,0): 1800 -> 113 -> 0, e = 1800: 225;
        // (2,0): 1600 + 200 + 225 = 2025 -> 127 -> 0, e = 2025: 253; (3,0): 1600 + 225 + 253 = 2078 -> 130 -> 255.
        PaletteBuilder x = withEntries(row(100, 100, 100, 100), 0, 255);
        due("map(3,0)", x.map(3, 0), 2);
        indices("map(3,0)", x, 0, 0, 0, 1);
        // One column: 1600 -> 0, 200 to each of the two below; 1800 -> 0, 225; 2025 -> 0, 253; 2078 -> 255.
        x = sized(1, 4);
        x.gradient(100, 100, false);
        withEntries(x, 0, 255);
        due("map(3,0)", x.map(3, 0), 2);
        indices("map(3,0)", x, 0, 0, 0, 1);
        // (0,0): 1600, 200 to (1,0), (0,1), (1,1); (1,0): 1800, 225 to (0,1), (1,1).
        // (1,1): 2025 -> 127 -> 0, 253 to (0,1): 1600 + 200 + 225 + 253 = 2278 -> 142 -> 255.
        x = sized(2, 2);
        x.gradient(100, 100, false);
        withEntries(x, 0, 255);
        x.map(3, 0);
        indices("map(3,0)", x, 0, 0, 1, 0);
    }

    private static void promise25() {
        PaletteBuilder x = sized(2, 2);
        x.paint(1, 0, 1, 2, 200);
        x.paint(0, 1, 1, 1, NONE);
        due("index(0,0), no indices", x.index(0, 0), STATE);
        due("index(2,0), no indices", x.index(2, 0), BAD);
        withEntries(x, 0, 200, 100);
        x.map(0, 0);
        indices("index", x, 0, 1, 3, 1);
        int[][] bad = {{2, 0}, {0, 2}, {-1, 0}, {0, -1}, {MIN, 0}, {0, MAX}};
        for (int[] a : bad) {
            due("index(" + a[0] + "," + a[1] + ")", x.index(a[0], a[1]), BAD);
        }
    }

    private static void promise26() {
        due("error() of a new one", new PaletteBuilder().error(), STATE);
        PaletteBuilder x = mapped();
        due("error()", x.error(), 10 * 10 + 55 * 55);
        x.lock(0, true);
        x.setMetric(1);
        due("error(), metric 1", x.error(), 3 * (10 * 10 + 55 * 55));
        x.remove(1);
        due("error(), indices discarded", x.error(), STATE);
        x = withEntries(row(NONE), 7);
        x.map(0, 0);
        due("error() without opaque pixels", x.error(), 0);
        x = sized(16, 16);
        x.gradient(WHITE, WHITE, false);
        x.setMetric(1);
        x.add(0, false);
        x.map(0, 0);
        due("error(), the greatest one", x.error(), 256 * 9 * 65025);
    }

    private static void promise27() {
        due("worst() of a new one", new PaletteBuilder().worst(), STATE);
        PaletteBuilder x = sized(3, 3);
        x.paint(2, 1, 1, 1, 5);
        x.paint(0, 2, 1, 1, 5);
        x.paint(1, 0, 1, 1, 4);
        x.add(0, false);
        x.map(0, 0);
        due("worst()", x.worst(), 18);
        x.paint(0, 0, 3, 3, 0);
        x.paint(0, 0, 2, 1, NONE);
        x.map(0, 0);
        due("worst() without errors", x.worst(), 2);
        x.paint(0, 0, 3, 3, NONE);
        due("worst(), indices discarded", x.worst(), STATE);
        x.map(0, 0);
        due("worst() without opaque pixels", x.worst(), NONE);
    }

    private static void promise28() {
        due("meanError() of a new one", new PaletteBuilder().meanError(), STATE);
        PaletteBuilder x = mapped();
        due("meanError()", x.meanError(), Float.floatToIntBits(1562.5f));
        x = withEntries(row(1, 0, 0, NONE), 0);
        x.map(0, 0);
        due("meanError(), a third", x.meanError(), 0x3EAAAAAB);
        x.paint(0, 0, 1, 1, 0);
        x.map(0, 0);
        due("meanError() without errors", x.meanError(), 0);
        x.paint(0, 0, 4, 1, NONE);
        x.map(0, 0);
        due("meanError() without opaque pixels", x.meanError(), NONE);
        // The error 150000001 or so has no float of its own: it is rounded before it is divided.
        x = sized(16, 16);
        x.gradient(WHITE, WHITE, false);
        x.paint(0, 0, 5, 1, 0x123456);
        x.setMetric(1);
        x.add(0x000102, false);
        x.map(0, 0);
        due("meanError(), a great one", x.meanError(), Float.floatToIntBits((float) x.error() / 256f));
        for (int y = 0; y < 16; y++) {
            x.paint(y, y, 1, 1, NONE);
            x.noise(y, 7);
            x.map(0, 0);
            due("meanError()", x.meanError(), Float.floatToIntBits((float) x.error() / (float) (255 - y)));
        }
        x = sized(16, 16);
        x.paint(3, 3, 1, 1, 1);
        x.add(0, false);
        x.map(0, 0);
        due("meanError(), the least one", x.meanError(), Float.floatToIntBits(1f / 256f));
    }

    private static void promise29() {
        due("runs() of a new one", new PaletteBuilder().runs(), STATE);
        PaletteBuilder x = sized(3, 2);
        x.paint(1, 0, 2, 1, 9);
        x.paint(0, 1, 1, 1, 9);
        x.paint(1, 1, 1, 1, NONE);
        withEntries(x, 0, 9);
        x.map(0, 0);
        due("runs(), one over the end of a row", x.runs(), 4);
        x.remove(0);
        due("runs(), indices discarded", x.runs(), STATE);
        x.map(0, 0);
        due("runs()", x.runs(), 3);
        x.paint(1, 1, 1, 1, 4);
        x.map(0, 0);
        due("runs(), all are equal", x.runs(), 1);
    }

    private static void promise30() {
        PaletteBuilder x = new PaletteBuilder();
        due("packed(0) of a new one", x.packed(0), STATE);
        due("packed(NONE) of a new one", x.packed(NONE), STATE);
        due("packed(-2) of a new one", x.packed(-2), BAD);
        due("packed(MIN) of a new one", x.packed(MIN), BAD);
        x = sized(9, 2);
        x.paint(8, 0, 1, 1, 9);
        x.paint(0, 1, 1, 1, 9);
        x.paint(2, 1, 1, 1, 9);
        withEntries(x, 0, 9);
        x.map(0, 0);
        bytes("one bit", x, 0, 0x80, 0xA0, 0);
        x.paint(1, 1, 1, 1, NONE);
        x.map(0, 0);
        bytes("two bits", x, 0, 0, 0x40, 0x64, 0, 0);
        x = withEntries(row(0, 3, 4), 0, 1, 2, 3);
        x.map(0, 0);
        bytes("two bits for 3", x, 0x3C);
        x.add(4, false);
        x.map(0, 0);
        bytes("four bits for 4", x, 0x03, 0x40);
        x = row(0, NONE, 14);
        for (int e = 0; e < 15; e++) {
            x.add(e, false);
        }
        x.map(0, 0);
        bytes("four bits for 15", x, 0x0F, 0xE0);
        x.add(15, false);
        x.map(0, 0);
        bytes("eight bits for 16", x, 0, 16, 14);
        x.paint(1, 0, 1, 1, 1);
        x.map(0, 0);
        bytes("four bits: what the image has counts", x, 0x01, 0xE0);
    }

    private static void bytes(String when, PaletteBuilder x, int... bytes) {
        due(when + ": packed(NONE)", x.packed(NONE), bytes.length);
        for (int k = 0; k < bytes.length; k++) {
            due(when + ": packed(" + k + ")", x.packed(k), bytes[k]);
        }
        due(when + ": packed(" + bytes.length + ")", x.packed(bytes.length), NONE);
        due(when + ": packed(MAX)", x.packed(MAX), NONE);
        due(when + ": packed(-2)", x.packed(-2), BAD);
    }

    private static void promise31() {
        PaletteBuilder x = new PaletteBuilder();
        due("bestError(), empty palette", x.bestError(), STATE);
        x.paint(0, 0, 1, 1, NONE);
        due("bestError(), empty palette, no opaque pixel", x.bestError(), 0);
        x = withEntries(row(10, 20, NONE, 35), 12, 30);
        due("bestError()", x.bestError(), 4 + 64 + 25);
        x.map(1, 64);
        due("bestError(), whatever the indices", x.bestError(), 4 + 64 + 25);
        x.setMetric(1);
        due("bestError(), metric 1", x.bestError(), 3 * (4 + 64 + 25));
    }

    private static void promise32() {
        PaletteBuilder x = withEntries(row(10, 20, NONE, 35), 12);
        due("loss(0) of the only one", x.loss(0), STATE);
        due("loss(1)", x.loss(1), BAD);
        due("loss(-1)", x.loss(-1), BAD);
        due("loss(MIN)", x.loss(MIN), BAD);
        due("loss(0) of none", new PaletteBuilder().loss(0), BAD);
        withEntries(x, 30, 21);
        x.lock(1, true);
        long before = x.digest();
        due("loss(0)", x.loss(0), 121 - 4);
        due("loss(1), locked", x.loss(1), 196 - 25);
        due("loss(2)", x.loss(2), 64 - 1);
        due("digest(), nothing changed", x.digest(), before);
        x.add(12, false);
        due("loss(0) of two equal ones", x.loss(0), 0);
        due("loss(3) of two equal ones", x.loss(3), 0);
    }

    private static void promise33() {
        PaletteBuilder x = new PaletteBuilder();
        due("cheapest(), empty palette", x.cheapest(), STATE);
        x = withEntries(row(10, 20, NONE, 35), 12);
        due("cheapest() of one", x.cheapest(), STATE);
        x.lock(0, true);
        due("cheapest() of one, locked", x.cheapest(), STATE);
        x.lock(0, false);
        withEntries(x, 30, 21);
        due("cheapest()", x.cheapest(), 2);
        x.lock(2, true);
        due("cheapest(), the least is locked", x.cheapest(), 0);
        withEntries(x, 200, 220);
        due("cheapest(), two without loss", x.cheapest(), 3);
        for (int e = 0; e < 5; e++) {
            x.lock(e, true);
        }
        due("cheapest(), all are locked", x.cheapest(), NONE);
    }

    private static void promise34() {
        PaletteBuilder x = row(10, 20, NONE, 35);
        due("gain(10), empty palette", x.gain(10), STATE);
        due("gain(-1), empty palette", x.gain(-1), BAD);
        due("gain(16777216), empty palette", x.gain(16777216), BAD);
        due("gain(MIN)", x.gain(MIN), BAD);
        for (int e = 0; e < 16; e++) {
            x.add(12, false);
        }
        long before = x.digest();
        // The best error is 4 + 64 + 529; with 30 it is 4 + 64 + 25, since 12 is as good for 20 as 28.
        due("gain(30), full palette", x.gain(30), 504);
        due("gain(24)", x.gain(24), 64 - 16 + 529 - 121);
        due("gain(12)", x.gain(12), 0);
        due("gain(WHITE)", x.gain(WHITE), 0);
        due("digest(), nothing changed", x.digest(), before);
    }

    private static void promise35() {
        PaletteBuilder x = row(10, 20, NONE, 35);
        due("bestAddition(), empty palette", x.bestAddition(), STATE);
        x.add(12, false);
        due("bestAddition()", x.bestAddition(), 35);
        x.add(35, false);
        due("bestAddition()", x.bestAddition(), 20);
        x = withEntries(row(30, 10, 20), 20);
        due("bestAddition(), of equal ones the least", x.bestAddition(), 10);
        x = withEntries(row(30, 10), 10, 30);
        due("bestAddition() without gain", x.bestAddition(), 10);
        x.paint(0, 0, 2, 1, NONE);
        due("bestAddition() without opaque pixels", x.bestAddition(), NONE);
        x = withEntries(row(0x00000B, 0x000A00), 0);
        due("bestAddition(), metric 0", x.bestAddition(), 0x00000B);
        x.setMetric(1);
        due("bestAddition(), metric 1", x.bestAddition(), 0x000A00);
    }

    private static void promise36() {
        PaletteBuilder x = new PaletteBuilder();
        due("undo() of a new one", x.undo(), STATE);
        for (int i = 1; i <= 13; i++) {
            x.paint(0, 0, 1, 1, i);
            due("count(8)", x.count(8), Math.min(i, 10));
        }
        for (int i = 1; i <= 10; i++) {
            due("undo() " + i, x.undo(), 10 - i);
            due("pixel(0,0)", x.pixel(0, 0), 13 - i);
        }
        due("undo(), nothing is left", x.undo(), STATE);
        due("pixel(0,0)", x.pixel(0, 0), 3);
        x = mapped();
        long before = x.digest();
        x.image(5, 5);
        x.setMetric(1);
        x.type(65);
        x.remove(0);
        due("undo()", x.undo(), 9);
        due("count(4)", x.count(4), 2);
        due("undo()", x.undo(), 8);
        due("count(6)", x.count(6), 0);
        due("undo()", x.undo(), 7);
        due("count(9), the text stays", x.count(9), 1);
        x.clearText();
        due("digest(), image and indices are back", x.digest(), before);
        due("undo() of map()", x.undo(), 6);
        due("count(7)", x.count(7), 0);
    }

    private static void promise37() {
        PaletteBuilder x = mapped();
        x.lock(1, true);
        x.setMetric(1);
        x.type(1);
        x.type(2);
        x.type(3);
        int[] counts = {3, 1, 2, 1, 2, 1, 1, 1, 9, 3};
        for (int what = 0; what < 10; what++) {
            due("count(" + what + ")", x.count(what), counts[what]);
        }
        due("count(-1)", x.count(-1), BAD);
        due("count(10)", x.count(10), BAD);
        due("count(MIN)", x.count(MIN), BAD);
        due("count(MAX)", x.count(MAX), BAD);
        x.image(4, 7);
        due("count(0)", x.count(0), 4);
        due("count(1)", x.count(1), 7);
        due("count(7)", x.count(7), 0);
    }

    private static long mixed(long... values) {
        long h = 77;
        for (long value : values) {
            h = 31 * h + value;
        }
        return h;
    }

    private static void promise38() {
        PaletteBuilder x = mapped();
        x.lock(1, true);
        x.type(35);
        x.type(127);
        due("digest()", x.digest(), mixed(3, 1, 2, 1, 2, 1, 0, 1, 8, 2, 10, 200, NONE, 0, 0, 1, 1, 255, 1, 1, 1,
                0, 1, 2, 3125, 1, Float.floatToIntBits(1562.5f), 3, 35, 127));
        due("digest() again", x.digest(), x.digest());
        x.paint(0, 0, 3, 1, NONE);
        due("digest() without indices", x.digest(), mixed(3, 1, 0, 3, 2, 1, 0, 0, 9, 2, NONE, NONE, NONE,
                0, 0, 0, 0, 255, 1, 0, 0, 35, 127));
        x.map(3, 0);
        due("digest() without opaque pixels", x.digest(), mixed(3, 1, 0, 3, 2, 1, 0, 1, 10, 2, NONE, NONE, NONE,
                0, 0, 0, 0, 255, 1, 0, 0, 2, 2, 2, 0, NONE, NONE, 1, 35, 127));
    }

    public static void main(String[] args) {
        Runnable[] promises = {PromisesTest::promise1, PromisesTest::promise2, PromisesTest::promise3,
            PromisesTest::promise4, PromisesTest::promise5, PromisesTest::promise6, PromisesTest::promise7,
            PromisesTest::promise8, PromisesTest::promise9, PromisesTest::promise10, PromisesTest::promise11,
            PromisesTest::promise12, PromisesTest::promise13, PromisesTest::promise14, PromisesTest::promise15,
            PromisesTest::promise16, PromisesTest::promise17, PromisesTest::promise18, PromisesTest::promise19,
            PromisesTest::promise20, PromisesTest::promise21, PromisesTest::promise22, PromisesTest::promise23,
            PromisesTest::promise24, PromisesTest::promise25, PromisesTest::promise26, PromisesTest::promise27,
            PromisesTest::promise28, PromisesTest::promise29, PromisesTest::promise30, PromisesTest::promise31,
            PromisesTest::promise32, PromisesTest::promise33, PromisesTest::promise34, PromisesTest::promise35,
            PromisesTest::promise36, PromisesTest::promise37, PromisesTest::promise38};
        for (Runnable each : promises) {
            promise++;
            each.run();
        }
        System.out.println(wrong == 0 ? "all answers are as due" : wrong + " answers are not as due");
        if (wrong != 0) {
            System.exit(1);
        }
    }
}
