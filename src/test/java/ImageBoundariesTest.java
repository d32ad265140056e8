/** The boundary cases of promises 2 to 8, sentence by sentence. */
public final class ImageBoundariesTest extends Boundaries {
    private static final int[] NO_SIDES = {0, 17, -1, -16, MIN, MAX, 65537, 257};

    private static void widthOfAnImage() {
        sentence(2, "`width`: the width, 1 to 16");
        PaletteBuilder x = sample();
        for (int width : NO_SIDES) {
            refused("image(" + width + ",1)", x, BAD, b -> b.image(width, 1));
            refused("image(" + width + ",16)", x, BAD, b -> b.image(width, 16));
        }
        due("image(1,2)", x.image(1, 2), 2);
        due("count(0)", x.count(0), 1);
        due("image(16,2)", x.image(16, 2), 32);
        due("count(0)", x.count(0), 16);
        due("count(1)", x.count(1), 2);
    }

    private static void heightOfAnImage() {
        sentence(2, "`height`: the height, 1 to 16");
        PaletteBuilder x = sample();
        for (int height : NO_SIDES) {
            refused("image(1," + height + ")", x, BAD, b -> b.image(1, height));
            refused("image(16," + height + ")", x, BAD, b -> b.image(16, height));
        }
        refused("image(0,0)", x, BAD, b -> b.image(0, 0));
        refused("image(17,17)", x, BAD, b -> b.image(17, 17));
        due("image(2,1)", x.image(2, 1), 2);
        due("count(1)", x.count(1), 1);
        due("image(2,16)", x.image(2, 16), 32);
        due("count(1)", x.count(1), 16);
        due("count(0)", x.count(0), 2);
    }

    private static void newPixels() {
        sentence(2, "Makes a new image, all of whose pixels are opaque and black. This is a change.");
        PaletteBuilder x = plain(16, 16, 77);
        x.image(3, 5);
        pixels("a smaller image", x, new int[15]);
        x.image(16, 16);
        pixels("a greater image, nothing is left of an earlier one", x, new int[256]);
        x.paint(0, 0, 16, 16, NONE);
        x.image(16, 16);
        due("count(2), nothing is left of transparent pixels", x.count(2), 256);
        change("image(3,1)", sample(), 3, 0, b -> b.image(3, 1));
        change("image(16,16)", sample(), 256, 0, b -> b.image(16, 16));
        change("image(1,1)", new PaletteBuilder(), 1, 0, b -> b.image(1, 1));
        sentence(2, "Returns the number of pixels; BAD.");
        due("image(1,1)", x.image(1, 1), 1);
        due("image(1,16)", x.image(1, 16), 16);
        due("image(16,1)", x.image(16, 1), 16);
        due("image(16,16)", x.image(16, 16), 256);
        due("image(15,16)", x.image(15, 16), 240);
    }

    private static void placeOfPaint() {
        sentence(3, "`x`: the least x, which is in the image");
        PaletteBuilder x = sized(3, 2);
        for (int at : new int[] {-1, 3, 16, MIN, MAX}) {
            refused("paint(" + at + ",0,1,1,5)", x, BAD, b -> b.paint(at, 0, 1, 1, 5));
        }
        // With x = -1, a part of the rectangle would be in the image.
        refused("paint(-1,0,2,1,5)", x, BAD, b -> b.paint(-1, 0, 2, 1, 5));
        due("paint(0,0,1,1,5)", x.paint(0, 0, 1, 1, 5), 1);
        due("paint(2,0,1,1,6)", x.paint(2, 0, 1, 1, 6), 1);
        pixels("paint", x, 5, 0, 6, 0, 0, 0);
        sentence(3, "`y`: the least y, which is in the image");
        for (int at : new int[] {-1, 2, 16, MIN, MAX}) {
            refused("paint(0," + at + ",1,1,5)", x, BAD, b -> b.paint(0, at, 1, 1, 5));
        }
        refused("paint(0,-1,1,2,5)", x, BAD, b -> b.paint(0, -1, 1, 2, 5));
        due("paint(2,1,1,1,7)", x.paint(2, 1, 1, 1, 7), 1);
        pixels("paint", x, 5, 0, 6, 0, 0, 7);
    }

    private static void sizeOfPaint() {
        sentence(3, "`width`: the width, at least 1; the rectangle lies in the image");
        PaletteBuilder x = sized(4, 3);
        for (int width : new int[] {0, -1, 4, MIN, MAX, MAX - 1}) {
            refused("paint(1,1," + width + ",1,5)", x, BAD, b -> b.paint(1, 1, width, 1, 5));
        }
        refused("paint(0,0,5,1,5)", x, BAD, b -> b.paint(0, 0, 5, 1, 5));
        refused("paint(3,0,2,1,5)", x, BAD, b -> b.paint(3, 0, 2, 1, 5));
        refused("paint(0,2,1,2,5)", x, BAD, b -> b.paint(0, 2, 1, 2, 5));
        refused("paint(0,0,4,4,5)", x, BAD, b -> b.paint(0, 0, 4, 4, 5));
        due("paint(1,1,3,1,5)", x.paint(1, 1, 3, 1, 5), 3);
        pixels("paint", x, 0, 0, 0, 0, 0, 5, 5, 5, 0, 0, 0, 0);
        due("paint(0,0,4,1,6)", x.paint(0, 0, 4, 1, 6), 4);
        pixels("paint", x, 6, 6, 6, 6, 0, 5, 5, 5, 0, 0, 0, 0);
        sentence(3, "`height`: the height, at least 1");
        for (int height : new int[] {0, -1, 3, MIN, MAX, MAX - 1}) {
            refused("paint(1,1,1," + height + ",5)", x, BAD, b -> b.paint(1, 1, 1, height, 5));
        }
        refused("paint(0,0,0,0,5)", x, BAD, b -> b.paint(0, 0, 0, 0, 5));
        due("paint(1,1,1,2,8)", x.paint(1, 1, 1, 2, 8), 2);
        due("paint(0,0,1,3,9)", x.paint(0, 0, 1, 3, 9), 3);
        pixels("paint", x, 9, 6, 6, 6, 9, 8, 5, 5, 9, 8, 0, 0);
        sentence(3, "Returns the number of its pixels; BAD.");
        due("paint(3,2,1,1,1)", x.paint(3, 2, 1, 1, 1), 1);
        due("paint(0,0,4,3,1)", x.paint(0, 0, 4, 3, 1), 12);
        x.image(16, 16);
        due("paint(0,0,16,16,1)", x.paint(0, 0, 16, 16, 1), 256);
        due("pixel(15,15)", x.pixel(15, 15), 1);
        refused("paint(0,0,17,16,1)", x, BAD, b -> b.paint(0, 0, 17, 16, 1));
    }

    private static void colorOfPaint() {
        sentence(3, "`color`: a color, or NONE to make the pixels transparent");
        PaletteBuilder x = sample();
        for (int color : new int[] {-2, -3, MAX_COLOR + 1, MIN, MAX}) {
            refused("paint(0,0,1,1," + color + ")", x, BAD, b -> b.paint(0, 0, 1, 1, color));
        }
        due("paint(0,0,1,1,0)", x.paint(0, 0, 1, 1, 0), 1);
        due("paint(1,0,1,1,16777215)", x.paint(1, 0, 1, 1, MAX_COLOR), 1);
        pixels("paint", x, 0, MAX_COLOR, NONE);
        due("paint(0,0,1,1,NONE)", x.paint(0, 0, 1, 1, NONE), 1);
        due("paint(2,0,1,1,NONE), transparent already", x.paint(2, 0, 1, 1, NONE), 1);
        pixels("paint", x, NONE, MAX_COLOR, NONE);
        due("paint(2,0,1,1,3), opaque again", x.paint(2, 0, 1, 1, 3), 1);
        pixels("paint", x, NONE, MAX_COLOR, 3);
        sentence(3, "Paints a rectangle. This is a change.");
        change("paint(0,0,3,1,9)", sample(), 3, 0, b -> b.paint(0, 0, 3, 1, 9));
        change("paint(2,0,1,1,NONE), nothing becomes different", sample(), 1, 0, b -> b.paint(2, 0, 1, 1, NONE));
    }

    private static void stepsOfAGradient() {
        sentence(4, "the value of each channel at step i of n steps is a + (b - a) * i / (n - 1), "
                + "where a and b are its values in both colors and the division rounds toward zero; with n = 1 it is a.");
        // From 10 to 0 in 4 steps: 10 - 3.3, 10 - 6.7; rounding down would give 6 and 3.
        PaletteBuilder x = sized(4, 1);
        x.gradient(10, 0, false);
        pixels("falling", x, 10, 7, 4, 0);
        x.gradient(0, 10, false);
        pixels("rising", x, 0, 3, 6, 10);
        x = sized(3, 1);
        x.gradient(0xFF00FF, 0x00FF00, false);
        pixels("255 to 0 and 0 to 255", x, 0xFF00FF, 0x807F80, 0x00FF00);
        x = sized(1, 1);
        due("gradient(5,9,false) of one pixel", x.gradient(5, 9, false), 1);
        pixels("n = 1", x, 5);
        due("gradient(6,9,true) of one pixel", x.gradient(6, 9, true), 1);
        pixels("n = 1", x, 6);
        x = sized(1, 2);
        x.gradient(5, 9, false);
        pixels("n = 1, not vertical", x, 5, 5);
        x = sized(2, 1);
        x.gradient(5, 9, true);
        pixels("n = 1, vertical", x, 5, 5);
        x.gradient(WHITE, 0, false);
        pixels("n = 2", x, WHITE, 0);
        x = sized(16, 1);
        x.gradient(0, 0xFF1E0E, false);
        for (int i = 0; i < 16; i++) {
            due("n = 16, pixel(" + i + ",0)", x.pixel(i, 0), 65536 * 17 * i + 256 * 2 * i + 14 * i / 15);
        }
    }

    private static void wholeGradient() {
        sentence(4, "All pixels become opaque. This is a change.");
        PaletteBuilder x = plain(16, 16, NONE);
        due("gradient(1,1,true)", x.gradient(1, 1, true), 256);
        due("count(3)", x.count(3), 0);
        due("pixel(15,15)", x.pixel(15, 15), 1);
        change("gradient(0,255,false)", sample(), 3, 0, b -> b.gradient(0, 255, false));
        change("gradient(0,0,true), nothing becomes different", new PaletteBuilder(), 1, 0, b -> b.gradient(0, 0, true));
        sentence(4, "`vertical`: whether i is y and n is the height; otherwise i is x and n is the width");
        x = sized(2, 3);
        due("gradient(0,20,true)", x.gradient(0, 20, true), 6);
        pixels("vertical", x, 0, 0, 10, 10, 20, 20);
        due("gradient(0,20,false)", x.gradient(0, 20, false), 6);
        pixels("not vertical", x, 0, 20, 0, 20, 0, 20);
        sentence(4, "`from`: the first color");
        PaletteBuilder y = sample();
        for (int color : new int[] {NONE, -2, MAX_COLOR + 1, MIN, MAX}) {
            refused("gradient(" + color + ",0,true)", y, BAD, b -> b.gradient(color, 0, true));
            refused("gradient(" + color + ",0,false)", y, BAD, b -> b.gradient(color, 0, false));
        }
        due("gradient(16777215,0,false)", y.gradient(MAX_COLOR, 0, false), 3);
        pixels("from white", y, WHITE, 0x808080, 0);
        sentence(4, "`to`: the last color");
        for (int color : new int[] {NONE, -2, MAX_COLOR + 1, MIN, MAX}) {
            refused("gradient(0," + color + ",true)", y, BAD, b -> b.gradient(0, color, true));
            refused("gradient(0," + color + ",false)", y, BAD, b -> b.gradient(0, color, false));
        }
        due("gradient(0,16777215,false)", y.gradient(0, MAX_COLOR, false), 3);
        pixels("to white", y, 0, 0x7F7F7F, WHITE);
        sentence(4, "Returns the number of pixels; BAD.");
        due("gradient(0,1,true) of one pixel", new PaletteBuilder().gradient(0, 1, true), 1);
        due("gradient(0,1,true) of 256", sized(16, 16).gradient(0, 1, true), 256);
    }

    private static void seedOfNoise() {
        sentence(5, "`seed`: the seed, 0 to 2147483647");
        PaletteBuilder x = sample();
        for (int seed : new int[] {-1, MIN, -MAX}) {
            refused("noise(" + seed + ",1)", x, BAD, b -> b.noise(seed, 1));
        }
        // From 0: x / 65536 is 0, 21468, 9988, 22117, 3498, 16927; modulo 129, minus 64: -64, -10, -9, -6, -49, -36.
        x = row(0x646464, 0x646464);
        due("noise(0,64)", x.noise(0, 64), 2);
        pixels("noise(0,64)", x, 0x245A5B, 0x5E3340);
        sentence(5, "x becomes (1103515245 * x + 12345) modulo 2^31");
        // From 2147483647: 15929, 4409, 9862, 26718, 8713, 28226, so -2, -41, -6, -49, 6, 40.
        x = row(0x646464, 0x646464);
        due("noise(2147483647,64)", x.noise(MAX, 64), 2);
        pixels("noise(2147483647,64)", x, 0x623B5E, 0x336A8C);
        // From 2147483646: 31859, 20118, 9736, so 61, 59, -3.
        x = row(0x646464);
        due("noise(2147483646,64)", x.noise(MAX - 1, 64), 1);
        pixels("noise(2147483646,64)", x, 0xA19F61);
    }

    private static void amountOfNoise() {
        sentence(5, "`amount`: the amount, 1 to 64");
        PaletteBuilder x = sample();
        for (int amount : new int[] {0, 65, -1, -64, MIN, MAX}) {
            refused("noise(0," + amount + ")", x, BAD, b -> b.noise(0, amount));
            refused("noise(-1," + amount + ")", x, BAD, b -> b.noise(-1, amount));
        }
        sentence(5, "the value of the channel is increased by (x / 65536) modulo (2 * amount + 1), minus amount, "
                + "where the division rounds down");
        // From 0, modulo 3, minus 1: -1, -1, 0, 0, -1, 0; from 1: 1, 0, -1.
        x = row(0x646464, 0x646464);
        due("noise(0,1)", x.noise(0, 1), 2);
        pixels("noise(0,1)", x, 0x636364, 0x646364);
        x = row(0x646464);
        due("noise(1,1)", x.noise(1, 1), 1);
        pixels("noise(1,1)", x, 0x656463);
        // From 69: 14963, 18863, 18664; modulo 129 they are 128, the greatest one, 29 and 88.
        x = row(0x646464);
        due("noise(69,64)", x.noise(69, 64), 1);
        pixels("noise(69,64)", x, 0xA4417C);
    }

    private static void limitsOfNoise() {
        sentence(5, "values below 0 become 0, and values above 255 become 255. This is a change.");
        // From 0 the steps are -64, -10, -9, -6, -49, -36.
        PaletteBuilder x = row(0x3F0A08, 0x003100);
        x.noise(0, 64);
        pixels("-1, 0, -1, -6, 0, -36", x, 0, 0);
        x = row(0x410B0A, 0x073225);
        x.noise(0, 64);
        pixels("all are 1", x, 0x010101, 0x010101);
        // From 1 the steps are 4, 18, -13, 36, 27, 16.
        x = row(0xFCEDFF, 0xFFE4F0);
        x.noise(1, 64);
        pixels("256, 255, 242, 291, 255, 256", x, 0xFFFFF2, 0xFFFFFF);
        x = row(0xFAEC0D, 0xDAE3EE);
        x.noise(1, 64);
        pixels("254, 254, 0, 254, 254, 254", x, 0xFEFE00, 0xFEFEFE);
        change("noise(3,64)", sample(), 2, 0, b -> b.noise(3, 64));
        sentence(5, "For each opaque pixel in row-major order, and each of its channels");
        x = sized(2, 2);
        x.gradient(0x646464, 0x646464, false);
        x.paint(1, 0, 1, 2, NONE);
        due("noise(0,64), transparent pixels take no number", x.noise(0, 64), 2);
        pixels("noise(0,64)", x, 0x245A5B, NONE, 0x5E3340, NONE);
        sentence(5, "Returns the number of opaque pixels; BAD.");
        due("noise(9,9) without opaque pixels", plain(16, 16, NONE).noise(9, 9), 0);
        due("noise(9,9) of 256", sized(16, 16).noise(9, 9), 256);
        PaletteBuilder none = plain(1, 1, NONE);
        change("noise(9,9) without opaque pixels", none, 0, 0, b -> b.noise(9, 9));
    }

    private static void pixelsOfAnImage() {
        sentence(6, "Returns the color; BAD; NONE if it is transparent.");
        PaletteBuilder x = sized(3, 2);
        x.paint(0, 0, 1, 1, 0);
        x.paint(2, 0, 1, 1, MAX_COLOR);
        x.paint(0, 1, 1, 1, NONE);
        x.paint(2, 1, 1, 1, 4);
        due("pixel(0,0)", x.pixel(0, 0), 0);
        due("pixel(2,0)", x.pixel(2, 0), MAX_COLOR);
        due("pixel(0,1)", x.pixel(0, 1), NONE);
        due("pixel(2,1)", x.pixel(2, 1), 4);
        int[][] none = {{3, 0}, {3, 1}, {0, 2}, {2, 2}, {-1, 0}, {-1, 1}, {0, -1}, {2, -1}, {MIN, 0}, {MAX, 0}, {0, MIN},
            {0, MAX}, {16, 16}, {-1, 2}, {3, -1}};
        for (int[] at : none) {
            refused("pixel(" + at[0] + "," + at[1] + ")", x, BAD, b -> b.pixel(at[0], at[1]));
        }
        x = allBlues();
        due("pixel(15,15)", x.pixel(15, 15), 255);
        due("pixel(15,0)", x.pixel(15, 0), 15);
        due("pixel(0,15)", x.pixel(0, 15), 240);
        refused("pixel(16,15)", x, BAD, b -> b.pixel(16, 15));
        refused("pixel(15,16)", x, BAD, b -> b.pixel(15, 16));
    }

    private static void numberOfColors() {
        sentence(7, "Returns the number of different colors of opaque pixels.");
        PaletteBuilder x = allBlues();
        due("colors(), all are different", x.colors(), 256);
        x.paint(0, 0, 1, 1, NONE);
        due("colors(), one is transparent", x.colors(), 255);
        x.paint(0, 0, 1, 1, 255);
        due("colors(), the first and the last one are equal", x.colors(), 255);
        x.paint(0, 0, 16, 16, 3);
        due("colors(), all are equal", x.colors(), 1);
        x.paint(0, 0, 16, 16, NONE);
        due("colors(), no opaque pixels", x.colors(), 0);
        due("colors() of a new object", new PaletteBuilder().colors(), 1);
        due("colors(), black and white", row(0, MAX_COLOR, 0).colors(), 2);
    }

    private static void colorsInOrder() {
        sentence(8, "Returns one of the colors of opaque pixels, ordered by descending numbers of pixels, "
                + "and those with equal numbers by ascending colors.");
        PaletteBuilder x = row(MAX_COLOR, 9, 9, 0, MAX_COLOR, 5, NONE, NONE, NONE);
        int[][] due = {{9, 2}, {MAX_COLOR, 2}, {0, 1}, {5, 1}};
        for (int k = 0; k < due.length; k++) {
            due("color(" + k + ",0)", x.color(k, 0), due[k][0]);
            due("color(" + k + ",1)", x.color(k, 1), due[k][1]);
        }
        x = allBlues();
        for (int k = 0; k < 256; k += 3) {
            due("color(" + k + ",0) of 256", x.color(k, 0), k);
            due("color(" + k + ",1) of 256", x.color(k, 1), 1);
        }
        x = plain(16, 16, MAX_COLOR);
        due("color(0,0) of one", x.color(0, 0), MAX_COLOR);
        due("color(0,1) of one", x.color(0, 1), 256);
        x.paint(0, 0, 1, 1, 0);
        due("color(0,1) of 255 and 1", x.color(0, 1), 255);
        due("color(1,0) of 255 and 1", x.color(1, 0), 0);
    }

    private static void colorsThatAreNotThere() {
        sentence(8, "Returns the color or number; BAD if k is negative or what is out of range; NONE if there are not so many colors.");
        PaletteBuilder x = row(5, 6, 5);
        for (int k : new int[] {-1, -2, MIN}) {
            refused("color(" + k + ",0)", x, BAD, b -> b.color(k, 0));
            refused("color(" + k + ",1)", x, BAD, b -> b.color(k, 1));
        }
        for (int what : new int[] {-1, 2, MIN, MAX}) {
            refused("color(0," + what + ")", x, BAD, b -> b.color(0, what));
            refused("color(2," + what + ")", x, BAD, b -> b.color(2, what));
            refused("color(-1," + what + ")", x, BAD, b -> b.color(-1, what));
        }
        for (int k : new int[] {2, 3, 255, 256, 257, MAX}) {
            due("color(" + k + ",0)", x.color(k, 0), NONE);
            due("color(" + k + ",1)", x.color(k, 1), NONE);
        }
        due("color(1,0), the last one", x.color(1, 0), 6);
        due("color(256,0) of 256", allBlues().color(256, 0), NONE);
        x = plain(2, 2, NONE);
        due("color(0,0) of none", x.color(0, 0), NONE);
        due("color(0,1) of none", x.color(0, 1), NONE);
    }

    public static void main(String[] args) {
        widthOfAnImage();
        heightOfAnImage();
        newPixels();
        placeOfPaint();
        sizeOfPaint();
        colorOfPaint();
        stepsOfAGradient();
        wholeGradient();
        seedOfNoise();
        amountOfNoise();
        limitsOfNoise();
        pixelsOfAnImage();
        numberOfColors();
        colorsInOrder();
        colorsThatAreNotThere();
        end();
    }
}
