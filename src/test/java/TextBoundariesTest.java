/** The boundary cases of promises 16 to 19, sentence by sentence. */
public final class TextBoundariesTest extends Boundaries {

    private static void bytes() {
        sentence(16, "`letter`: the byte, 0 to 127");
        PaletteBuilder x = new PaletteBuilder();
        for (int letter : new int[] {-1, 128, 255, 256, MIN, MAX}) {
            refused("type(" + letter + ")", x, BAD, b -> b.type(letter));
        }
        due("type(0)", x.type(0), 1);
        due("type(127)", x.type(127), 2);
        long h = 77;
        for (int v : new int[] {1, 1, 1, 0, 0, 0, 0, 0, 0, 2, 0, 0, 127}) {
            h = 31 * h + v;
        }
        due("digest(), the bytes as they are", x.digest(), h);
        sentence(16, "Appends a byte to the text.");
        PaletteBuilder y = typed(new PaletteBuilder(), "#ab");
        due("load() of 2 digits", y.load(), STATE);
        due("type('c')", y.type('c'), 4);
        due("load() of 3 digits", y.load(), 1);
        palette("load()", y, 0xAABBCC);
        due("count(8), typing is no change", typed(new PaletteBuilder(), "#abc").count(8), 0);
    }

    private static void fullText() {
        sentence(16, "Returns the length of the text; BAD; FULL if the text has 140 bytes.");
        PaletteBuilder x = new PaletteBuilder();
        for (int i = 1; i <= 140; i++) {
            due("type, byte " + i, x.type(i == 140 ? '#' : ' '), i);
        }
        refused("type(32), byte 141", x, FULL, b -> b.type(32));
        refused("type(0), byte 141", x, FULL, b -> b.type(0));
        refused("type(-1), byte 141", x, BAD, b -> b.type(-1));
        refused("type(128), byte 141", x, BAD, b -> b.type(128));
        due("fault(), the last byte is \"#\"", x.fault(), 140);
        due("clearText()", x.clearText(), 140);
        due("type(65), there is room again", x.type(65), 1);
        PaletteBuilder y = typed(new PaletteBuilder(), " ".repeat(140));
        due("load()", y.load(), 0);
        due("type(65), there is room again", y.type(65), 1);
    }

    private static void emptiedText() {
        sentence(17, "Empties the text.");
        PaletteBuilder x = typed(new PaletteBuilder(), "#x");
        due("fault()", x.fault(), 1);
        due("clearText()", x.clearText(), 2);
        due("count(9)", x.count(9), 0);
        due("fault(), empty", x.fault(), NONE);
        due("digest()", x.digest(), new PaletteBuilder().digest());
        due("type('#')", x.type('#'), 1);
        due("fault(), nothing is left of what stood there", x.fault(), 1);
        sentence(17, "Returns the length that it had.");
        due("clearText() of one byte", x.clearText(), 1);
        due("clearText() of none", x.clearText(), 0);
        due("clearText() of a new object", new PaletteBuilder().clearText(), 0);
        due("clearText() of 140 bytes", typed(new PaletteBuilder(), "a".repeat(140)).clearText(), 140);
        due("count(8), it is no change", x.count(8), 0);
    }

    /** The fault of a text; with a fault the text can't be loaded, without one it can. */
    private static void fault(String text, int want) {
        PaletteBuilder x = typed(new PaletteBuilder(), text);
        String name = " of '" + text + "'";
        long before = x.digest();
        due("fault()" + name, x.fault(), want);
        due("digest() after fault()" + name, x.digest(), before);
        if (want == NONE) {
            due("load() is no error" + name, x.load() >= 0 ? 1 : 0, 1);
        } else {
            refused("load()" + name, x, STATE, PaletteBuilder::load);
        }
    }

    private static void loads(String text, int... colors) {
        PaletteBuilder x = typed(new PaletteBuilder(), text);
        due("fault() of '" + text + "'", x.fault(), NONE);
        due("load() of '" + text + "'", x.load(), colors.length);
        palette("'" + text + "'", x, colors);
    }

    private static void numberOfEntries() {
        sentence(18, "A palette is written as a sequence of 0 to 16 entries.");
        loads("");
        loads("#000", 0);
        loads("#000#fff", 0, WHITE);
        int[] whites = new int[16];
        java.util.Arrays.fill(whites, WHITE);
        loads("#fff".repeat(16), whites);
        loads("#fff!".repeat(16), whites);
        loads("#ffffff ".repeat(16), whites);
        sentence(18, "(also that of the \"#\" of a 17th entry)");
        fault("#fff".repeat(17), 64);
        fault("#fff!".repeat(17), 80);
        fault("#fff".repeat(16) + " ,#fff", 66);
        fault("#fff".repeat(16) + "#", 64);
        fault("#fff".repeat(16) + "#xyz", 64);
        fault("#fff".repeat(16) + "x", 64);
        fault("#ffffff!".repeat(16) + "           #", 139);
        fault("#fff".repeat(16) + "!", NONE);
        fault("#fff".repeat(16) + "!!", 65);
        fault("#fff".repeat(15) + "#ff", 63);
        fault("#fff".repeat(15) + "#", 61);
        // An earlier fault comes first.
        fault("#ff".repeat(17), 3);
        fault("#fff".repeat(15) + "x" + "#fff".repeat(2), 60);
    }

    private static void hexadecimalDigits() {
        sentence(18, "An entry is \"#\", then 6 or 3 hexadecimal digits (0 to 9, a to f, A to F), and then \"!\" if it is locked.");
        loads("#09a#fAF", 0x0099AA, 0xFFAAFF);
        loads("#09afAF#9f0A0F", 0x09AFAF, 0x9F0A0F);
        // The bytes beside the digits: '/' and ':', '@' and 'G', '`' and 'g'.
        for (char other : "/:@G`g".toCharArray()) {
            for (int digits = 0; digits <= 6; digits++) {
                fault("#" + "1".repeat(digits) + other + "11", digits + 1);
            }
        }
        fault("123", 0);
        fault("!", 0);
        fault("!#123", 0);
        fault("#123!", NONE);
        fault("#123456!", NONE);
        fault("#123!!", 5);
        fault("#123456!!", 8);
        fault("#!", 1);
        fault("#!123", 1);
        fault("#1!23", 2);
        fault("##123", 1);
        PaletteBuilder x = typed(new PaletteBuilder(), "#123!#456#abcdef!#fedcba");
        due("load()", x.load(), 4);
        locks("load()", x, 1, 0, 1, 0);
    }

    private static void valuesOfDigits() {
        sentence(18, "6 digits are two for each channel; 3 digits are one for each channel, whose value is 17 times the digit.");
        loads("#000000#ffffff#000#fff#FFFFFF#FFF", 0, WHITE, 0, WHITE, WHITE, WHITE);
        loads("#010203#f00#0f0#00f#123", 0x010203, 0xFF0000, 0x00FF00, 0x0000FF, 0x112233);
        for (int digit = 0; digit < 16; digit++) {
            String lower = Integer.toHexString(digit);
            loads("#" + lower + "00#" + lower.toUpperCase() + lower + lower, 65536 * 17 * digit, 65793 * 17 * digit);
            loads("#" + lower + "00000#0000" + lower + "0", 1048576 * digit, 16 * digit);
        }
    }

    private static void greediness() {
        sentence(18, "As many digits as possible are taken, but at most 6.");
        loads("#123456", 0x123456);
        fault("#1234567", 7);
        fault("#12345678", 7);
        fault("#123456123456", 7);
        fault("#123123", NONE);
        loads("#123123", 0x123123);
        fault("#1231", 5);
        fault("#12312", 6);
        loads("#123,#123", 0x112233, 0x112233);
    }

    private static void blanksAndCommas() {
        sentence(18, "Blanks (byte 32) and commas can stand before and after entries, but not within them, and are not needed between them.");
        loads(" #123", 0x112233);
        loads(",#123", 0x112233);
        loads("#123 ", 0x112233);
        loads("#123,", 0x112233);
        loads(" ,, ,#123!, ,#456 ,", 0x112233, 0x445566);
        loads("#123!#456789#abc", 0x112233, 0x456789, 0xAABBCC);
        loads(" ");
        loads(",");
        loads(" ".repeat(140));
        loads(",".repeat(140));
        loads(" ".repeat(136) + "#123", 0x112233);
        for (String mark : new String[] {" ", ","}) {
            fault("#" + mark + "123", 1);
            fault("#1" + mark + "23", 2);
            fault("#12" + mark + "3", 3);
            fault("#123" + mark + "456", 5);
            fault("#1234" + mark + "56", 5);
            fault("#12345" + mark + "6", 6);
            fault("#123" + mark + "!", 5);
            fault("#123456" + mark + "!", 8);
        }
        for (int other : new int[] {0, 9, 10, 13, 31, 33, 34, 36, 43, 45, 46, 59, 127}) {
            fault("" + (char) other, 0);
            fault("#123 " + (char) other, 5);
        }
    }

    private static void firstFault() {
        sentence(18, "The fault is the index, from 0, of the first byte that cannot stand at its place");
        fault("x", 0);
        fault("x#", 0);
        fault(" x", 1);
        fault("#123x", 4);
        fault("#123xx#", 4);
        fault(" ".repeat(139) + "x", 139);
        fault("#ffffff".repeat(16) + " ".repeat(27) + "x", 139);
        fault("#x", 1);
        sentence(18, "for an entry with 1, 2, 4 or 5 digits it is the index after its last digit");
        for (int digits : new int[] {1, 2, 4, 5}) {
            String entry = "#" + "a".repeat(digits);
            fault(entry, digits + 1);
            fault("#000 " + entry, digits + 6);
            for (String next : new String[] {"!", " ", ",", "#", "#123", "x", " x", "!!"}) {
                fault(entry + next, digits + 1);
            }
            fault(" ".repeat(139 - digits) + entry, 140);
        }
        for (int digits : new int[] {3, 6}) {
            fault(" ".repeat(139 - digits) + "#" + "a".repeat(digits), NONE);
        }
        sentence(18, "it is the length of the text if the text ends directly after \"#\".");
        fault("#", 1);
        fault(" #", 2);
        fault("#123#", 5);
        fault("#123456!,#", 10);
        fault(" ".repeat(139) + "#", 140);
        sentence(18, "Returns the index; NONE if there is no fault.");
        due("fault() of a new object", new PaletteBuilder().fault(), NONE);
        fault("#123", NONE);
        fault("#1234", 5);
    }

    private static void loadedPalette() {
        sentence(19, "Replaces the palette by that of the text, and empties the text. This is a change.");
        PaletteBuilder x = typed(locked(sample(), 0, 1), "#123!,#0a0b0c");
        due("load(), locked entries go, too", x.load(), 2);
        palette("load()", x, 0x112233, 0x0A0B0C);
        locks("load()", x, 1, 0);
        due("count(9)", x.count(9), 0);
        due("count(7)", x.count(7), 0);
        due("undo()", x.undo(), 9);
        palette("undo()", x, 0, 255);
        locks("undo()", x, 1, 1);
        due("count(7) after undo()", x.count(7), 1);
        due("count(9), the text does not come back", x.count(9), 0);
        due("load() of the emptied text", x.load(), 0);
        due("count(4)", x.count(4), 0);
        change("load() of an empty text", new PaletteBuilder(), 0, 0, PaletteBuilder::load);
        change("load() of an empty text", sample(), 0, 0, PaletteBuilder::load);
        x = typed(filled(new PaletteBuilder(), 16, 1), "#abc");
        due("load() of one for 16", x.load(), 1);
        palette("load()", x, 0xAABBCC);
        x = typed(with(new PaletteBuilder(), 1), "#abcdef!".repeat(16));
        due("load() of 16 for one", x.load(), 16);
        due("count(5)", x.count(5), 16);
        due("entry(15,0)", x.entry(15, 0), 0xABCDEF);
        sentence(19, "Returns the number of entries; STATE if the text has a fault (the text stays then).");
        PaletteBuilder y = typed(sample(), "#12");
        refused("load(), a fault", y, STATE, PaletteBuilder::load);
        due("count(9)", y.count(9), 3);
        due("type('3')", y.type('3'), 4);
        due("load()", y.load(), 1);
        palette("load()", y, 0x112233);
        refused("load() of 17", typed(sample(), "#123".repeat(17)), STATE, PaletteBuilder::load);
        refused("load(), a fault at the end", typed(sample(), "#123#456x"), STATE, PaletteBuilder::load);
    }

    public static void main(String[] args) {
        bytes();
        fullText();
        emptiedText();
        numberOfEntries();
        hexadecimalDigits();
        valuesOfDigits();
        greediness();
        blanksAndCommas();
        firstFault();
        loadedPalette();
        end();
    }
}
