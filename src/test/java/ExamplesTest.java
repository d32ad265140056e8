/** The three examples of the document's description, call by call. */
public final class ExamplesTest {
    private static int wrong = 0;

    private static void due(String call, long got, long want) {
        if (got != want) {
            wrong++;
            System.out.println(call + " answered " + got + ", due is " + want);
        }
    }

    private static void medianCut() {
        PaletteBuilder x = new PaletteBuilder();
        due("1: image(3,1)", x.image(3, 1), 3);
        due("1: paint(0,0,1,1,10)", x.paint(0, 0, 1, 1, 10), 1);
        due("1: paint(1,0,2,1,20)", x.paint(1, 0, 2, 1, 20), 2);
        due("1: colors()", x.colors(), 2);
        due("1: build(1,0)", x.build(1, 0), 1);
        due("1: entry(0,0)", x.entry(0, 0), 17);
        due("1: bestError()", x.bestError(), 67);
        due("1: gain(10)", x.gain(10), 49);
        due("1: bestAddition()", x.bestAddition(), 10);
        due("1: build(2,0)", x.build(2, 0), 2);
        due("1: bestError()", x.bestError(), 0);
        due("1: loss(0)", x.loss(0), 100);
        due("1: cheapest()", x.cheapest(), 0);
        due("1: undo()", x.undo(), 4);
    }

    private static void errorDiffusion() {
        PaletteBuilder x = new PaletteBuilder();
        due("2: image(4,1)", x.image(4, 1), 4);
        due("2: gradient(0,16777215,false)", x.gradient(0, 16777215, false), 4);
        due("2: add(0,true)", x.add(0, true), 0);
        due("2: add(16777215,false)", x.add(16777215, false), 1);
        due("2: map(2,0)", x.map(2, 0), 2);
        due("2: index(1,0)", x.index(1, 0), 0);
        due("2: index(2,0)", x.index(2, 0), 1);
        due("2: error()", x.error(), 43350);
        due("2: remove(0)", x.remove(0), -3);
        due("2: swap(0,1)", x.swap(0, 1), 0);
        due("2: error()", x.error(), 43350);
        due("2: packed(0)", x.packed(0), 192);
    }

    private static void paletteFromText() {
        PaletteBuilder x = new PaletteBuilder();
        int[] letters = {35, 102, 48, 48, 33, 32, 35, 48, 56};
        for (int i = 0; i < letters.length; i++) {
            due("3: type(" + letters[i] + ")", x.type(letters[i]), i + 1);
        }
        due("3: fault()", x.fault(), 9);
        due("3: load()", x.load(), -3);
        due("3: type(102)", x.type(102), 10);
        due("3: load()", x.load(), 2);
        due("3: entry(1,0)", x.entry(1, 0), 35071);
    }

    public static void main(String[] args) {
        medianCut();
        errorDiffusion();
        paletteFromText();
        System.out.println(wrong == 0 ? "all answers are as due" : wrong + " answers are not as due");
        if (wrong != 0) {
            System.exit(1);
        }
    }
}
