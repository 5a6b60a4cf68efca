/** Promise 12. */
public final class WordTest {
    public static void main(String[] args) {
        tellsEveryWord();
        tellsAnyInt();
        aResetChangesWordsSixAndSeven();
        changesNothing();
        refusesOthers();
        Due.finish();
    }

    /** Every WORD of NODE 2 becomes 10 + its number. */
    private static SerialBus written() {
        SerialBus bus = Stories.three();
        for (int word = 0; word < 8; word++) {
            bus.ask(0, 2, Stories.WRITE, word, 0, 10 + word);
            bus.tick(3);
        }
        return bus;
    }

    private static void tellsEveryWord() {
        SerialBus bus = written();
        for (int word = 0; word < 8; word++) {
            Due.is("word(2, " + word + ")", bus.word(2, word), 10 + word);
        }
        Due.is("word of another node", bus.word(1, 3), 0);
        Due.is("word 6 of another node", bus.word(1, 6), 100);
    }

    /** "WORDS 0 .. 7, ints", of the first NODE and of the last. */
    private static void tellsAnyInt() {
        int[] anyInts = {Integer.MIN_VALUE, -1, 0, Integer.MAX_VALUE};
        for (int any : anyInts) {
            for (int word = 0; word < 8; word++) {
                SerialBus bus = new SerialBus();
                bus.tick(1);
                bus.ask(0, 0, Stories.WRITE, word, 0, any);
                bus.ask(11, 11, Stories.WRITE, word, 0, any);
                bus.tick(1);
                Due.is("word(0, " + word + ")", bus.word(0, word), any);
                Due.is("word(11, " + word + ")", bus.word(11, word), any);
            }
        }
    }

    /** "WORDS 6 and 7 are 100 and -1" after a RESET; the others stay. */
    private static void aResetChangesWordsSixAndSeven() {
        SerialBus bus = written();
        bus.reset(0, 0, false, false);
        Due.is("not before the tick", bus.word(2, 6), 16);
        bus.tick(1);
        for (int word = 0; word < 6; word++) {
            Due.is("word(2, " + word + ") after reset", bus.word(2, word), 10 + word);
        }
        Due.is("word 6", bus.word(2, 6), 100);
        Due.is("word 7", bus.word(2, 7), -1);
    }

    private static void changesNothing() {
        Due.tellsAndChangesNothing("word", Stories::mixed, bus -> {
            for (int word = 0; word < 8; word++) {
                bus.word(0, word);
                bus.word(4, word);
            }
        });
    }

    /** "IllegalArgumentException: another w." */
    private static void refusesOthers() {
        for (int no : Due.outside(0, 7)) {
            nothing("word " + no, 1, no);
            nothing("word " + no + " of the first node", 0, no);
            nothing("word " + no + " of the last node", 11, no);
        }
    }

    private static void nothing(String what, int a, int w) {
        Due.failsAndChangesNothing(what, Due.ARGUMENT, Stories::mixed, bus -> bus.word(a, w));
    }
}
