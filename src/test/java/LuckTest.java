/** Promises 11 to 15: at, luck, days, led, without. */
public final class LuckTest {
    private static final Due due = new Due("LuckTest");

    public static void main(String[] args) {
        at();
        atBad();
        knowing();
        noLuckOtherwise();
        luck();
        days();
        led();
        without();
        due.end();
    }

    private static void at() {
        LuckyStolen x = Due.with("0r1f");
        x.lasts(4);
        x.event(0, 10, 0, 3, 0);
        x.event(0, 10, 1, 3, 0);
        x.event(3, 20, 0, 3, 0);
        x.event(0, 199, 1, 4, 0);
        due.is("at(0, 9, 0)", x.at(0, 9, 0), 0);
        due.is("at(0, 9, 1)", x.at(0, 9, 1), 0);
        due.is("at(0, 10, 0)", x.at(0, 10, 0), 3);
        for (int night = 10; night <= 15; night++) {
            due.is("at(0, " + night + ", 1)", x.at(0, night, 1), night < 14 ? 1 : 0);
            due.is("at(0, " + night + ", 2)", x.at(0, night, 2), Math.max(0, 14 - night));
            due.is("at(1, " + night + ", 1) forged", x.at(1, night, 1), 0);
            due.is("at(1, " + night + ", 2) forged", x.at(1, night, 2), 0);
        }
        due.is("at(0, 19, 0)", x.at(0, 19, 0), 3);
        due.is("at(0, 20, 0) in the field", x.at(0, 20, 0), -1);
        due.is("at(0, 20, 1)", x.at(0, 20, 1), 0);
        due.is("at(0, 20, 2)", x.at(0, 20, 2), 0);
        due.is("at(1, 299, 0)", x.at(1, 299, 0), 4);
    }

    private static void atBad() {
        LuckyStolen x = Due.with("0r1f");
        due.is("at(-1, 0, 0)", x.at(-1, 0, 0), -2);
        due.is("at(2, 0, 0)", x.at(2, 0, 0), -2);
        due.is("at(0, -1, 0)", x.at(0, -1, 0), -2);
        due.is("at(0, 300, 0)", x.at(0, 300, 0), -2);
        due.is("at(0, 0, -1)", x.at(0, 0, -1), -2);
        due.is("at(0, 0, 3)", x.at(0, 0, 3), -2);
        due.is("at(1, 299, 2)", x.at(1, 299, 2), 0);
    }

    private static void knowing() {
        for (int knowing = 0; knowing <= 9; knowing++) {
            LuckyStolen x = Due.with("0r");
            x.event(0, 1, 0, 2, knowing);
            boolean isTrue = knowing == 0 || knowing % 2 == 1;
            due.is("knowing " + knowing + ": lucky", x.at(0, 1, 1), isTrue ? 1 : 0);
            due.is("knowing " + knowing + ": who", x.at(0, 1, 0), 2);
            due.is("knowing " + knowing + ": count(4)", x.count(4), isTrue ? 1 : 0);
        }
    }

    private static void noLuckOtherwise() {
        for (int kind = 1; kind <= 2; kind++) {
            LuckyStolen x = Due.with("0r");
            x.event(0, 1, 0, 1, 0);
            x.event(kind, 2, 0, 2, 0);
            due.is("kind " + kind + ": who", x.at(0, 2, 0), 2);
            due.is("kind " + kind + ": lucky", x.at(0, 2, 1), 0);
            x.event(kind, 3, 0, 1, 0);
            due.is("kind " + kind + ": back with the thief", x.at(0, 3, 1), 0);
            x.event(0, 3, 0, 0, 0);
            due.is("kind " + kind + ": stolen anew", x.at(0, 3, 1), 1);
        }
        LuckyStolen sameNight = Due.with("0r");
        sameNight.event(0, 0, 0, 1, 0);
        sameNight.event(1, 0, 0, 2, 0);
        due.is("stolen and given in night 0", sameNight.at(0, 0, 1), 0);
        LuckyStolen x = Due.with("0r");
        x.event(0, 1, 0, 1, 0);
        x.event(3, 2, 0, 1, 0);
        x.event(4, 2, 0, 1, 0);
        due.is("left and found: who", x.at(0, 2, 0), 1);
        due.is("left and found: lucky", x.at(0, 2, 1), 0);
        x.event(0, 3, 0, 2, 0);
        x.event(5, 4, 0, 1, 0);
        due.is("thanks to another house do nothing", x.at(0, 4, 1), 1);
        x.event(0, 5, 0, 2, 0);
        due.is("its own thief again does nothing", x.at(0, 5, 2), 28);
        x.event(5, 6, 0, 2, 0);
        due.is("thanked", x.at(0, 6, 1), 0);
        due.is("before the thanks", x.at(0, 5, 1), 1);
        x.event(0, 7, 0, 3, 0);
        due.is("stolen behind thanks", x.at(0, 7, 2), 30);
    }

    private static void luck() {
        LuckyStolen x = Due.with("0r0r0r0r0r0r0r0r0r");
        for (int s = 0; s < 9; s++) {
            x.event(0, s, s, 5, 0);
        }
        for (int night = 0; night < 9; night++) {
            due.is("luck(5, " + night + ", 0)", x.luck(5, night, 0), night + 1);
            due.is("luck(5, " + night + ", 1)", x.luck(5, night, 1), 2 * night + 3);
            due.is("luck(0, " + night + ", 0)", x.luck(0, night, 0), 0);
        }
        due.is("luck(5, 299, 1)", x.luck(5, 299, 1), 1);
        due.is("luck(-1, 0, 0)", x.luck(-1, 0, 0), -2);
        due.is("luck(8, 0, 0)", x.luck(8, 0, 0), -2);
        due.is("luck(0, -1, 0)", x.luck(0, -1, 0), -2);
        due.is("luck(0, 300, 0)", x.luck(0, 300, 0), -2);
        due.is("luck(0, 0, 2)", x.luck(0, 0, 2), -2);
        due.is("luck(0, 0, -1)", x.luck(0, 0, -1), -2);
    }

    private static void days() {
        LuckyStolen x = Due.with("0r1r2r");
        x.lasts(10);
        x.event(0, 5, 0, 7, 0);
        x.event(0, 8, 1, 7, 0);
        x.event(0, 9, 2, 6, 0);
        due.is("days(7, 0, 299): nights, not stones", x.days(7, 0, 299), 13);
        due.is("days(7, 5, 5)", x.days(7, 5, 5), 1);
        due.is("days(7, 0, 4)", x.days(7, 0, 4), 0);
        due.is("days(7, 17, 20)", x.days(7, 17, 20), 1);
        due.is("days(6, 0, 299)", x.days(6, 0, 299), 10);
        due.is("days(-1, 0, 299)", x.days(-1, 0, 299), 23);
        due.is("days(-1, 9, 9)", x.days(-1, 9, 9), 2);
        x.event(0, 12, 0, 6, 0);
        due.is("days(7, 0, 299) robbed of one", x.days(7, 0, 299), 13);
        due.is("days(6, 0, 299) with two", x.days(6, 0, 299), 13);
        x.event(0, 13, 2, 0, 0);
        due.is("days(-1, 13, 13) with house 0", x.days(-1, 13, 13), 3);
        due.is("days(-2, 0, 0)", x.days(-2, 0, 0), -2);
        due.is("days(8, 0, 0)", x.days(8, 0, 0), -2);
        due.is("days(0, -1, 0)", x.days(0, -1, 0), -2);
        due.is("days(0, 0, 300)", x.days(0, 0, 300), -2);
        due.is("days(0, 300, 300)", x.days(0, 300, 300), -2);
        due.is("days(0, 5, 4)", x.days(0, 5, 4), -2);
        due.is("days(0, 299, 299)", x.days(0, 299, 299), 0);
    }

    private static void led() {
        LuckyStolen x = Due.with("0r1r2f3r");
        x.event(0, 1, 3, 7, 0);
        x.event(0, 2, 2, 7, 0);
        x.event(0, 3, 0, 7, 1);
        x.event(1, 4, 1, 7, 0);
        due.is("led(7, 0, 0)", x.led(7, 0, 0), -1);
        due.is("led(7, 1, 0)", x.led(7, 1, 0), 0);
        due.is("led(7, 4, 0): stone 0", x.led(7, 4, 0), 2);
        due.is("led(7, 4, 1): stone 3", x.led(7, 4, 1), 0);
        due.is("led(7, 4, 2)", x.led(7, 4, 2), -1);
        due.is("led(7, 4, much)", x.led(7, 4, Integer.MAX_VALUE), -1);
        due.is("led(7, 32, 0): stone 3 is dead", x.led(7, 32, 0), 2);
        due.is("led(7, 31, 1)", x.led(7, 31, 1), -1);
        due.is("led(7, 33, 0)", x.led(7, 33, 0), -1);
        due.is("led(0, 4, 0)", x.led(0, 4, 0), -1);
        due.is("led(0, 0, -1)", x.led(0, 0, -1), -2);
        due.is("led(-1, 0, 0)", x.led(-1, 0, 0), -2);
        due.is("led(8, 0, 0)", x.led(8, 0, 0), -2);
        due.is("led(0, -1, 0)", x.led(0, -1, 0), -2);
        due.is("led(0, 300, 0)", x.led(0, 300, 0), -2);
    }

    private static void without() {
        LuckyStolen x = Due.with("0r");
        x.lasts(10);
        x.event(0, 5, 0, 1, 0);
        x.event(3, 8, 0, 1, 0);
        x.event(4, 9, 0, 2, 0);
        x.event(0, 9, 0, 3, 0);
        due.is("days(-1, 0, 299)", x.days(-1, 0, 299), 13);
        due.is("without(0, 299)", x.without(0, 299), -3);
        due.is("without(0, 6)", x.without(0, 6), -2);
        due.is("without(0, 4)", x.without(0, 4), 0);
        due.is("without(1, 299): the find is then against the law", x.without(1, 299), 1);
        due.is("without(2, 299): the last theft is then too", x.without(2, 299), -10);
        due.is("without(3, 299)", x.without(3, 299), -10);
        LuckyStolen y = Due.with("0r1r");
        y.event(0, 0, 0, 7, 0);
        y.event(0, 0, 1, 0, 0);
        due.is("without(0, 0)", y.without(0, 0), -1);
        due.is("without(1, 0)", y.without(1, 0), -1);
        due.is("without(-1, 0)", x.without(-1, 0), -10002);
        due.is("without(4, 0)", x.without(4, 0), -10002);
        due.is("without(0, -1)", x.without(0, -1), -10002);
        due.is("without(0, 300)", x.without(0, 300), -10002);
        due.is("count(2): nothing is undone", x.count(2), 4);
        due.is("days(-1, 0, 299) again", x.days(-1, 0, 299), 13);
    }
}
