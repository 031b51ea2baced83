/** A test for each sentence of "Input text", "Undo" and promises 9 to 13 that names a boundary. RefusedTest has the refused calls. */
public final class TextsEdgeTest extends Checks {
    private static final String DIGITS = "0123456789";

    public static void main(String[] args) {
        codesFrom33To126();
        at60CharactersFull();
        appendReturnsTheNewLength();
        clearReturnsTheLengthItHad();
        whatMayStandAtEachPlace();
        firstOfSeveralErrors();
        lengthIfThereIsNoError();
        textsOfAnyLength();
        unloadedTonnesFrom1To500();
        hoursFrom1To24();
        daysFrom1To30();
        noLeadingZeros();
        oneOrMoreParts();
        playNeedsACompleteText();
        playClearsTheBuffer();
        playOf60Characters();
        playPartByPart();
        playReturnsTonnesIntoSilosAndShips();
        playsWhatBringsNothing();
        playIsOneCall();
        playOfEachSiloAndShip();
        playCountsAsTheCallsDo();
        undoRestoresTheLatest();
        sixStatesAtMost();
        seventhDropsTheOldest();
        undoLeavesTheBuffer();
        undoRestoresAll();
        undoRestoresWhatIsCounted();
        undoIsNotUndoable();
        callsBehindAnUndo();
        undoOfNothing();
        whatIsNotUndoable();
        end("TextsEdgeTest");
    }

    private static void codesFrom33To126() {
        sentence("promise 9: code: the character code, 33 to 126");
        for (int code = 33; code <= 126; code++) {
            int c = code;
            SiloPads x = new SiloPads();
            due("code " + code, x.append(code), 1);
            due("kept as it is", x.digest(), hashOf(x, "" + (char) c));
        }
        for (int code = -300; code <= 66000; code++) {
            int c = code;
            if (code < 33 || code > 126) {
                SiloPads x = new SiloPads();
                dueText("code " + code, thrownBy(() -> x.append(c)), "IllegalArgumentException");
                due("nothing is appended", x.clearBuffer(), 0);
            }
        }
    }

    private static void at60CharactersFull() {
        sentence("promise 9: IllegalStateException if the buffer has 60 characters");
        for (int length = 58; length <= 60; length++) {
            String text = "+".repeat(length);
            if (length < 60) {
                due("one more", typed(text).append('~'), length + 1);
            } else {
                refused("a 61st", STATE, () -> typed(text), x -> x.append('~'));
                refused("a 61st of a wrong code", ARGUMENT, () -> typed(text), x -> x.append(127));
            }
            due("looked at", typed(text).firstError(), 1);
        }
        SiloPads x = typed("a".repeat(60));
        due("cleared", x.clearBuffer(), 60);
        due("a first again", x.append('+'), 1);
    }

    private static void appendReturnsTheNewLength() {
        sentence("promise 9: Returns the new length of the buffer");
        SiloPads x = new SiloPads();
        for (int length = 1; length <= 60; length++) {
            due("length", x.append(32 + length), length);
        }
        due("buffer", x.digest(), hashOf(x, "!\"#$%&'()*+,-./0123456789:;<=>?@ABCDEFGHIJKLMNOPQRSTUVWXYZ[\\"));
        due("length", x.clearBuffer(), 60);
    }

    private static void clearReturnsTheLengthItHad() {
        sentence("promise 10: Clears the buffer. Returns the length that it had");
        for (int length : new int[] {0, 1, 2, 59, 60}) {
            SiloPads x = typed("z".repeat(length));
            due("length", x.clearBuffer(), length);
            due("cleared", x.clearBuffer(), 0);
            due("as a new one", x.digest(), new SiloPads().digest());
        }
        SiloPads x = typed("xyz");
        x.clearBuffer();
        type(x, "+");
        due("nothing of the old text", x.digest(), hashOf(x, "+"));
        due("nor its error", x.firstError(), 1);
    }

    /** Behind this beginning just these characters are no errors. */
    private static void mayFollow(String beginning, String characters) {
        for (int code = 33; code <= 126; code++) {
            SiloPads x = typed(beginning);
            x.append(code);
            int want = characters.indexOf(code) >= 0 ? beginning.length() + 1 : beginning.length();
            due(beginning + (char) code, x.firstError(), want);
        }
    }

    private static void whatMayStandAtEachPlace() {
        sentence("a character is a syntax error if no loads as a text, of any length, begin with the characters before it and this character");
        for (String before : new String[] {"", "+1;", "0<0:1;", "3>5:24;+30;"}) {
            mayFollow(before, "0123+");
            mayFollow(before + "0", "<>");
            mayFollow(before + "3", "<>");
            mayFollow(before + "1<", "012345");
            mayFollow(before + "1>", "012345");
            mayFollow(before + "2<0", ":");
            mayFollow(before + "2>5", ":");
            mayFollow(before + "+", "123456789");
        }
        mayFollow("0<0:", "123456789");
        for (int digit = 1; digit <= 9; digit++) {
            mayFollow("0<0:" + digit, DIGITS + ";");
        }
        mayFollow("0<0:10", DIGITS + ";");
        mayFollow("0<0:49", DIGITS + ";");
        mayFollow("0<0:50", "0;");
        mayFollow("0<0:51", ";");
        mayFollow("0<0:60", ";");
        mayFollow("0<0:99", ";");
        mayFollow("0<0:100", ";");
        mayFollow("0<0:499", ";");
        mayFollow("0<0:500", ";");
        mayFollow("0>0:", "123456789");
        mayFollow("0>0:1", DIGITS + ";");
        mayFollow("0>0:2", "01234;");
        for (int digit = 3; digit <= 9; digit++) {
            mayFollow("0>0:" + digit, ";");
        }
        mayFollow("0>0:10", ";");
        mayFollow("0>0:23", ";");
        mayFollow("0>0:24", ";");
        mayFollow("+1", DIGITS + ";");
        mayFollow("+2", DIGITS + ";");
        mayFollow("+3", "0;");
        for (int digit = 4; digit <= 9; digit++) {
            mayFollow("+" + digit, ";");
        }
        mayFollow("+10", ";");
        mayFollow("+29", ";");
        mayFollow("+30", ";");
        mayFollow("0<0:500;+3", "0;");
        mayFollow("+30;0<0:50", "0;");
        mayFollow("0>0:24;0<0:24", DIGITS + ";");
        mayFollow("0<0:24;0>0:24", ";");
    }

    private static void firstOfSeveralErrors() {
        sentence("promise 11: Returns the index of the first character that is a syntax error");
        String[] texts = {"x", "xx", "+x;x", "+1;;+1;;", "0<0:501x", "0<6:501", "4<6:501", "+1;+31;+32", "0<0:1~~"};
        int[] errors = {0, 0, 1, 3, 6, 2, 0, 5, 5};
        for (int k = 0; k < texts.length; k++) {
            due(texts[k], typed(texts[k]).firstError(), errors[k]);
        }
        SiloPads x = typed("+1;;");
        due("looked at", x.firstError(), 3);
        type(x, "+1");
        due("a later one does not mend it", x.firstError(), 3);
    }

    private static void lengthIfThereIsNoError() {
        sentence("promise 11: the length of the buffer if there is none");
        String whole = "3>5:24;0<0:500;+30;1<2:34;2>1:9;+1";
        SiloPads x = new SiloPads();
        due("an empty buffer", x.firstError(), 0);
        for (int k = 0; k < whole.length(); k++) {
            x.append(whole.charAt(k));
            due("as far as " + (k + 1), x.firstError(), k + 1);
        }
        SiloPads full = typed("+1;".repeat(20));
        due("60 characters without an error", full.firstError(), 60);
        SiloPads last = typed("+1;".repeat(19) + "+1x");
        due("the 60th is one", last.firstError(), 59);
        SiloPads only = typed("!");
        due("the first is one", only.firstError(), 0);
    }

    private static void textsOfAnyLength() {
        sentence("no loads as a text, of any length");
        for (String begun : new String[] {"+", "0", "0<", "3>5", "3>5:", "+3", "0<5:50"}) {
            int left = 60 - begun.length();
            String text = "+10;".repeat(left % 3) + "+1;".repeat((left - 4 * (left % 3)) / 3) + begun;
            due("full", text.length(), 60);
            due("begun at the end: " + begun, typed(text).firstError(), 60);
        }
        SiloPads x = typed("+10;".repeat(14) + "0<5:");
        due("begun, and no place for its number", x.firstError(), 60);
        dueThrow(x, "but not complete", ARGUMENT, x::play);
        SiloPads y = typed("+10;".repeat(14) + "+10;");
        due("ended by a ;", y.firstError(), 60);
        dueThrow(y, "but not complete", ARGUMENT, y::play);
    }

    private static void numbersAre(String before, int least, int most) {
        for (int number = 0; number <= 1200; number++) {
            String text = before + number;
            SiloPads x = typed(text);
            boolean good = number >= least && number <= most;
            due(text + " has an error", x.firstError() < text.length() ? 1 : 0, good ? 0 : 1);
            dueText("play of " + text, thrownBy(x::play), good ? "nothing" : "IllegalArgumentException");
            due("the buffer stays only if refused", x.clearBuffer(), good ? 0 : text.length());
            due("saved only if not", x.count(14), good ? 1 : 0);
        }
    }

    private static void unloadedTonnesFrom1To500() {
        sentence("and tonnes, 1 to 500 (that come)");
        numbersAre("0<0:", 1, 500);
        numbersAre("3<5:", 1, 500);
        int[] tonnes = {1, 9, 10, 99, 100, 499, 500};
        for (int told : tonnes) {
            SiloPads x = new SiloPads();
            x.ship(2, 900, 900);
            type(x, "1<2:" + told);
            due("comes", x.play(), told);
            due("in the silo", x.silo(1, 0), told);
        }
    }

    private static void hoursFrom1To24() {
        sentence("or hours, 1 to 24 (for which it flows)");
        numbersAre("0>0:", 1, 24);
        numbersAre("3>5:", 1, 24);
        for (int hours = 1; hours <= 24; hours++) {
            SiloPads x = filled(400);
            type(x, "0>1:" + hours);
            due("flows", x.play(), 5 * hours);
        }
    }

    private static void daysFrom1To30() {
        sentence("or \"+\" and days, 1 to 30 (they pass)");
        numbersAre("+", 1, 30);
        for (int days = 1; days <= 30; days++) {
            SiloPads x = typed("+" + days);
            due("no tonnes", x.play(), 0);
            due("days", x.count(0), days);
        }
    }

    private static void noLeadingZeros() {
        sentence("numbers without a leading zero");
        String[] texts = {"0<0:0", "0<0:01", "0>0:0", "0>0:01", "+0", "+01", "+1;+0", "00<0:1", "0<00:1"};
        int[] errors = {4, 4, 4, 4, 1, 1, 4, 1, 3};
        for (int k = 0; k < texts.length; k++) {
            due(texts[k], typed(texts[k]).firstError(), errors[k]);
        }
    }

    private static void oneOrMoreParts() {
        sentence("Loads as a text are one or more parts with \";\" between them");
        dueText("none", thrownBy(new SiloPads()::play), "IllegalArgumentException");
        due("only a ;", typed(";").firstError(), 0);
        due("two of them", typed("+1;;").firstError(), 3);
        due("parts without one", typed("+1+1").firstError(), 2);
        due("parts without one", typed("0<0:1+1").firstError(), 5);
        for (int parts = 1; parts <= 20; parts++) {
            SiloPads x = typed("+1" + ";+1".repeat(parts - 1));
            due("no tonnes", x.play(), 0);
            due("a day of each", x.count(0), parts);
        }
    }

    private static void playNeedsACompleteText() {
        sentence("promise 12: IllegalArgumentException if the buffer is not complete loads as a text (the buffer stays)");
        String whole = "0<1:500;3>5:24;+30";
        for (int length = 0; length <= whole.length(); length++) {
            String text = whole.substring(0, length);
            boolean complete = text.matches("0<1:[0-9]+(;3>5:[0-9]+(;\\+[0-9]+)?)?");
            if (complete) {
                dueText(text, thrownBy(typed(text)::play), "nothing");
            } else {
                refused("play of " + text, ARGUMENT, () -> typed(text), SiloPads::play);
            }
        }
        Maker late = () -> {
            SiloPads x = filled(100);
            x.ship(0, 900, 900);
            type(x, "0<0:10;0>1:1;+1;0>1:25");
            return x;
        };
        refused("with an error in its last part only", ARGUMENT, late, SiloPads::play);
        SiloPads x = late.make();
        thrownBy(x::play);
        due("the buffer stays", x.firstError(), 21);
        due("whole", x.clearBuffer(), 22);
    }

    private static void playClearsTheBuffer() {
        sentence("promise 12: and clears it");
        SiloPads x = typed("+1");
        x.play();
        due("cleared", x.clearBuffer(), 0);
        dueThrow(x, "nothing to play again", ARGUMENT, x::play);
        type(x, "0>1:2");
        due("nothing flows, but it is played", x.play(), 0);
        due("cleared", x.firstError(), 0);
    }

    private static void playOf60Characters() {
        sentence("The buffer has at most 60 characters: all are played");
        SiloPads x = typed("+1;".repeat(19) + "+30");
        due("full", x.firstError(), 60);
        due("no tonnes", x.play(), 0);
        due("days", x.count(0), 49);
        due("cleared", x.append('+'), 1);
        SiloPads y = new SiloPads();
        y.ship(5, 900, 900);
        type(y, "+1;".repeat(17) + "+12;3<5:7");
        due("the last part", y.play(), 7);
        due("days", y.count(0), 29);
    }

    private static void playPartByPart() {
        sentence("promise 12: Does what the buffer tells, part by part; The buffer is read from left to right");
        SiloPads x = new SiloPads();
        x.ship(0, 900, 900);
        type(x, "0<0:10;+1;0<0:20;0>1:1;+2;0<0:30");
        due("tonnes", x.play(), 10 + 20 + 5 + 30);
        layersAre(x, 0, 5, 20, 30);
        layerIs(x, 0, 0, 5, 3, 0);
        layerIs(x, 0, 1, 20, 2, 0);
        layerIs(x, 0, 2, 30, 0, 0);
        SiloPads y = new SiloPads();
        y.ship(0, 900, 900);
        type(y, "0>1:1;0<0:10");
        due("nothing flows before it comes", y.play(), 10);
        SiloPads z = new SiloPads();
        z.ship(0, 900, 900);
        type(z, "0<0:10;0>1:1");
        due("it flows behind it", z.play(), 15);
    }

    private static void playReturnsTonnesIntoSilosAndShips() {
        sentence("promise 12: Returns the tonnes that come into silos and into ships by it, together");
        SiloPads x = filled(400);
        x.pads(0, 4);
        x.ship(2, 900, 45);
        type(x, "0>1:1");
        due("without the dust", x.play(), 152);
        type(x, "1<2:50");
        due("as much as comes", x.play(), 45);
        type(x, "0>1:1;1<1:100;2<2:5;+1");
        due("together", x.play(), 152 + 100);
        due("dust", x.count(3), 16);
    }

    private static void playsWhatBringsNothing() {
        sentence("promise 12: (All parts are possible.)");
        undoable("out of an empty ship and an empty silo", 0, () -> typed("0<0:500;3>5:24"), SiloPads::play);
        undoable("into a full silo and a full ship", 0, () -> {
            SiloPads x = filled(500, 500, 200);
            x.ship(0, 900, 900);
            type(x, "0<0:500;0>0:24");
            return x;
        }, SiloPads::play);
    }

    private static void playIsOneCall() {
        sentence("promise 12: Undoable, as one call");
        undoable("many parts", 10 + 20 + 5, () -> {
            SiloPads x = new SiloPads();
            x.ship(0, 900, 900);
            type(x, "0<0:10;+1;0<0:20;+30;1>2:3;0>1:1;0<0:5");
            return x;
        }, SiloPads::play);
        SiloPads x = typed("+1;+1;+1;+1;+1;+1;+1;+1");
        x.play();
        due("one state", x.count(14), 1);
        due("none left", x.undo(), 0);
        due("no days", x.count(0), 0);
    }

    private static void playOfEachSiloAndShip() {
        sentence("each a silo, 0 to 3, and a ship, 0 to 5");
        for (int silo = 0; silo < 4; silo++) {
            for (int ship = 0; ship < 6; ship++) {
                SiloPads x = new SiloPads();
                x.ship(ship, 900, 100);
                type(x, silo + "<" + ship + ":60;" + silo + ">" + ship + ":2");
                due("both ways", x.play(), 60 + 10);
                due("silo", x.silo(silo, 0), 50);
                due("ship", x.shipOf(ship, 0), 50);
            }
        }
    }

    private static void playCountsAsTheCallsDo() {
        sentence("promise 12: Does what the buffer tells: as the calls would");
        SiloPads played = filled(100, 50);
        SiloPads called = filled(100, 50);
        for (SiloPads x : new SiloPads[] {played, called}) {
            x.pads(0, 4);
            x.ship(0, 900, 900);
        }
        type(played, "0<0:30;+4;0>1:2;0<0:1;+30;0>1:24;1<0:500");
        called.unload(0, 0, 30);
        due("an arch", called.pass(4), 1);
        called.flow(0, 1, 2);
        called.unload(0, 0, 1);
        called.pass(30);
        called.flow(0, 1, 24);
        called.unload(1, 0, 500);
        due("tonnes", played.play(), 30 + 57 + 38 + 1 + 0 + 500);
        dueText("the same comes of it", view(played), view(called));
        due("formed", played.count(9), 1);
    }

    private static void undoRestoresTheLatest() {
        sentence("promise 13: Restores the latest saved state, and drops it. Returns how many saved states are left");
        SiloPads x = new SiloPads();
        for (int k = 1; k <= 6; k++) {
            x.ship(0, 900, k);
            due("states", x.count(14), k);
        }
        for (int k = 5; k >= 0; k--) {
            due("left", x.undo(), k);
            due("seen", x.count(14), k);
            due("tonnes", x.shipOf(0, 0), k);
        }
        due("hold as at first", x.shipOf(0, 1), 500);
        due("as a new one", x.digest(), new SiloPads().digest());
    }

    private static void sixStatesAtMost() {
        sentence("At most 6 states are saved");
        SiloPads x = new SiloPads();
        for (int k = 1; k <= 20; k++) {
            x.pass(1);
            due("states", x.count(14), Math.min(6, k));
        }
        for (int k = 5; k >= 0; k--) {
            due("left", x.undo(), k);
        }
        dueThrow(x, "no seventh", STATE, x::undo);
        due("six days back", x.count(0), 14);
    }

    private static void seventhDropsTheOldest() {
        sentence("the oldest one is dropped first");
        for (int calls = 5; calls <= 14; calls++) {
            SiloPads x = new SiloPads();
            for (int k = 1; k <= calls; k++) {
                x.ship(0, 900, 10 * k);
            }
            int states = Math.min(6, calls);
            for (int k = 1; k <= states; k++) {
                due("left", x.undo(), states - k);
                due("tonnes", x.shipOf(0, 0), 10 * (calls - k));
            }
            dueThrow(x, "no more", STATE, x::undo);
            due("stays", x.shipOf(0, 0), calls <= 6 ? 0 : 10 * (calls - 6));
        }
    }

    private static void undoLeavesTheBuffer() {
        sentence("all, also what is counted so far, but the buffer and the saved states");
        SiloPads x = new SiloPads();
        x.pass(1);
        type(x, "+2");
        x.undo();
        due("what came behind it stays", x.digest(), hashOf(x, "+2"));
        x.pass(1);
        x.clearBuffer();
        x.undo();
        due("what was cleared does not come back", x.clearBuffer(), 0);
        type(x, "+3");
        x.play();
        x.undo();
        due("what was played does not either", x.firstError(), 0);
        due("days", x.count(0), 0);
    }

    private static void undoRestoresAll() {
        sentence("saves the state from before it: all");
        String before = view(busy());
        Call[] calls = {y -> y.ship(0, 1, 1), y -> y.ship(1, 900, 0), y -> y.unload(0, 0, 500), y -> y.unload(3, 0, 500),
            y -> y.flow(0, 5, 24), y -> y.flow(2, 5, 24), y -> y.pads(1, 0), y -> y.pads(0, 1), y -> y.shake(0), y -> y.shake(1),
            y -> y.shake(2), y -> y.pass(1), y -> y.pass(30), y -> y.set(0, 16), y -> y.set(1, 20), y -> y.set(2, 5), y -> y.set(3, 0)};
        for (int first = 0; first < calls.length; first++) {
            SiloPads x = busy();
            for (int k = 0; k < 6; k++) {
                calls[(first + k) % calls.length].answer(x);
            }
            for (int k = 0; k < 6; k++) {
                x.undo();
            }
            dueText("six calls from " + first + " undone", view(x), before);
        }
    }

    private static void undoRestoresWhatIsCounted() {
        sentence("also what is counted so far");
        SiloPads x = archedSilo(500, 100);
        x.pads(0, 4);
        x.undo();
        x.ship(1, 900, 30);
        int[] before = new int[14];
        for (int what = 0; what < 14; what++) {
            before[what] = x.count(what);
        }
        x.pads(0, 4);
        x.flow(0, 1, 2);
        x.shake(0);
        x.pass(2);
        x.ship(1, 900, 5);
        x.shake(0);
        due("dust", x.count(3), before[3] + 6);
        for (int k = 0; k < 6; k++) {
            x.undo();
        }
        for (int what = 0; what < 14; what++) {
            due("count " + what, x.count(what), before[what]);
        }
    }

    private static void undoIsNotUndoable() {
        sentence("promise 13: it saves no state");
        SiloPads x = new SiloPads();
        x.pass(1);
        x.pass(2);
        due("one left", x.undo(), 1);
        due("none left", x.undo(), 0);
        due("not back again", x.count(0), 0);
    }

    private static void callsBehindAnUndo() {
        sentence("promise 13: calls behind an undo save anew");
        SiloPads x = new SiloPads();
        for (int k = 1; k <= 8; k++) {
            x.ship(0, 900, k);
        }
        x.undo();
        x.undo();
        due("sixth", x.shipOf(0, 0), 6);
        x.ship(0, 900, 77);
        due("saved", x.count(14), 5);
        x.ship(0, 900, 78);
        x.ship(0, 900, 79);
        due("six", x.count(14), 6);
        int[] tonnes = {78, 77, 6, 5, 4, 3};
        for (int t : tonnes) {
            x.undo();
            due("tonnes", x.shipOf(0, 0), t);
        }
        dueThrow(x, "no more", STATE, x::undo);
    }

    private static void undoOfNothing() {
        sentence("promise 13: IllegalStateException if there is none");
        refused("undo of a new object", STATE, SiloPads::new, SiloPads::undo);
        refused("undo of refused calls", STATE, () -> {
            SiloPads x = new SiloPads();
            thrownBy(() -> x.pass(31));
            thrownBy(() -> x.shake(0));
            thrownBy(() -> x.set(0, 17));
            thrownBy(x::play);
            return x;
        }, SiloPads::undo);
        refused("undo behind the last one", STATE, () -> {
            SiloPads x = new SiloPads();
            x.pass(1);
            x.undo();
            return x;
        }, SiloPads::undo);
    }

    private static void whatIsNotUndoable() {
        sentence("Each method that is marked \"undoable\", and no other one, saves the state");
        SiloPads x = filled(10, 10);
        while (x.count(14) > 0) {
            x.undo();
        }
        x.append('+');
        x.firstError();
        x.clearBuffer();
        x.silo(0, 0);
        thrownBy(() -> x.layer(0, 0, 0));
        x.shipOf(0, 0);
        x.count(0);
        x.whyNot(0, 0);
        x.ifFlowed(0, 0, 1, 1);
        x.urgent();
        x.nextArch();
        x.shakesNeeded(0);
        x.softness();
        x.digest();
        due("none saved", x.count(14), 0);
    }
}
