/** Towns that several tests begin with, and all that can be told of one. */
final class Towns {
    // 0-1 (5), 1-2 (6), 0-2 (20), 2-3 (1, closed); from 0 to 2
    static final String SAMPLE = "T402s0105s1206s0220s2301x";
    static final String SAMPLE_STATE = "4 4 1 0 2 11 2 0 |0 1 5 0 1|1 2 6 0 1|0 2 20 0 0|2 3 1 1 0";
    static final String NEW_STATE = "2 0 0 0 1 -999 -999 0 ";

    private Towns() {
    }

    static void write(ClosedStreets x, String text) {
        x.clearText();
        for (int i = 0; i < text.length(); i++) {
            x.append(text.charAt(i));
        }
    }

    static ClosedStreets of(String text) {
        ClosedStreets x = new ClosedStreets();
        write(x, text);
        x.load();
        x.clearText();
        return x;
    }

    static ClosedStreets sample() {
        return of(SAMPLE);
    }

    /** 9 crossings and 20 streets, each of the crossings 0 to 3 joined with the next five. */
    static String twentyStreets(String head, String length) {
        StringBuilder town = new StringBuilder(head);
        for (int a = 0; a < 4; a++) {
            for (int k = 1; k <= 5; k++) {
                town.append('s').append(a).append(a + k).append(length);
            }
        }
        return town.toString();
    }

    static ClosedStreets full() {
        return of(twentyStreets("T901", "01"));
    }

    static String way(ClosedStreets x) {
        return way(x::wayAt);
    }

    static String way(Due.CallWith place) {
        StringBuilder way = new StringBuilder();
        for (int i = 0; i < 10 && place.answer(i) != ClosedStreets.NONE; i++) {
            way.append(place.answer(i));
        }
        return way.toString();
    }

    /** All that the calls of the section "the town" tell of the state. */
    static String state(ClosedStreets x) {
        StringBuilder told = new StringBuilder();
        for (int what = 0; what < 8; what++) {
            told.append(x.about(what)).append(' ');
        }
        for (int s = 0; s < x.about(1); s++) {
            for (int what = 0; what < 5; what++) {
                told.append(what == 0 ? '|' : ' ').append(x.street(s, what));
            }
        }
        return told.toString();
    }

    /** All that an object holds: state, text, remembered states, slots; it is used up by that. */
    static String everything(ClosedStreets x) {
        StringBuilder told = new StringBuilder(state(x));
        told.append("\ntext ").append(x.errorPosition(false)).append(' ')
                .append(x.errorPosition(true)).append(' ').append(x.clearText());
        for (int i = 0; i < 15; i++) {
            told.append("\nundo ").append(Due.told(x::undo)).append(' ').append(state(x));
        }
        for (int i = 0; i < 2; i++) {
            int slot = i;
            told.append("\nslot ").append(Due.told(() -> x.restore(slot))).append(' ')
                    .append(state(x));
        }
        return told.toString();
    }
}
