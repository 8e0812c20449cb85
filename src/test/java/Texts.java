import java.nio.charset.StandardCharsets;

/** Brings texts to a store's TAPE. */
final class Texts {
    private Texts() {
    }

    /** Feeds a text of at most 400 bytes and cuts the TAPE to it. */
    static void feed(LineStore store, String text) {
        store.end(0);
        byte[] bytes = text.getBytes(StandardCharsets.ISO_8859_1);
        for (int at = 0; at < bytes.length; at += 20) {
            store.feed(number(bytes, at), number(bytes, at + 4), number(bytes, at + 8),
                    number(bytes, at + 12), number(bytes, at + 16));
        }
        if (!store.end(bytes.length)) {
            throw new IllegalStateException("the text is too long for the tape");
        }
    }

    static int ask(LineStore store, String text) {
        feed(store, text);
        return store.question();
    }

    /** The first wrong byte of a text, NONE for a right one. */
    static int fault(LineStore store, String text) {
        feed(store, text);
        try {
            store.question();
        } catch (IllegalArgumentException e) {
            return store.fault();
        }
        return store.fault() == LineStore.NONE ? LineStore.NONE : -2;
    }

    private static int number(byte[] bytes, int at) {
        int number = 0;
        for (int i = at; i < at + 4; i++) {
            number = number << 8 | (i < bytes.length ? bytes[i] & 255 : 0);
        }
        return number;
    }
}
