/** Puts texts on THE PAGE, eight letters a call. */
final class Typing {
    private Typing() {
    }

    static long word(String text) {
        long w = 0;
        for (int i = text.length() - 1; i >= 0; i--) {
            w = w << 8 | text.charAt(i);
        }
        return w;
    }

    static int type(LinesDownFilm film, String text) {
        int size = film.count(5);
        for (int i = 0; i < text.length(); i += 8) {
            size = film.letters(word(text.substring(i, Math.min(i + 8, text.length()))));
        }
        return size;
    }

    static int machine(LinesDownFilm film, String text) {
        film.blank();
        type(film, text);
        return film.machine();
    }
}
