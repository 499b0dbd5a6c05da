/** Each sentence of the document that names a case, one after the other; and whether the document has others, too. */
public final class SentencesTest {
    public static void main(String[] args) {
        Book book = new Book();
        ConventionSentences.run(book);
        SettingSentences.run(book);
        StarSentences.run(book);
        NavigatorSentences.run(book);
        SightSentences.run(book);
        MedianSentences.run(book);
        SailingSentences.run(book);
        NightSentences.run(book);
        CountSentences.run(book);
        TextSentences.run(book);
        UndoSentences.run(book);
        book.dueWhole();
        Due.end();
    }
}
